/-- rows laid so far: (field, kind, length) -/
def INv (T : cm_T) (M : cm_M) (T1 : cm_T) (M1 : cm_M) (m : Nat) (U : Int64) (L : List (Int × Nat × Nat)) : Prop := T1.2.2 = m + 1 + L.length ∧ T1.1 m = 8 ∧ Ag (m + 1) m T M T1 M1 ∧ (M1.1 m = (fun _ => w3 0) ∧ M1.2.1 m 7 = w6 0 ∧ M1.2.1 m 8 = U) ∧ ∀ (j : Nat) (f : Int) (k n : Nat), L[j]? = some (f, k, n) → T1.1 (m + 1 + j) = k ∧ T1.2.1 (m + 1 + j) = n ∧ M1.2.2 m f = some (m + 1 + j) ∧ M1.1 (m + 1 + j) = (fun _ => w3 0)
theorem INv.s {T : cm_T} {M : cm_M} {T1 : cm_T} {M1 : cm_M} {m : Nat} {U : Int64} {L : List (Int × Nat × Nat)} (h : INv T M T1 M1 m U L) (f : Int) (k n : Nat) (hf : ∀ q ∈ L, q.1 ≠ f) : INv T M (cm_tn T1 k n) (cm_wr (cm_zm M1 T1.2.2) m f (some T1.2.2)) m U (L ++ [(f, k, n)]) := by
  obtain ⟨h1, h2, ⟨a1, a2, a3, a4, a5⟩, ⟨b1, b2, b3⟩, h5⟩ := h
  have ln : (L ++ [(f, k, n)]).length = L.length + 1 := by simp
  refine ⟨by rw [tn_z, ln]; omega, by rw [tn_kn (by omega)]; exact h2, ⟨fun q hq => ?_, fun q hq => ?_, fun q hq hne => ?_, fun q hq hne => ?_, fun q hq hne => ?_⟩, ⟨?_, ?_, ?_⟩, fun j g c e hj => ?_⟩
  · rw [tn_kn (by omega)]; exact a1 q hq
  · rw [tn_ln (by omega)]; exact a2 q hq
  · rw [cn_wr1, zm_1n (by omega)]; exact a3 q hq hne
  · rw [cn_wr2, zm_2n (by omega)]; exact a4 q hq hne
  · rw [wr_r hne, zm_3n (by omega)]; exact a5 q hq hne
  · rw [cn_wr1, zm_1n (by omega)]; exact b1
  · rw [cn_wr2, zm_2n (by omega)]; exact b2
  · rw [cn_wr2, zm_2n (by omega)]; exact b3
  · by_cases q : j < L.length
    · rw [List.getElem?_append_left q] at hj
      obtain ⟨x1, x2, x3, x4⟩ := h5 j g c e hj
      have hm := hf _ (List.mem_of_getElem? hj)
      refine ⟨by rw [tn_kn (by omega)]; exact x1, by rw [tn_ln (by omega)]; exact x2, ?_, by rw [cn_wr1, zm_1n (by omega)]; exact x4⟩
      rw [cn_wr_ne (Or.inr hm), zm_3n (by omega)]; exact x3
    · rw [List.getElem?_append_right (by omega)] at hj
      have ej : j = L.length := by
        rcases Nat.lt_or_ge j (L.length + 1) with w | w
        · omega
        · rw [List.getElem?_eq_none (by simp; omega)] at hj; cases hj
      subst ej
      rw [Nat.sub_self] at hj
      have e3 : (f, k, n) = (g, c, e) := by simpa using hj
      cases e3
      rw [← h1]
      exact ⟨tn_ke rfl, tn_le rfl, cn_wr_eq, by rw [cn_wr1, zm_1e rfl]⟩
theorem INv.u {T : cm_T} {M : cm_M} {T1 : cm_T} {M1 : cm_M} {m : Nat} {U V : Int64} {L : List (Int × Nat × Nat)} (h : INv T M T1 M1 m U L) : INv T M T1 (cm_wl M1 m 8 V) m V L := by
  obtain ⟨h1, h2, ⟨a1, a2, a3, a4, a5⟩, ⟨b1, b2, b3⟩, h5⟩ := h
  refine ⟨h1, h2, ⟨a1, a2, a3, fun q hq hne => ?_, a5⟩, ⟨b1, by rw [cn_wl_ne (Or.inr (by decide))]; exact b2, cn_wl_eq⟩, h5⟩
  rw [wl_r hne]; exact a4 q hq hne
theorem INv_0 {T : cm_T} {M : cm_M} {m : Nat} (h1 : T.2.2 = m + 1) (h2 : T.1 m = 8) (h3 : M.1 m = (fun _ => w3 0)) (h4 : M.2.1 m = (fun _ => w6 0)) : INv T M T M m (w6 0) [] := ⟨h1, h2, ⟨fun _ _ => rfl, fun _ _ => rfl, fun _ _ _ => rfl, fun _ _ _ => rfl, fun _ _ _ => rfl⟩, ⟨h3, by rw [h4], by rw [h4]⟩, fun j f k n hj => by cases hj⟩

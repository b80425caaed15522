theorem cm_as_get : ∀ (lv : cm_LV) (i k : Nat) (v : Value), cm_get lv k = some v → (i + k, v) ∈ cm_as lv i
  | [], _, _, _, h => by simp [cm_get] at h
  | o :: t, i, 0, v, h => by
    simp only [cm_get] at h
    subst h
    exact List.mem_cons_self
  | o :: t, i, k + 1, v, h => by
    simp only [cm_get] at h
    have h1 := cm_as_get t (i + 1) k v h
    have e : i + 1 + k = i + (k + 1) := by omega
    rw [e] at h1
    cases o with
    | none => exact h1
    | some w => exact List.mem_cons_of_mem _ h1
theorem cm_as_of : ∀ (lv : cm_LV) (i j : Nat) (v : Value), (j, v) ∈ cm_as lv i → i ≤ j ∧ cm_get lv (j - i) = some v
  | [], i, j, v, h => by simp [cm_as] at h
  | none :: t, i, j, v, h => by
    obtain ⟨h1, h2⟩ := cm_as_of t (i + 1) j v h
    have e : j - i = (j - (i + 1)) + 1 := by omega
    exact ⟨by omega, by rw [e]; exact h2⟩
  | some w :: t, i, j, v, h => by
    rcases List.mem_cons.mp h with h | h
    · cases h
      exact ⟨Nat.le_refl _, by rw [Nat.sub_self]; rfl⟩
    · obtain ⟨h1, h2⟩ := cm_as_of t (i + 1) j v h
      have e : j - i = (j - (i + 1)) + 1 := by omega
      exact ⟨by omega, by rw [e]; exact h2⟩
theorem cm_as_iff (lv : cm_LV) (k : Nat) (v : Value) : (k, v) ∈ cm_as lv 0 ↔ cm_get lv k = some v :=
  ⟨fun h => by simpa using (cm_as_of lv 0 k v h).2, fun h => by simpa using cm_as_get lv 0 k v h⟩
theorem cm_get_put : ∀ (lv : cm_LV) (k j : Nat) (v w : Option Value), cm_get (cm_put lv k v) j = w → w ≠ none → (j = k ∧ w = v) ∨ (j ≠ k ∧ cm_get lv j = w)
  | [], k, j, v, w, h, hw => by
    simp [cm_put, cm_get] at h
    exact absurd h.symm hw
  | a :: t, 0, 0, v, w, h, hw => by
    simp only [cm_put, cm_get] at h
    exact Or.inl ⟨rfl, h.symm⟩
  | a :: t, 0, j + 1, v, w, h, hw => Or.inr ⟨by omega, h⟩
  | a :: t, k + 1, 0, v, w, h, hw => Or.inr ⟨by omega, h⟩
  | a :: t, k + 1, j + 1, v, w, h, hw => by
    simp only [cm_put, cm_get] at h
    rcases cm_get_put t k j v w h hw with ⟨h1, h2⟩ | ⟨h1, h2⟩
    · exact Or.inl ⟨by omega, h2⟩
    · exact Or.inr ⟨by omega, h2⟩
def cm_has (ls : Array Slot) (n : Nat) (lv : cm_LV) : Prop := lv_has ls n (cm_as lv 0) ∧ lv.length = n
theorem cm_bd_lt : ∀ (lv : cm_LV) (k : Nat), cm_bd lv k = true → k < lv.length
  | [], _, h => by simp [cm_bd] at h
  | _ :: _, 0, _ => by simp
  | _ :: t, k + 1, h => by
    have := cm_bd_lt t k h
    simp only [List.length_cons]
    omega
theorem cm_len_put : ∀ (lv : cm_LV) (k : Nat) (v : Option Value), (cm_put lv k v).length = lv.length
  | [], k, v => rfl
  | a :: t, 0, v => rfl
  | a :: t, k + 1, v => by simp [cm_put, cm_len_put t k v]
theorem cm_has.at {ls : Array Slot} {n : Nat} {lv : cm_LV} (h : cm_has ls n lv) {k : Nat} {v : Value} (hk : cm_get lv k = some v) : ls[k]? = some (.val v) := h.1.2.2 (k, v) ((cm_as_iff lv k v).mpr hk)
theorem cm_nl_spec {lv : cm_LV} {i k : Nat} {w : Value} (h : cm_nl lv i = true) (hk : k + 1 = i) (hg : cm_get lv k = some w) : w.category = 1 := by
  subst hk
  simp only [cm_nl, hg] at h
  cases w <;> simp_all [Value.category]
theorem cm_store1 {ls ls' : Array Slot} {n : Nat} {lv : cm_LV} {i : Nat} {v : Value} (h0 : cm_has ls n lv) (hn : cm_nl lv i = true) (h' : lv_has ls' n ((i, v) :: (cm_as lv 0).filter (fun q => !(q.1 == i) && !(q.1 + 1 == i && q.2.category == 2)))) : cm_has ls' n (cm_put lv i (some v)) := by
  refine ⟨⟨h'.1, h'.2.1, fun q hq => ?_⟩, by rw [cm_len_put]; exact h0.2⟩
  obtain ⟨k, w⟩ := q
  have hg := (cm_as_iff _ k w).mp hq
  refine h'.2.2 (k, w) ?_
  rcases cm_get_put lv i k (some v) (some w) hg (by simp) with ⟨h1, h2⟩ | ⟨h1, h2⟩
  · cases h2
    subst h1
    exact List.mem_cons_self
  · refine List.mem_cons_of_mem _ (List.mem_filter.mpr ⟨(cm_as_iff lv k w).mpr h2, ?_⟩)
    by_cases hk : k + 1 = i
    · have := cm_nl_spec hn hk h2
      simp [h1, this]
    · simp [h1, hk]
theorem cm_store2 {ls ls' : Array Slot} {n : Nat} {lv : cm_LV} {i : Nat} {v : Value} (h00 : cm_has ls n lv) (hn : cm_nl lv i = true) (h' : lv_has ls' n ((i, v) :: (cm_as lv 0).filter (fun q => !(q.1 == i) && (!(q.1 == i + 1) && !(q.1 + 1 == i && q.2.category == 2))))) : cm_has ls' n (cm_put (cm_put lv i (some v)) (i + 1) none) := by
  refine ⟨⟨h'.1, h'.2.1, fun q hq => ?_⟩, by rw [cm_len_put, cm_len_put]; exact h00.2⟩
  obtain ⟨k, w⟩ := q
  have hg := (cm_as_iff _ k w).mp hq
  refine h'.2.2 (k, w) ?_
  rcases cm_get_put _ (i + 1) k none (some w) hg (by simp) with ⟨h1, h2⟩ | ⟨h0, hg⟩
  · cases h2
  rcases cm_get_put lv i k (some v) (some w) hg (by simp) with ⟨h1, h2⟩ | ⟨h1, h2⟩
  · cases h2
    subst h1
    exact List.mem_cons_self
  · refine List.mem_cons_of_mem _ (List.mem_filter.mpr ⟨(cm_as_iff lv k w).mpr h2, ?_⟩)
    by_cases hk : k + 1 = i
    · have := cm_nl_spec hn hk h2
      simp [h0, h1, this]
    · simp [h0, h1, hk]
theorem cm_has_lt {ls : Array Slot} {n : Nat} {lv : cm_LV} (h : cm_has ls n lv) {k : Nat} {v : Value} (hk : cm_get lv k = some v) : k < n := by
  have h1 := h.at hk
  rw [← h.1.1]
  exact lv_lt h1
theorem cm_cw_sum : ∀ st : List Value, (st.map fun v => v.category).sum = cm_cw st
  | [] => rfl
  | v :: st => by
    have h := cm_cw_sum st
    rw [List.map_cons, List.sum_cons, h]
    cases v <;> rfl
theorem cm_pop_spec : ∀ (n : Nat) (acc st as r : List Value), cm_pop n acc st = some (as, r) → ∃ x : List Value, as = x ++ acc ∧ x.length = n ∧ st = x.reverse ++ r
  | 0, acc, st, as, r, h => by
    simp only [cm_pop, Option.some.injEq, Prod.mk.injEq] at h
    exact ⟨[], by simp [h.1], rfl, by simp [h.2]⟩
  | n + 1, acc, [], as, r, h => by simp [cm_pop] at h
  | n + 1, acc, v :: st, as, r, h => by
    simp only [cm_pop] at h
    obtain ⟨x, h1, h2, h3⟩ := cm_pop_spec n (v :: acc) st as r h
    exact ⟨x ++ [v], by simp [h1], by simp [h2], by simp [h3]⟩
theorem cm_pop_nil {n : Nat} {st as r : List Value} (h : cm_pop n [] st = some (as, r)) : as.length = n ∧ st = as.reverse ++ r := by
  obtain ⟨x, h1, h2, h3⟩ := cm_pop_spec n [] st as r h
  simp only [List.append_nil] at h1
  subst h1
  exact ⟨h2, h3⟩
theorem cm_cls {ci : Nat} (h : ci < 8) : vwCl[ci]? = some (cm_R ci, cm_TT ci, cm_nf ci) := by
  match ci, h with
  | 0, _ => rfl
  | 1, _ => rfl
  | 2, _ => rfl
  | 3, _ => rfl
  | 4, _ => rfl
  | 5, _ => rfl
  | 6, _ => rfl
  | 7, _ => rfl
  | n + 8, h => exact absurd h (by omega)
theorem cm_u0 : ∀ w ∈ u_ws RX0 TX0 6, w ∈ cm_tb := by decide +kernel
theorem cm_u1 : ∀ w ∈ u_ws RX1 TX1 3, w ∈ cm_tb := by decide +kernel
theorem cm_u2 : ∀ w ∈ u_ws RX2 TX2 1, w ∈ cm_tb := by decide +kernel
theorem cm_u3 : ∀ w ∈ u_ws RX3 TX3 10, w ∈ cm_tb := by decide +kernel
theorem cm_u4 : ∀ w ∈ u_ws RX4 TX4 2, w ∈ cm_tb := by decide +kernel
theorem cm_u5 : ∀ w ∈ u_ws RX5 TX5 2, w ∈ cm_tb := by decide +kernel
theorem cm_u6 : ∀ w ∈ u_ws RX6 TX6 14, w ∈ cm_tb := by decide +kernel
theorem cm_u7 : ∀ w ∈ u_ws RX7 TX7 29, w ∈ cm_tb := by decide +kernel
theorem cm_uin {ci : Nat} (h : ci < 8) : ∀ w ∈ u_ws (cm_R ci) (cm_TT ci) (cm_nf ci), w ∈ cm_tb := by
  match ci, h with
  | 0, _ => exact cm_u0
  | 1, _ => exact cm_u1
  | 2, _ => exact cm_u2
  | 3, _ => exact cm_u3
  | 4, _ => exact cm_u4
  | 5, _ => exact cm_u5
  | 6, _ => exact cm_u6
  | 7, _ => exact cm_u7
  | n + 8, h => exact absurd h (by omega)
theorem cm_uty {ci : Nat} (h : ci < 8) : ∀ k, k < cm_nf ci → parseFieldDescriptor (cm_TT ci k).2.2.1 = some (cm_ty ci k) := by
  match ci, h with
  | 0, _ => exact tyX0_ok
  | 1, _ => exact tyX1_ok
  | 2, _ => exact tyX2_ok
  | 3, _ => exact tyX3_ok
  | 4, _ => exact tyX4_ok
  | 5, _ => exact tyX5_ok
  | 6, _ => exact tyX6_ok
  | 7, _ => exact tyX7_ok
  | n + 8, h => exact absurd h (by omega)
theorem cm_unm {ci : Nat} (h : ci < 8) : ∀ a, a < cm_nf ci → ∀ b, b < cm_nf ci → a ≠ b → (cm_TT ci a).2.1 ≠ (cm_TT ci b).2.1 := by
  match ci, h with
  | 0, _ => exact nmX0
  | 1, _ => exact nmX1
  | 2, _ => exact nmX2
  | 3, _ => exact nmX3
  | 4, _ => exact nmX4
  | 5, _ => exact nmX5
  | 6, _ => exact nmX6
  | 7, _ => exact nmX7
  | n + 8, h => exact absurd h (by omega)
def cm_X (p : Program) (s : State) (m : MethodId) (args : Array Value) (meth : Method) (c : Code) (cc : ByteArray) (maxL : Nat) (J : cm_J) (G : cm_G) : Prop :=
  p.tables.exec = Jvm.exec ∧ c.code = cc ∧ c.maxLocals = maxL ∧ s.vm.findClass (cm_R J.1) = some m.cls ∧ (J.2.1 = true → meth.name = "<init>") ∧ (∀ w ∈ cm_tb, w.before args s = true) ∧ cm_K G s
def cm_P (G : cm_G) (A0 : Nat → Prop) (H0 : Heap) (T : cm_T) (M : cm_M) (H : Heap) (locs : List Loc) : Prop := cm_Rep G T M H ∧ va_S A0 H0 H locs ∧ ∀ q, cm_A T q → A0 q
def cm_Sit (G : cm_G) (A0 : Nat → Prop) (H0 : Heap) (mc ms maxL : Nat) (lv : cm_LV) (B : Nat × Nat) (T : cm_T) (M : cm_M) (H : Heap) (locs : List Loc) (cells slots : Nat) (ls : Array Slot) : Prop := cm_P G A0 H0 T M H locs ∧ cells + B.1 = mc ∧ slots + B.2 = ms ∧ cm_has ls maxL lv
theorem cm_at_cong {G : cm_G} {M M' : cm_M} {kd n b : Nat} {H H' : Heap} (h1 : ∀ k, M'.1 b k = M.1 b k) (h2 : ∀ k, M'.2.1 b k = M.2.1 b k) (h3 : ∀ k, M'.2.2 b k = M.2.2 b k) (hH : H'[b]? = H[b]?) (h : cm_at G M kd n b H) : cm_at G M' kd n b H' := by
  obtain ⟨a1, a2, a3⟩ := h
  refine ⟨fun k1 k2 => ?_, fun k1 k2 => ?_, fun k1 => ?_⟩
  · refine ((a1 k1 k2).kept hH).to (fun k _ => ?_)
    simp only [cm_fv, h1, h2, h3]
  · rw [hH, a2 k1 k2]
    congr 2
    funext j
    simp only [cm_ev, h1, h2, h3]
  · obtain ⟨q1, q2, q3⟩ := a3 k1
    exact ⟨by rw [hH]; exact q1, q2, fun j hj => by rw [h1]; exact q3 j hj⟩
theorem cm_P_upd {G : cm_G} {A0 : Nat → Prop} {H0 H H' : Heap} {T : cm_T} {M M' : cm_M} {locs : List Loc} {a i : Nat} (hP : cm_P G A0 H0 T M H locs) (hk : T.1 a ≠ 0 ∧ T.1 a ≠ 40)
    (h1 : ∀ b k, b ≠ a → M'.1 b k = M.1 b k) (h2 : ∀ b k, b ≠ a → M'.2.1 b k = M.2.1 b k) (h3 : ∀ b k, b ≠ a → M'.2.2 b k = M.2.2 b k) (hz : H'.size = H.size) (hH : ∀ q, q ≠ a → H'[q]? = H[q]?) (ha : cm_at G M' (T.1 a) (T.2.1 a) a H') : cm_P G A0 H0 T M' H' (locs ++ [⟨a, i⟩]) := by
  obtain ⟨⟨r1, r2⟩, s1, s2⟩ := hP
  refine ⟨⟨hz.trans r1, fun b => ?_⟩, s1.put hz hH (s2 a (Or.inl hk)), s2⟩
  by_cases hb : b = a
  · subst hb; exact ha
  · exact cm_at_cong (fun k => h1 b k hb) (fun k => h2 b k hb) (fun k => h3 b k hb) (hH b hb) (r2 b)
theorem cm_P_new {G : cm_G} {A0 : Nat → Prop} {H0 H H' : Heap} {T : cm_T} {M : cm_M} {locs : List Loc} {kd n : Nat} (hP : cm_P G A0 H0 T M H locs) (hkd : kd ≠ 40)
    (hz : H'.size = H.size + 1) (hH : ∀ q, q < H.size → H'[q]? = H[q]?) (ha : cm_at G (cm_zm M T.2.2) kd n T.2.2 H') : cm_P G A0 H0 (cm_tn T kd n) (cm_zm M T.2.2) H' locs := by
  obtain ⟨⟨r1, r2⟩, s1, s2⟩ := hP
  refine ⟨⟨by rw [hz, r1]; rfl, fun b => ?_⟩, ⟨by have := s1.1; omega, fun q g1 g2 => (hH q (Nat.lt_of_lt_of_le g1 s1.1)).trans (s1.2.1 q g1 g2), s1.2.2⟩, fun q hq => s2 q ?_⟩
  · show cm_at G (cm_zm M T.2.2) (if b = T.2.2 then kd else T.1 b) (if b = T.2.2 then n else T.2.1 b) b H'
    by_cases hb : b = T.2.2
    · subst hb
      rw [if_pos rfl, if_pos rfl]
      exact ha
    · rw [if_neg hb, if_neg hb]
      have hc := r2 b
      by_cases hlt : b < H.size
      · exact cm_at_cong (fun k => by simp [cm_zm, hb]) (fun k => by simp [cm_zm, hb]) (fun k => by simp [cm_zm, hb]) (hH b hlt) hc
      · obtain ⟨a1, a2, a3⟩ := hc
        refine ⟨fun k1 k2 => ?_, fun k1 k2 => ?_, fun k1 => ?_⟩
        · obtain ⟨cell, q1, -⟩ := a1 k1 k2
          exact absurd (Array.getElem?_eq_some_iff.mp q1).1 hlt
        · exact absurd (Array.getElem?_eq_some_iff.mp (a2 k1 k2)).1 hlt
        · exact absurd (Array.getElem?_eq_some_iff.mp (a3 k1).1).1 hlt
  · rcases hq with ⟨g1, g2⟩ | g1
    · by_cases hb : q = T.2.2
      · exact Or.inr (by omega)
      · refine Or.inl ⟨?_, ?_⟩
        · intro z; apply g1; show (if q = T.2.2 then kd else T.1 q) = 0; rw [if_neg hb]; exact z
        · intro z; apply g2; show (if q = T.2.2 then kd else T.1 q) = 40; rw [if_neg hb]; exact z
    · have g1' : T.2.2 + 1 ≤ q := g1
      exact Or.inr (by omega)
theorem cm_vpin {j : Int32} {n : Nat} (h : cm_ix j n) : ¬ (j < 0 ∨ n ≤ j.toNatClampNeg) := by
  obtain ⟨h1, h2⟩ := h
  intro q
  rcases q with q | q
  · have := Int32.lt_iff_toInt_lt.mp q
    rw [Int32.toInt_zero] at this
    omega
  · have e : j.toNatClampNeg = j.toInt.toNat := rfl
    omega
theorem cm_nat {j : Int32} {n : Nat} (h : cm_ix j n) : ((j.toNatClampNeg : Nat) : Int) = j.toInt ∧ j.toNatClampNeg < n := by
  obtain ⟨h1, h2⟩ := h
  have e : j.toNatClampNeg = j.toInt.toNat := rfl
  omega

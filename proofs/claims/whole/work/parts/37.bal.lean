theorem dp_slc {c : List Int32} {p q : Nat} : ∀ k : Nat, k ≤ q - p → dp (slc c p q) k = dp c (p + k) - dp c p
  | 0, _ => by simp [dp]
  | k + 1, h => by
    have ih := dp_slc (c := c) (p := p) (q := q) k (by omega)
    show dp (slc c p q) k + dstep (gt (slc c p q) k) = (dp c (p + k) + dstep (gt c (p + k))) - dp c p
    rw [ih, slc_at (by omega)]
    omega
theorem slc_bal {c : List Int32} {i j : Nat} (h : Bal c) (hij : i ≤ j) (hj : j ≤ nl c) : Bal (slc c (stt c i) (stt c j)) := by
  obtain ⟨a1, a2, a3⟩ := stt_spec h (show i ≤ nl c by omega)
  obtain ⟨b1, b2, b3⟩ := stt_spec h hj
  have le := stt_le h hij hj
  refine ⟨fun k hk => ?_, ?_⟩
  · rw [slc_len] at hk
    rw [dp_slc k hk, a2]
    have := h.1 (stt c i + k) (by omega)
    omega
  · rw [slc_len, dp_slc _ (Nat.le_refl _), a2, show stt c i + (stt c j - stt c i) = stt c j by omega, b2]
    rfl
theorem Bal_one {x : Int32} (h : dstep x = 0) : Bal [x] := by
  refine ⟨fun k hk => ?_, ?_⟩
  · have hk1 : k ≤ 1 := hk
    rcases (show k = 0 ∨ k = 1 by omega) with e | e
    · rw [e]; exact Int.le_refl _
    · rw [e]; show 0 ≤ dp [x] 0 + dstep (gt [x] 0); show 0 ≤ 0 + dstep x; omega
  · show 0 + dstep x = 0
    omega
theorem dp_co (W : List Int32) : ∀ k : Nat, k ≤ W.length → dp ([w3 10] ++ W ++ [w3 13]) (k + 1) = 1 + dp W k
  | 0, _ => by
    show 0 + dstep (w3 10) = 1 + 0
    decide
  | k + 1, h => by
    have ih := dp_co W k (by omega)
    show dp ([w3 10] ++ W ++ [w3 13]) (k + 1) + dstep (gt ([w3 10] ++ W ++ [w3 13]) (k + 1)) = 1 + (dp W k + dstep (gt W k))
    have e : gt ([w3 10] ++ W ++ [w3 13]) (k + 1) = gt W k := by
      rw [gt_apl (by rw [List.length_append]; show k + 1 < 1 + W.length; omega), Nat.add_comm k 1]
      exact gt_apr (L := [w3 10])
    rw [ih, e]
    omega
theorem Bal_co {W : List Int32} (h : Bal W) : Bal ([w3 10] ++ W ++ [w3 13]) := by
  have hl : ([w3 10] ++ W ++ [w3 13]).length = W.length + 2 := by simp
  have hend : dp ([w3 10] ++ W ++ [w3 13]) (W.length + 2) = 0 := by
    show dp ([w3 10] ++ W ++ [w3 13]) (W.length + 1) + dstep (gt ([w3 10] ++ W ++ [w3 13]) (W.length + 1)) = 0
    rw [dp_co W _ (Nat.le_refl _), h.2]
    have e : gt ([w3 10] ++ W ++ [w3 13]) (W.length + 1) = w3 13 := by
      have := gt_apr (L := [w3 10] ++ W) (L' := [w3 13]) (k := 0)
      rw [show ([w3 10] ++ W).length + 0 = W.length + 1 by simp] at this
      exact this
    rw [e]
    decide
  refine ⟨fun k hk => ?_, by rw [hl]; exact hend⟩
  rw [hl] at hk
  by_cases e0 : k = 0
  · rw [e0]; exact Int.le_refl _
  · by_cases e1 : k = W.length + 2
    · rw [e1, hend]; exact Int.le_refl _
    · have := dp_co W (k - 1) (by omega)
      rw [show k - 1 + 1 = k by omega] at this
      rw [this]
      have := h.1 (k - 1) (by omega)
      omega
theorem gapL_bal {tn : Bool} {co cb ct : List Int32} {o0 o1 b0 b1 t0 t1 : Nat} (ho : Bal co) (hb : Bal cb) (ht : Bal ct) (h1 : o0 ≤ o1) (h2 : o1 ≤ nl co) (h3 : b0 ≤ b1) (h4 : b1 ≤ nl cb) (h5 : t0 ≤ t1) (h6 : t1 ≤ nl ct) : Bal (gapL tn co cb ct o0 o1 b0 b1 t0 t1) := by
  have so := slc_bal ho h1 h2
  have sb := slc_bal hb h3 h4
  have st := slc_bal ht h5 h6
  by_cases q1 : eqr co o0 o1 ct t0 t1
  · rw [gapL_1 q1]; exact so
  · by_cases q2 : eqr co o0 o1 cb b0 b1
    · rw [gapL_2 q1 q2]; exact st
    · by_cases q3 : eqr ct t0 t1 cb b0 b1
      · rw [gapL_3 q1 q2 q3]; exact so
      · rw [gapL_4 q1 q2 q3]
        have w11 : Bal [w3 11] := Bal_one (by decide)
        have w12 : Bal [w3 12] := Bal_one (by decide)
        have key : ∀ A C : List Int32, Bal A → Bal C → Bal ([w3 10] ++ A ++ [w3 11] ++ slc cb (stt cb b0) (stt cb b1) ++ [w3 12] ++ C ++ [w3 13]) := by
          intro A C hA hC
          have := Bal_co (Bal_app (Bal_app (Bal_app (Bal_app hA w11) sb) w12) hC)
          simpa only [List.append_assoc] using this
        cases tn with
        | true => exact key _ _ st so
        | false => exact key _ _ so st
theorem mgS_bal {tn : Bool} {co cb ct : List Int32} (ho : Bal co) (hb : Bal cb) (ht : Bal ct) : ∀ k : Nat, k ≤ nl cb → Bal (mgS tn co cb ct k).2.2.2
  | 0, _ => Bal_nil
  | k + 1, hk => by
    have ih := mgS_bal (tn := tn) ho hb ht k (by omega)
    obtain ⟨a1, a2, a3, a4, a5⟩ := mgS_rg tn co cb ct k
    by_cases h : 0 ≤ prt cb co k ∧ 0 ≤ prt cb ct k
    · rw [mgS_t h.1 h.2]
      have r1 := prt_rg cb co k
      have r2 := prt_rg cb ct k
      have x1 := a4 k (Nat.le_refl _) h.1
      have x2 := a5 k (Nat.le_refl _) h.2
      exact Bal_app (Bal_app ih (gapL_bal ho hb ht (by omega) (by omega) (by omega) (by omega) (by omega) (by omega))) (slc_bal hb (by omega) (by omega))
    · rw [mgS_f h]; exact ih
theorem mgL_bal {tn : Bool} {co cb ct : List Int32} (ho : Bal co) (hb : Bal cb) (ht : Bal ct) : Bal (mgL tn co cb ct) := by
  obtain ⟨a1, a2, a3, a4, a5⟩ := mgS_rg tn co cb ct (nl cb)
  exact Bal_app (mgS_bal ho hb ht (nl cb) (Nat.le_refl _)) (gapL_bal ho hb ht a2 (Nat.le_refl _) a1 (Nat.le_refl _) a3 (Nat.le_refl _))
theorem mgF_bal {tn : Bool} {a b c : Fl} {i : Bool} {r : Fl} (ha : Bal (cnt a)) (hb : Bal (cnt b)) (hc : Bal (cnt c)) (h : mgF tn a b c = some (i, r)) : Bal (cnt r) := by
  unfold mgF at h
  split at h
  · cases h; exact ha
  · split at h
    · cases h; exact hb
    · split at h
      · cases h; exact ha
      · unfold mgB at h
        split at h
        · split at h
          · cases h; exact mgL_bal ha hc hb
          · cases h
        · split at h
          · cases h; exact ha
          · cases h; exact hb
theorem i8 (z : Int32) : (0 ≤ z.toInt ∧ z.toInt < 8) ↔ z.toBitVec.toNat < 8 := by
  have hz : z.toInt = z.toBitVec.toInt := rfl
  rw [hz, BitVec.toInt_eq_toNat_cond]
  have := z.toBitVec.isLt
  split <;> omega
theorem or_8 {x y : Int32} (h1 : 0 ≤ x.toInt ∧ x.toInt < 8) (h2 : 0 ≤ y.toInt ∧ y.toInt < 8) : 0 ≤ (x ||| y).toInt ∧ (x ||| y).toInt < 8 := by
  rw [i8] at *
  have : (x ||| y).toBitVec.toNat = x.toBitVec.toNat ||| y.toBitVec.toNat := by rw [Int32.toBitVec_or, BitVec.toNat_or]
  rw [this]
  exact Nat.or_lt_two_pow (n := 3) h1 h2
theorem bt_8 {k : Nat} (h : k < 3) : 0 ≤ (bt k).toInt ∧ (bt k).toInt < 8 := by
  match k, h with
  | 0, _ => decide
  | 1, _ => decide
  | 2, _ => decide
theorem tor_8 {tn : Bool} {x y z : Tv} (hx : 0 ≤ x.1.toInt ∧ x.1.toInt < 8) (hy : 0 ≤ y.1.toInt ∧ y.1.toInt < 8) : ∀ k : Nat, k ≤ 3 → 0 ≤ (tor tn x y z k).toInt ∧ (tor tn x y z k).toInt < 8
  | 0, _ => by show 0 ≤ (w3 0).toInt ∧ (w3 0).toInt < 8; decide
  | k + 1, h => by
    have ih := tor_8 (tn := tn) (z := z) hx hy k (by omega)
    have hb := bt_8 (show k < 3 by omega)
    have hxy := or_8 hx hy
    unfold tor
    split
    · exact ih
    · rename_i b r _
      have t1 : 0 ≤ (tr1 b k (tor tn x y z k)).toInt ∧ (tr1 b k (tor tn x y z k)).toInt < 8 := by
        unfold tr1
        split
        · exact or_8 ih hb
        · exact ih
      unfold tr2
      split
      · exact t1
      · exact or_8 t1 (and_8 hxy.1 hxy.2)
theorem mgT_g {tn : Bool} {x y z X : Tv} (hx : TvG x) (hy : TvG y) (hz : TvG z) (h : mgT tn x y z = some X) : TvG X := by
  unfold mgT at h
  split at h
  · rename_i _ _ _ i a j b k c e0 e1 e2
    cases h
    exact ⟨⟨mgF_bal hx.1.1 hy.1.1 hz.1.1 e0, mgF_bal hx.1.2.1 hy.1.2.1 hz.1.2.1 e1, mgF_bal hx.1.2.2 hy.1.2.2 hz.1.2.2 e2⟩, tor_8 hx.2 hy.2 3 (Nat.le_refl _)⟩
  · cases h
theorem TvG.balT {M : cm_M} {t : Nat} (h : TvG (trv M t)) : BalT M t := h.1

theorem dstep_small {x : Int32} (h : x.toInt ≤ 9) : dstep x = 0 := by
  unfold dstep
  rw [if_neg (fun e => by rw [e, show (w3 10).toInt = 10 by decide] at h; omega), if_neg (fun e => by rw [e, show (w3 13).toInt = 13 by decide] at h; omega)]
theorem dp_fig {L : List Int32} (h : ∀ k, k < L.length → dstep (gt L k) = 0) : ∀ k, k ≤ L.length → dp L k = 0
  | 0, _ => rfl
  | k + 1, hk => by
    have ih := dp_fig h k (by omega)
    show dp L k + dstep (gt L k) = 0
    rw [ih, h k (by omega)]
    rfl
theorem Bal_fig {L : List Int32} (h : ∀ k, k < L.length → dstep (gt L k) = 0) : Bal L := ⟨fun k hk => by rw [dp_fig h k hk]; exact Int.le_refl _, dp_fig h _ (Nat.le_refl _)⟩
def figs (L : List Int32) : Prop := ∀ k, k < L.length → 0 ≤ (gt L k).toInt ∧ (gt L k).toInt ≤ 9
theorem figs_bal {L : List Int32} (h : figs L) : Bal L := Bal_fig (fun k hk => dstep_small (h k hk).2)
def QB (O : List Int32) (e : Int) : Prop := dp O O.length = e ∧ ∀ j, j ≤ O.length → 0 ≤ dp O j
theorem QB_snoc {O : List Int32} {e : Int} {x : Int32} (h : QB O e) (h2 : 0 ≤ e + dstep x) : QB (O ++ [x]) (e + dstep x) := by
  have e1 : dp (O ++ [x]) (O.length + 1) = e + dstep x := by
    show dp (O ++ [x]) O.length + dstep (gt (O ++ [x]) O.length) = _
    have eg : gt (O ++ [x]) (O.length + 0) = gt [x] 0 := gt_apr
    rw [Nat.add_zero] at eg
    rw [dp_apl (Nat.le_refl _), h.1, eg]
    rfl
  have hl : (O ++ [x]).length = O.length + 1 := by simp
  refine ⟨by rw [hl]; exact e1, fun j hj => ?_⟩
  rw [hl] at hj
  by_cases q : j = O.length + 1
  · rw [q, e1]; exact h2
  · rw [dp_apl (by omega)]
    exact h.2 j (by omega)
theorem QB_bal {O : List Int32} (h : QB O 0) : Bal O := ⟨h.2, h.1⟩
theorem sP_bal {L : List Int32} {s : Int} (hb : Bal L) (s0 : 0 ≤ s) : ∀ k, k ≤ L.length → QB (sP L s k).2 (if dp L k = 0 then 0 else if (sP L s k).1 = s then dp L k - 1 else 0) ∧ (dp L k = 0 → (sP L s k).1 = s)
  | 0, _ => by
    refine ⟨⟨?_, fun j hj => ?_⟩, fun _ => rfl⟩
    · rw [if_pos (show dp L 0 = 0 from rfl)]; rfl
    · have : j ≤ 0 := hj
      rw [show j = 0 by omega]; exact Int.le_refl _
  | k + 1, hk => by
    obtain ⟨ih1, ih2⟩ := sP_bal hb s0 k (by omega)
    have d0 := hb.1 k (by omega)
    have d1 : 0 ≤ dp L k + dstep (gt L k) := hb.1 (k + 1) hk
    show QB (sStep s (dp L k) (gt L k) (sP L s k)).2 (if dp L k + dstep (gt L k) = 0 then 0 else if (sStep s (dp L k) (gt L k) (sP L s k)).1 = s then dp L k + dstep (gt L k) - 1 else 0) ∧ (dp L k + dstep (gt L k) = 0 → (sStep s (dp L k) (gt L k) (sP L s k)).1 = s)
    generalize dp L k = D at *
    generalize gt L k = y at *
    generalize sP L s k = q at *
    have e10 : (w3 10).toInt = 10 := by decide
    have e13 : (w3 13).toInt = 13 := by decide
    have n13 : ¬ w3 13 = w3 10 := by decide
    by_cases hm : sMk D y
    · have es : sStep s D y q = ((if y = w3 13 then s else y.toInt - 10), q.2) := if_pos hm
      rw [es]
      obtain ⟨m1, m2⟩ := hm
      have hQ : QB q.2 0 := by
        by_cases hD : D = 0
        · rw [if_pos hD] at ih1; exact ih1
        · rw [if_neg hD] at ih1
          by_cases hq : q.1 = s
          · rw [if_pos hq] at ih1
            by_cases hy : y = w3 10
            · rw [if_pos hy] at m2; omega
            · rw [if_neg hy] at m2
              rw [show D - 1 = 0 by omega] at ih1
              exact ih1
          · rw [if_neg hq] at ih1; exact ih1
      by_cases hy : y = w3 10
      · rw [if_pos hy] at m2
        have eD : D = 0 := by omega
        have ed : dstep y = 1 := if_pos hy
        rw [ed, eD]
        refine ⟨?_, fun h => by omega⟩
        show QB q.2 (if (0 : Int) + 1 = 0 then 0 else if _ then (0 : Int) + 1 - 1 else 0)
        rw [if_neg (by omega), show ((0 : Int) + 1 - 1) = 0 by decide, ite_self]
        exact hQ
      · rw [if_neg hy] at m2
        have eD : D = 1 := by omega
        by_cases hy2 : y = w3 13
        · have ed : dstep y = -1 := by unfold dstep; rw [if_neg hy, if_pos hy2]
          rw [ed, eD]
          refine ⟨?_, fun _ => if_pos hy2⟩
          show QB q.2 (if (1 : Int) + -1 = 0 then 0 else _)
          rw [if_pos (by omega)]
          exact hQ
        · have ed : dstep y = 0 := by unfold dstep; rw [if_neg hy, if_neg hy2]
          rw [ed, eD]
          refine ⟨?_, fun h => by omega⟩
          show QB q.2 (if (1 : Int) + 0 = 0 then 0 else if _ then (1 : Int) + 0 - 1 else 0)
          rw [if_neg (by omega), show ((1 : Int) + 0 - 1) = 0 by decide, ite_self]
          exact hQ
    · by_cases hq : q.1 = s
      · have es : sStep s D y q = (q.1, q.2 ++ [y]) := (if_neg hm).trans (if_pos hq)
        rw [es]
        refine ⟨?_, fun _ => hq⟩
        show QB (q.2 ++ [y]) (if D + dstep y = 0 then 0 else if q.1 = s then D + dstep y - 1 else 0)
        rw [if_pos hq]
        rw [if_pos hq] at ih1
        by_cases hD : D = 0
        · rw [if_pos hD] at ih1
          have hy : ¬ y = w3 10 := fun e => hm ⟨by rw [e, e10]; omega, by rw [if_pos e, hD]; omega⟩
          have hy2 : ¬ y = w3 13 := fun e => by
            have : dstep y = -1 := by unfold dstep; rw [if_neg hy, if_pos e]
            omega
          have ed : dstep y = 0 := by unfold dstep; rw [if_neg hy, if_neg hy2]
          have := QB_snoc (x := y) ih1 (by omega)
          rw [ed] at this ⊢
          rw [hD, if_pos (by omega)]
          exact this
        · rw [if_neg hD] at ih1
          have hd1 : 1 ≤ D + dstep y := by
            by_cases hy : y = w3 10
            · have : dstep y = 1 := if_pos hy
              omega
            · by_cases hy2 : y = w3 13
              · have : dstep y = -1 := by unfold dstep; rw [if_neg hy, if_pos hy2]
                have : D ≠ 1 := fun e => hm ⟨by rw [hy2, e13]; omega, by rw [if_neg hy, e]; omega⟩
                omega
              · have : dstep y = 0 := by unfold dstep; rw [if_neg hy, if_neg hy2]
                omega
          have := QB_snoc (x := y) ih1 (by omega)
          rw [if_neg (by omega)]
          rw [show D + dstep y - 1 = D - 1 + dstep y by omega]
          exact this
      · have es : sStep s D y q = q := (if_neg hm).trans (if_neg hq)
        rw [es]
        have hD : ¬ D = 0 := fun e => hq (ih2 e)
        have hd1 : 1 ≤ D + dstep y := by
          by_cases hy : y = w3 10
          · have : dstep y = 1 := if_pos hy
            omega
          · by_cases hy2 : y = w3 13
            · have : dstep y = -1 := by unfold dstep; rw [if_neg hy, if_pos hy2]
              have : D ≠ 1 := fun e => hm ⟨by rw [hy2, e13]; omega, by rw [if_neg hy, e]; omega⟩
              omega
            · have : dstep y = 0 := by unfold dstep; rw [if_neg hy, if_neg hy2]
              omega
        rw [if_neg hD, if_neg hq] at ih1
        rw [if_neg (by omega), if_neg hq]
        exact ⟨ih1, fun h => by omega⟩
theorem stl_bal {F : Fl} {s : Int} (hb : Bal (cnt F)) (s0 : 0 ≤ s) : Bal (stl F s) := by
  have := (sP_bal hb s0 (cnt F).length (Nat.le_refl _)).1
  rw [if_pos hb.2] at this
  exact QB_bal this
def insL (L : List Int32) (c : Nat) (v : Int32) : List Int32 := L.take c ++ v :: L.drop c
theorem insL_len {L : List Int32} {c : Nat} {v : Int32} (h : c ≤ L.length) : (insL L c v).length = L.length + 1 := by
  simp [insL]; omega
theorem insL_at {L : List Int32} {c j : Nat} {v : Int32} (h : c ≤ L.length) : gt (insL L c v) j = if j < c then gt L j else if j = c then v else gt L (j - 1) := by
  have hl : (L.take c).length = c := by simp; omega
  unfold insL
  by_cases h1 : j < c
  · rw [if_pos h1, gt_apl (by omega)]
    simp [gt, List.getD_eq_getElem?_getD, List.getElem?_take, h1]
  · rw [if_neg h1]
    obtain ⟨m, rfl⟩ : ∃ m, j = c + m := ⟨j - c, by omega⟩
    have e : gt (L.take c ++ v :: L.drop c) (c + m) = gt (v :: L.drop c) m := by
      have := gt_apr (L := L.take c) (L' := v :: L.drop c) (k := m)
      rw [hl] at this
      exact this
    rw [e]
    cases m with
    | zero => rw [if_pos (by omega)]; rfl
    | succ m =>
      rw [if_neg (by omega)]
      simp [gt, List.getD_eq_getElem?_getD, List.getElem?_drop]
theorem insL_dp {L : List Int32} {c : Nat} {v : Int32} (h : c ≤ L.length) (hv : dstep v = 0) : ∀ k, dp (insL L c v) k = if k ≤ c then dp L k else dp L (k - 1)
  | 0 => by rw [if_pos (Nat.zero_le _)]; rfl
  | k + 1 => by
    have ih := insL_dp h hv k
    show dp (insL L c v) k + dstep (gt (insL L c v) k) = _
    rw [ih, insL_at h]
    by_cases h1 : k < c
    · rw [if_pos (by omega), if_pos h1, if_pos (by omega)]; rfl
    · by_cases h2 : k = c
      · rw [if_pos (by omega), if_neg h1, if_pos h2, if_neg (by omega), hv]
        show dp L k + 0 = dp L k
        omega
      · rw [if_neg (by omega), if_neg h1, if_neg h2, if_neg (by omega)]
        obtain ⟨m, rfl⟩ : ∃ m, k = m + 1 := ⟨k - 1, by omega⟩
        rfl
theorem insL_bal {L : List Int32} {c : Nat} {v : Int32} (hb : Bal L) (h : c ≤ L.length) (hv : dstep v = 0) : Bal (insL L c v) := by
  refine ⟨fun k hk => ?_, ?_⟩
  · rw [insL_len h] at hk
    rw [insL_dp h hv]
    split
    · exact hb.1 k (by omega)
    · exact hb.1 (k - 1) (by omega)
  · rw [insL_len h, insL_dp h hv, if_neg (by omega)]
    exact hb.2
noncomputable def chR (s : St) (v f : Nat) (K : List Int32) : Int32 × St := @ite _ (figs K) (Classical.propDecidable _) (if 16 ≤ s.2.2.1.1 then (w3 (-2), s) else (w3 (s.2.2.1.1 : Int), stB s (bAdd s.2.2.1 (setF (clr (s.2.2.1.2 v).1 (w3 (f : Int))) f (some K), (v : Int), -9)))) (w3 (-3), stF s (w3 3))
noncomputable def fChg (s : St) (v f r : Int) : Int32 × St := if ((0 ≤ v ∧ v < (s.2.2.1.1 : Int)) ∧ 0 ≤ f ∧ f < 3) ∧ 0 ≤ r ∧ r < 6 then (match s.1 r.toNat with
  | none => (w3 (-3), stF s (w3 1))
  | some K => if 8 < K.length then (w3 (-3), stF s (w3 5)) else chR s v.toNat f.toNat K) else (w3 (-1), s)
noncomputable def fSet (s : St) (v f d : Int) : Int32 × St := if ((0 ≤ v ∧ v < (s.2.2.1.1 : Int)) ∧ 0 ≤ f ∧ f < 3) ∧ 0 ≤ d ∧ d ≤ 2 then (@ite _ (meas (pk (s.2.2.1.2 v.toNat).1 f.toNat) 1 = 0 ∧ ¬ hb (s.2.2.1.2 v.toNat).1.1 (w3 f)) (Classical.propDecidable _) (w3 (-4), s) (if 16 ≤ s.2.2.1.1 then (w3 (-2), s) else (w3 (s.2.2.1.1 : Int), stB s (bAdd s.2.2.1 (setF (clr (s.2.2.1.2 v.toNat).1 (w3 f)) f.toNat (some (stl (pk (s.2.2.1.2 v.toNat).1 f.toNat) d)), v, -9))))) else (w3 (-1), s)
def SX6_change : cm_CT := fun as T M Φ => match as with
  | [.ref x, .int v, .int f, .int r] => ∃ L, CMG T M x L ∧ cPo T M x L Φ (fChg (cst M x) v.toInt f.toInt r.toInt)
  | _ => False
def JX6_change : cm_J := (6, false, 1, [(170, 3, 7, 0, 0, SX6_hasFile), (103, 1, 5, 0, 0, SX4_isThere), (89, 2, 7, 0, 0, SX6_found), (93, 2, 5, 0, 0, SX4_get), (206, 1, 1, 0, 0, SX0_isFull), (209, 3, 1, 0, 0, SX0_addChild), (212, 2, 5, 0, 0, SX4_become)], [(77, 1, 0, 0, 0, SX6_isRow)], [])
theorem jX6_change : JX6_change.1 = 6 ∧ JX6_change.2.1 = false ∧ JX6_change.2.2.1 = 1 ∧ cm_gv JX6_change 170 = some (3, 7, 0, 0, SX6_hasFile) ∧ cm_gv JX6_change 103 = some (1, 5, 0, 0, SX4_isThere) ∧ cm_gv JX6_change 89 = some (2, 7, 0, 0, SX6_found) ∧ cm_gv JX6_change 93 = some (2, 5, 0, 0, SX4_get) ∧ cm_gv JX6_change 206 = some (1, 1, 0, 0, SX0_isFull) ∧ cm_gv JX6_change 209 = some (3, 1, 0, 0, SX0_addChild) ∧ cm_gv JX6_change 212 = some (2, 5, 0, 0, SX4_become) ∧ cm_gs JX6_change 77 = some (1, 0, 0, 0, SX6_isRow) := ⟨rfl, rfl, rfl, rfl, rfl, rfl, rfl, rfl, rfl, rfl, rfl⟩
theorem eX6_change (d : Nat) (hd : 5 ≤ d) : cm_Cok d JX6_change := ⟨(List.forall_mem_cons.mpr ⟨q6_170 (mX6_hasFile (d - 1) (by omega)) (by omega), (List.forall_mem_cons.mpr ⟨q6_103 (mX4_isThere (d - 1) (by omega)) (by omega), (List.forall_mem_cons.mpr ⟨q6_89 (mX6_found (d - 1) (by omega)) (by omega), (List.forall_mem_cons.mpr ⟨q6_93 (mX4_get (d - 1) (by omega)) (by omega), (List.forall_mem_cons.mpr ⟨q6_206 (mX0_isFull (d - 1) (by omega)) (by omega), (List.forall_mem_cons.mpr ⟨q6_209 (mX0_addChild (d - 1) (by omega)) (by omega), (List.forall_mem_cons.mpr ⟨q6_212 (mX4_become (d - 1) (by omega)) (by omega), (fun q h => by cases h)⟩)⟩)⟩)⟩)⟩)⟩)⟩), (List.forall_mem_cons.mpr ⟨q6_77 (mX6_isRow (d - 1) (by omega)) (by omega), (fun q h => by cases h)⟩), (fun q h => by cases h)⟩
set_option maxHeartbeats 8000000 in
theorem lX6_change (d : Nat) (hd : 5 ≤ d) {T : cm_T} {M : cm_M} {Φ : Option Value → cm_T → cm_M → Prop} {x L ρ : Nat} {v f r : Int32} {K : List Int32} (hC : CMG T M x L) (hv0 : (0 ≤ v.toInt ∧ v.toInt < ((bkv M (x + 3)).1 : Int)) ∧ 0 ≤ f.toInt ∧ f.toInt < 3) (hρ : ρ < 6) (hK : fl M (x + 306 + 2 * ρ) = some K) (h8 : K.length ≤ 8) (hS : cPo T M x L Φ (chR (cst M x) v.toInt.toNat f.toInt.toNat K)) :
    ∀ (k : Nat), k ≤ K.length → (∀ j, j < k → 0 ≤ (gt K j).toInt ∧ (gt K j).toInt ≤ 9) → cm_Go d cX6_change 6 0 0 JX6_change Φ 59 [some (.ref x), some (.int v), some (.int f), some (.int r), some (.ref (x + 306 + 2 * ρ)), some (.int (w3 k))] [] (0, 0) T M := by
  intro k
  induction hf : (K.length - k) using Nat.strongRecOn generalizing k with
  | _ fu ih =>
    intro k1 kf
    obtain ⟨k0, ⟨r0, r1, r2, r3, r4, r5, r6, r7, r8, r13⟩, ⟨k1, k2, k137, k305⟩, ⟨l1, l2, l137, l305⟩, hr, ht⟩ := id hC.2.1
    have hB := hC.2.2.1
    obtain ⟨⟨K0, ⟨R1, R2, R3, R4, R5⟩, ⟨KK1, K2, K3, K4, K5⟩, ⟨L1, L2, L3, L4, L5⟩, RV⟩, HZ, HT, HW, HA⟩ := id hB
    obtain ⟨hn, hn16⟩ := hB.n
    have hz0 : M.1 (x + 3) 0 = w3 ((bkv M (x + 3)).1 : Int) := i3_of hn
    obtain ⟨⟨v1, v2⟩, f1, f2⟩ := id hv0
    obtain ⟨ν, ev, hν⟩ : ∃ ν : Nat, v.toInt = (ν : Int) ∧ ν < (bkv M (x + 3)).1 := ⟨v.toInt.toNat, by omega, by omega⟩
    obtain ⟨φ, ef, hφ⟩ : ∃ φ : Nat, f.toInt = (φ : Int) ∧ φ < 3 := ⟨f.toInt.toNat, by omega, by omega⟩
    have tG := HT ν (by omega)
    obtain ⟨g1, g2, g3, g4, g5, g6⟩ := tr_f tG hφ
    have rv := RV ν (by omega)
    have ixv : cm_ix v 16 := ⟨v1, by show v.toInt < ((16 : Nat) : Int); omega⟩
    have ixf : cm_ix f 3 := ⟨f1, by show f.toInt < ((3 : Nat) : Int); omega⟩
    have u1 := tG.1.1
    have u2 := tG.1.2.1
    have u3 := tG.1.2.2.1
    have u4 := tG.1.2.2.2.1
    have env : ((ν : Int)).toNat = ν := by omega
    have enf : ((φ : Int)).toNat = φ := by omega
    have hpk : pk ((bkv M (x + 3)).2 ν).1 φ = fl M (x + 3 + 6 + 8 * ν + 2 + 2 * φ) := by rw [bkv_lt hν]; exact pk_tr hφ
    have tt : ((0 ≤ (ν : Int) ∧ (ν : Int) < ((bkv M (x + 3)).1 : Int)) ∧ 0 ≤ (φ : Int) ∧ (φ : Int) < 3) = True := eq_true ⟨⟨by omega, by omega⟩, by omega, by omega⟩
    obtain ⟨q1, q2, q3, q4, q5⟩ := hr ρ hρ
    obtain ⟨sg, pp, cp⟩ := hC.row hρ
    obtain ⟨hl1, hl2, hl3⟩ := Sg_len sg hK
    have hz1 : M.1 (x + 306 + 2 * ρ) 1 = w3 (K.length : Int) := i3_of hl1
    have ek : (w3 (k : Int)).toInt = (k : Int) := w3_toInt (by omega) (by omega)
    have e9 : (w3 9).toInt = 9 := by decide
    by_cases hk : k < K.length
    · have egt := hl3 k hk
      have tk : (0 ≤ (k : Int) ∧ (k : Int) < (K.length : Int)) = True := eq_true ⟨by omega, by omega⟩
      refine cm_go hX6_change 200 oX6_change (eX6_change d hd) lX6_change_59 ?_
      simp only [jX6_change, kX6_change_0, kX6_change_1, fl_6_11, fl_6_107, fl_6_21, fl_6_154, fl_6_173, SX4_get, hz1, hl1, ek, tk, egt, sg, q2, w3_add, k0, r0, r1, r2, r3, r4, r5, r6, r7, r8, r13, k1, k2, k137, k305, l1, l2, l137, l305, K0, R1, R2, R3, R4, R5, KK1, K2, K3, K4, K5, L1, L2, L3, L4, L5, w3_00, w3_10, cn_iconst, cn_lconst0, cn_lconst1, cn_null, cn_iload, cn_aload, cn_lload, cn_lo1, cn_loa1, cn_loa2, cn_lol1, cn_get0, cn_gets, cn_put0, cn_puts, cn_istore, cn_astore, cn_astoreN, cn_lstore, cn_iinc, cn_in1, cn_iadd, cn_isub, cn_imul, cn_iand, cn_ior, cn_ixor, cn_ishl, cn_ishr, cn_iushr, cn_idiv, cn_irem, cn_ladd, cn_lmul, cn_ldiv, cn_lrem, cn_i2l, cn_l2i, cn_i2b, cn_lcmp, cn_dupi, cn_dupr, cn_dup2, cn_popi, cn_popr, cn_goto, cn_if_eq, cn_if_ne, cn_if_lt, cn_if_ge, cn_if_gt, cn_if_le, cn_ic_eq, cn_ic_ne, cn_ic_lt, cn_ic_ge, cn_ic_gt, cn_ic_le, cn_ifnullN, cn_ifnullR, cn_ifnonnullN, cn_ifnonnullR, cn_tswS, cn_tsw0, cn_tsw1, cn_lswS, cn_lsw0, cn_lsw1, cn_alen, cn_iaload, cn_laload, cn_rr1, cn_rr0, cn_aaload, cn_iastore, cn_lastore, cn_aastore, cn_getfield, cn_gf0, cn_gf1, cn_gf2, cn_gf3, cn_putfield, cn_pf0f, cn_pf1f, cn_pf2f, cn_pf3f, cn_pf0t, cn_pf1t, cn_pf2t, cn_pf3t, cn_new, cn_nw1, cn_newi, cn_newl, cn_anew, cn_an1, cn_inv_v, cn_inv_s, cn_inv_p, cn_ca1, cn_cb1, cn_pop0, cn_pops, cn_rk0, cn_rk1, cn_kcn, cn_kcs, cn_ireturn, cn_lreturn, cn_areturn, cn_return, cn_re0, cn_re1, cn_re2, cn_re3, cn_re4, cn_re5, cn_wp0, cn_wps, cn_m0, cn_m1, cn_e0, cn_en, cn_ei, cn_er, cn_eu, cn_el, cn_nl0, cn_nls, cn_nb0, cn_nb1, cn_nb2, cn_nb3, cn_bd0, cn_bds, cn_cwi, cn_cwr, cn_cwl, cn_cwn, cn_wi2, cn_wl1, cn_wl3, cn_wr1, cn_wr2, cn_wi_eq, cn_wl_eq, cb_0, cb_n0, cb_b, cm_okb0, cm_okb1, Classical.not_not, true_and, and_true, Nat.reduceAdd, Nat.reduceSub, Nat.reduceLT, Nat.reduceLeDiff, Int.reduceToNat, Int.reduceNatCast', Nat.zero_le, Nat.reduceEqDiff, false_or, or_false, or_true, true_or, Int.reduceNeg, reduceCtorEq, false_implies, implies_true, forall_const, true_implies, not_true_eq_false, not_false_eq_true, Nat.le_refl, ne_eq, if_true, if_false, ite_true, ite_false, List.cons_append, List.nil_append]
      simp (disch := omega) only [w3_le]
      simp only [i3_lt, i3_le, e9, i3_z]
      refine ⟨fun q => by omega, fun q => ⟨fun q6 => ?_, fun q6 => ⟨fun q7 => ?_, fun q7 => ?_⟩⟩⟩
      · have hn3 : ¬ figs K := fun w => by have := (w k hk).1; omega
        unfold chR at hS
        rw [if_neg hn3] at hS
        refine ⟨L, hC, fun M1 f1 c1 s1 => ?_⟩
        simp only [jX6_change, kX6_change_0, kX6_change_1, fl_6_11, fl_6_107, fl_6_21, fl_6_154, fl_6_173, cn_iconst, cn_lconst0, cn_lconst1, cn_null, cn_iload, cn_aload, cn_lload, cn_lo1, cn_loa1, cn_loa2, cn_lol1, cn_get0, cn_gets, cn_put0, cn_puts, cn_istore, cn_astore, cn_astoreN, cn_lstore, cn_iinc, cn_in1, cn_iadd, cn_isub, cn_imul, cn_iand, cn_ior, cn_ixor, cn_ishl, cn_ishr, cn_iushr, cn_idiv, cn_irem, cn_ladd, cn_lmul, cn_ldiv, cn_lrem, cn_i2l, cn_l2i, cn_i2b, cn_lcmp, cn_dupi, cn_dupr, cn_dup2, cn_popi, cn_popr, cn_goto, cn_if_eq, cn_if_ne, cn_if_lt, cn_if_ge, cn_if_gt, cn_if_le, cn_ic_eq, cn_ic_ne, cn_ic_lt, cn_ic_ge, cn_ic_gt, cn_ic_le, cn_ifnullN, cn_ifnullR, cn_ifnonnullN, cn_ifnonnullR, cn_tswS, cn_tsw0, cn_tsw1, cn_lswS, cn_lsw0, cn_lsw1, cn_alen, cn_iaload, cn_laload, cn_rr1, cn_rr0, cn_aaload, cn_iastore, cn_lastore, cn_aastore, cn_getfield, cn_gf0, cn_gf1, cn_gf2, cn_gf3, cn_putfield, cn_pf0f, cn_pf1f, cn_pf2f, cn_pf3f, cn_pf0t, cn_pf1t, cn_pf2t, cn_pf3t, cn_new, cn_nw1, cn_newi, cn_newl, cn_anew, cn_an1, cn_inv_v, cn_inv_s, cn_inv_p, cn_ca1, cn_cb1, cn_pop0, cn_pops, cn_rk0, cn_rk1, cn_kcn, cn_kcs, cn_ireturn, cn_lreturn, cn_areturn, cn_return, cn_re0, cn_re1, cn_re2, cn_re3, cn_re4, cn_re5, cn_wp0, cn_wps, cn_m0, cn_m1, cn_e0, cn_en, cn_ei, cn_er, cn_eu, cn_el, cn_nl0, cn_nls, cn_nb0, cn_nb1, cn_nb2, cn_nb3, cn_bd0, cn_bds, cn_cwi, cn_cwr, cn_cwl, cn_cwn, cn_wi2, cn_wl1, cn_wl3, cn_wr1, cn_wr2, cn_wi_eq, cn_wl_eq, cb_0, cb_n0, cb_b, cm_okb0, cm_okb1, Classical.not_not, true_and, and_true, Nat.reduceAdd, Nat.reduceSub, Nat.reduceLT, Nat.reduceLeDiff, Int.reduceToNat, Int.reduceNatCast', Nat.zero_le, Nat.reduceEqDiff, false_or, or_false, or_true, true_or, Int.reduceNeg, reduceCtorEq, false_implies, implies_true, forall_const, true_implies, not_true_eq_false, not_false_eq_true, Nat.le_refl, ne_eq, if_true, if_false, ite_true, ite_false, List.cons_append, List.nil_append]
        exact hS M1 f1 c1 s1
      · exact ih (K.length - (k + 1)) (by omega) (k + 1) rfl (by omega) (fun j hj => by
          by_cases e : j = k
          · rw [e]; exact ⟨by omega, by omega⟩
          · exact kf j (by omega))
      · have hn3 : ¬ figs K := fun w => by have := (w k hk).2; omega
        unfold chR at hS
        rw [if_neg hn3] at hS
        refine ⟨L, hC, fun M1 f1 c1 s1 => ?_⟩
        simp only [jX6_change, kX6_change_0, kX6_change_1, fl_6_11, fl_6_107, fl_6_21, fl_6_154, fl_6_173, cn_iconst, cn_lconst0, cn_lconst1, cn_null, cn_iload, cn_aload, cn_lload, cn_lo1, cn_loa1, cn_loa2, cn_lol1, cn_get0, cn_gets, cn_put0, cn_puts, cn_istore, cn_astore, cn_astoreN, cn_lstore, cn_iinc, cn_in1, cn_iadd, cn_isub, cn_imul, cn_iand, cn_ior, cn_ixor, cn_ishl, cn_ishr, cn_iushr, cn_idiv, cn_irem, cn_ladd, cn_lmul, cn_ldiv, cn_lrem, cn_i2l, cn_l2i, cn_i2b, cn_lcmp, cn_dupi, cn_dupr, cn_dup2, cn_popi, cn_popr, cn_goto, cn_if_eq, cn_if_ne, cn_if_lt, cn_if_ge, cn_if_gt, cn_if_le, cn_ic_eq, cn_ic_ne, cn_ic_lt, cn_ic_ge, cn_ic_gt, cn_ic_le, cn_ifnullN, cn_ifnullR, cn_ifnonnullN, cn_ifnonnullR, cn_tswS, cn_tsw0, cn_tsw1, cn_lswS, cn_lsw0, cn_lsw1, cn_alen, cn_iaload, cn_laload, cn_rr1, cn_rr0, cn_aaload, cn_iastore, cn_lastore, cn_aastore, cn_getfield, cn_gf0, cn_gf1, cn_gf2, cn_gf3, cn_putfield, cn_pf0f, cn_pf1f, cn_pf2f, cn_pf3f, cn_pf0t, cn_pf1t, cn_pf2t, cn_pf3t, cn_new, cn_nw1, cn_newi, cn_newl, cn_anew, cn_an1, cn_inv_v, cn_inv_s, cn_inv_p, cn_ca1, cn_cb1, cn_pop0, cn_pops, cn_rk0, cn_rk1, cn_kcn, cn_kcs, cn_ireturn, cn_lreturn, cn_areturn, cn_return, cn_re0, cn_re1, cn_re2, cn_re3, cn_re4, cn_re5, cn_wp0, cn_wps, cn_m0, cn_m1, cn_e0, cn_en, cn_ei, cn_er, cn_eu, cn_el, cn_nl0, cn_nls, cn_nb0, cn_nb1, cn_nb2, cn_nb3, cn_bd0, cn_bds, cn_cwi, cn_cwr, cn_cwl, cn_cwn, cn_wi2, cn_wl1, cn_wl3, cn_wr1, cn_wr2, cn_wi_eq, cn_wl_eq, cb_0, cb_n0, cb_b, cm_okb0, cm_okb1, Classical.not_not, true_and, and_true, Nat.reduceAdd, Nat.reduceSub, Nat.reduceLT, Nat.reduceLeDiff, Int.reduceToNat, Int.reduceNatCast', Nat.zero_le, Nat.reduceEqDiff, false_or, or_false, or_true, true_or, Int.reduceNeg, reduceCtorEq, false_implies, implies_true, forall_const, true_implies, not_true_eq_false, not_false_eq_true, Nat.le_refl, ne_eq, if_true, if_false, ite_true, ite_false, List.cons_append, List.nil_append]
        exact hS M1 f1 c1 s1
    · have ekk : k = K.length := by omega
      subst ekk
      have hfg : figs K := kf
      unfold chR at hS
      rw [if_pos hfg, cst_b, ev, ef, env, enf] at hS
      refine cm_go hX6_change 200 oX6_change (eX6_change d hd) lX6_change_59 ?_
      simp only [jX6_change, kX6_change_0, kX6_change_1, fl_6_11, fl_6_107, fl_6_21, fl_6_154, fl_6_173, SX0_isFull, hn, hz1, ek, q2, ev, ef, ixv, ixf, rv, u1, u2, u3, u4, g1, g2, tt, k0, r0, r1, r2, r3, r4, r5, r6, r7, r8, r13, k1, k2, k137, k305, l1, l2, l137, l305, K0, R1, R2, R3, R4, R5, KK1, K2, K3, K4, K5, L1, L2, L3, L4, L5, w3_00, w3_10, cn_iconst, cn_lconst0, cn_lconst1, cn_null, cn_iload, cn_aload, cn_lload, cn_lo1, cn_loa1, cn_loa2, cn_lol1, cn_get0, cn_gets, cn_put0, cn_puts, cn_istore, cn_astore, cn_astoreN, cn_lstore, cn_iinc, cn_in1, cn_iadd, cn_isub, cn_imul, cn_iand, cn_ior, cn_ixor, cn_ishl, cn_ishr, cn_iushr, cn_idiv, cn_irem, cn_ladd, cn_lmul, cn_ldiv, cn_lrem, cn_i2l, cn_l2i, cn_i2b, cn_lcmp, cn_dupi, cn_dupr, cn_dup2, cn_popi, cn_popr, cn_goto, cn_if_eq, cn_if_ne, cn_if_lt, cn_if_ge, cn_if_gt, cn_if_le, cn_ic_eq, cn_ic_ne, cn_ic_lt, cn_ic_ge, cn_ic_gt, cn_ic_le, cn_ifnullN, cn_ifnullR, cn_ifnonnullN, cn_ifnonnullR, cn_tswS, cn_tsw0, cn_tsw1, cn_lswS, cn_lsw0, cn_lsw1, cn_alen, cn_iaload, cn_laload, cn_rr1, cn_rr0, cn_aaload, cn_iastore, cn_lastore, cn_aastore, cn_getfield, cn_gf0, cn_gf1, cn_gf2, cn_gf3, cn_putfield, cn_pf0f, cn_pf1f, cn_pf2f, cn_pf3f, cn_pf0t, cn_pf1t, cn_pf2t, cn_pf3t, cn_new, cn_nw1, cn_newi, cn_newl, cn_anew, cn_an1, cn_inv_v, cn_inv_s, cn_inv_p, cn_ca1, cn_cb1, cn_pop0, cn_pops, cn_rk0, cn_rk1, cn_kcn, cn_kcs, cn_ireturn, cn_lreturn, cn_areturn, cn_return, cn_re0, cn_re1, cn_re2, cn_re3, cn_re4, cn_re5, cn_wp0, cn_wps, cn_m0, cn_m1, cn_e0, cn_en, cn_ei, cn_er, cn_eu, cn_el, cn_nl0, cn_nls, cn_nb0, cn_nb1, cn_nb2, cn_nb3, cn_bd0, cn_bds, cn_cwi, cn_cwr, cn_cwl, cn_cwn, cn_wi2, cn_wl1, cn_wl3, cn_wr1, cn_wr2, cn_wi_eq, cn_wl_eq, cb_0, cb_n0, cb_b, cm_okb0, cm_okb1, Classical.not_not, true_and, and_true, Nat.reduceAdd, Nat.reduceSub, Nat.reduceLT, Nat.reduceLeDiff, Int.reduceToNat, Int.reduceNatCast', Nat.zero_le, Nat.reduceEqDiff, false_or, or_false, or_true, true_or, Int.reduceNeg, reduceCtorEq, false_implies, implies_true, forall_const, true_implies, not_true_eq_false, not_false_eq_true, Nat.le_refl, ne_eq, if_true, if_false, ite_true, ite_false, List.cons_append, List.nil_append]
      simp (disch := omega) only [w3_le]
      refine ⟨fun _ => ⟨fun q6 => ?_, fun q6 => ?_⟩, fun q => absurd (Int.le_refl _) q⟩
      · rw [if_neg (by omega)] at hS
        have efw : f = w3 (φ : Int) := by rw [← ef]; exact (w3_self f).symm
        refine ⟨hB, ⟨v1, v2⟩, by omega, fun M1 F1 G1 b1 => ?_⟩
        have e1 := F1.2
        have h16 : (bkv M (x + 3)).1 < 16 := by omega
        have en : (w3 ((bkv M (x + 3)).1 : Int)).toInt = ((bkv M (x + 3)).1 : Int) := w3_toInt (by omega) (by omega)
        have ixn : cm_ix (w3 ((bkv M (x + 3)).1 : Int)) 16 := by rw [w3_ix (by omega) (by omega)]; exact ⟨by omega, by omega⟩
        have rn := RV (bkv M (x + 3)).1 h16
        have tN := HT (bkv M (x + 3)).1 h16
        obtain ⟨y1, y2, y3, y4, y5, y6⟩ := tr_f tN hφ
        have w1 := tN.1.1
        have w2 := tN.1.2.1
        have wz3 := tN.1.2.2.1
        have w4 := tN.1.2.2.2.1
        have tN1 := G1.2.2.1 (bkv M (x + 3)).1 h16
        obtain ⟨z1, z2, z3, z4, z5, z6⟩ := tr_f tN1 hφ
        simp only [jX6_change, kX6_change_0, kX6_change_1, fl_6_11, fl_6_107, fl_6_21, fl_6_154, fl_6_173, e1, ef, ixf, en, ixn, rn, w1, w2, wz3, w4, y1, y2, q2, k0, r0, r1, r2, r3, r4, r5, r6, r7, r8, r13, k1, k2, k137, k305, l1, l2, l137, l305, K0, R1, R2, R3, R4, R5, KK1, K2, K3, K4, K5, L1, L2, L3, L4, L5, w3_00, w3_10, cn_iconst, cn_lconst0, cn_lconst1, cn_null, cn_iload, cn_aload, cn_lload, cn_lo1, cn_loa1, cn_loa2, cn_lol1, cn_get0, cn_gets, cn_put0, cn_puts, cn_istore, cn_astore, cn_astoreN, cn_lstore, cn_iinc, cn_in1, cn_iadd, cn_isub, cn_imul, cn_iand, cn_ior, cn_ixor, cn_ishl, cn_ishr, cn_iushr, cn_idiv, cn_irem, cn_ladd, cn_lmul, cn_ldiv, cn_lrem, cn_i2l, cn_l2i, cn_i2b, cn_lcmp, cn_dupi, cn_dupr, cn_dup2, cn_popi, cn_popr, cn_goto, cn_if_eq, cn_if_ne, cn_if_lt, cn_if_ge, cn_if_gt, cn_if_le, cn_ic_eq, cn_ic_ne, cn_ic_lt, cn_ic_ge, cn_ic_gt, cn_ic_le, cn_ifnullN, cn_ifnullR, cn_ifnonnullN, cn_ifnonnullR, cn_tswS, cn_tsw0, cn_tsw1, cn_lswS, cn_lsw0, cn_lsw1, cn_alen, cn_iaload, cn_laload, cn_rr1, cn_rr0, cn_aaload, cn_iastore, cn_lastore, cn_aastore, cn_getfield, cn_gf0, cn_gf1, cn_gf2, cn_gf3, cn_putfield, cn_pf0f, cn_pf1f, cn_pf2f, cn_pf3f, cn_pf0t, cn_pf1t, cn_pf2t, cn_pf3t, cn_new, cn_nw1, cn_newi, cn_newl, cn_anew, cn_an1, cn_inv_v, cn_inv_s, cn_inv_p, cn_ca1, cn_cb1, cn_pop0, cn_pops, cn_rk0, cn_rk1, cn_kcn, cn_kcs, cn_ireturn, cn_lreturn, cn_areturn, cn_return, cn_re0, cn_re1, cn_re2, cn_re3, cn_re4, cn_re5, cn_wp0, cn_wps, cn_m0, cn_m1, cn_e0, cn_en, cn_ei, cn_er, cn_eu, cn_el, cn_nl0, cn_nls, cn_nb0, cn_nb1, cn_nb2, cn_nb3, cn_bd0, cn_bds, cn_cwi, cn_cwr, cn_cwl, cn_cwn, cn_wi2, cn_wl1, cn_wl3, cn_wr1, cn_wr2, cn_wi_eq, cn_wl_eq, cb_0, cb_n0, cb_b, cm_okb0, cm_okb1, Classical.not_not, true_and, and_true, Nat.reduceAdd, Nat.reduceSub, Nat.reduceLT, Nat.reduceLeDiff, Int.reduceToNat, Int.reduceNatCast', Nat.zero_le, Nat.reduceEqDiff, false_or, or_false, or_true, true_or, Int.reduceNeg, reduceCtorEq, false_implies, implies_true, forall_const, true_implies, not_true_eq_false, not_false_eq_true, Nat.le_refl, ne_eq, if_true, if_false, ite_true, ite_false, List.cons_append, List.nil_append]
        rw [ev, env] at b1
        have rq := F1.flq (a := x + 306 + 2 * ρ) (by omega) (by rw [pp]; omega)
        have rz := F1.szq (a := x + 306 + 2 * ρ) (by omega)
        refine ⟨z3, F1.sgq (by omega) sg, by rw [rz, hl1, z4, z6]; omega, ?_⟩
        simp only [jX6_change, kX6_change_0, kX6_change_1, fl_6_11, fl_6_107, fl_6_21, fl_6_154, fl_6_173, k0, r0, r1, r2, r3, r4, r5, r6, r7, r8, r13, k1, k2, k137, k305, l1, l2, l137, l305, K0, R1, R2, R3, R4, R5, KK1, K2, K3, K4, K5, L1, L2, L3, L4, L5, w3_00, w3_10, cn_iconst, cn_lconst0, cn_lconst1, cn_null, cn_iload, cn_aload, cn_lload, cn_lo1, cn_loa1, cn_loa2, cn_lol1, cn_get0, cn_gets, cn_put0, cn_puts, cn_istore, cn_astore, cn_astoreN, cn_lstore, cn_iinc, cn_in1, cn_iadd, cn_isub, cn_imul, cn_iand, cn_ior, cn_ixor, cn_ishl, cn_ishr, cn_iushr, cn_idiv, cn_irem, cn_ladd, cn_lmul, cn_ldiv, cn_lrem, cn_i2l, cn_l2i, cn_i2b, cn_lcmp, cn_dupi, cn_dupr, cn_dup2, cn_popi, cn_popr, cn_goto, cn_if_eq, cn_if_ne, cn_if_lt, cn_if_ge, cn_if_gt, cn_if_le, cn_ic_eq, cn_ic_ne, cn_ic_lt, cn_ic_ge, cn_ic_gt, cn_ic_le, cn_ifnullN, cn_ifnullR, cn_ifnonnullN, cn_ifnonnullR, cn_tswS, cn_tsw0, cn_tsw1, cn_lswS, cn_lsw0, cn_lsw1, cn_alen, cn_iaload, cn_laload, cn_rr1, cn_rr0, cn_aaload, cn_iastore, cn_lastore, cn_aastore, cn_getfield, cn_gf0, cn_gf1, cn_gf2, cn_gf3, cn_putfield, cn_pf0f, cn_pf1f, cn_pf2f, cn_pf3f, cn_pf0t, cn_pf1t, cn_pf2t, cn_pf3t, cn_new, cn_nw1, cn_newi, cn_newl, cn_anew, cn_an1, cn_inv_v, cn_inv_s, cn_inv_p, cn_ca1, cn_cb1, cn_pop0, cn_pops, cn_rk0, cn_rk1, cn_kcn, cn_kcs, cn_ireturn, cn_lreturn, cn_areturn, cn_return, cn_re0, cn_re1, cn_re2, cn_re3, cn_re4, cn_re5, cn_wp0, cn_wps, cn_m0, cn_m1, cn_e0, cn_en, cn_ei, cn_er, cn_eu, cn_el, cn_nl0, cn_nls, cn_nb0, cn_nb1, cn_nb2, cn_nb3, cn_bd0, cn_bds, cn_cwi, cn_cwr, cn_cwl, cn_cwn, cn_wi2, cn_wl1, cn_wl3, cn_wr1, cn_wr2, cn_wi_eq, cn_wl_eq, cb_0, cb_n0, cb_b, cm_okb0, cm_okb1, Classical.not_not, true_and, and_true, Nat.reduceAdd, Nat.reduceSub, Nat.reduceLT, Nat.reduceLeDiff, Int.reduceToNat, Int.reduceNatCast', Nat.zero_le, Nat.reduceEqDiff, false_or, or_false, or_true, true_or, Int.reduceNeg, reduceCtorEq, false_implies, implies_true, forall_const, true_implies, not_true_eq_false, not_false_eq_true, Nat.le_refl, ne_eq, if_true, if_false, ite_true, ite_false, List.cons_append, List.nil_append]
        have hfl : fl (mRow M1 (x + 3 + 6 + 8 * (bkv M (x + 3)).1 + 2 + 2 * φ) (sz M1 (x + 306 + 2 * ρ)) (M1.1 (pl M1 (x + 306 + 2 * ρ)))) (x + 3 + 6 + 8 * (bkv M (x + 3)).1 + 2 + 2 * φ) = some K := by
          rw [fl_row (by omega) (by omega) (by omega)]
          exact rq.trans hK
        have hsz : sz (mRow M1 (x + 3 + 6 + 8 * (bkv M (x + 3)).1 + 2 + 2 * φ) (sz M1 (x + 306 + 2 * ρ)) (M1.1 (pl M1 (x + 306 + 2 * ρ)))) (x + 3 + 6 + 8 * (bkv M (x + 3)).1 + 2 + 2 * φ) = (K.length : Int) := by
          rw [mRow_sz (by omega) (by omega), rz, hl1]
        have F : Fr M1 (mRow M1 (x + 3 + 6 + 8 * (bkv M (x + 3)).1 + 2 + 2 * φ) (sz M1 (x + 306 + 2 * ρ)) (M1.1 (pl M1 (x + 306 + 2 * ρ)))) (x + 3 + 6 + 8 * (bkv M (x + 3)).1 + 2 + 2 * φ) 2 := Fr.row (by omega) (by omega) (by omega) (by omega)
        obtain ⟨c1, c2, c3⟩ := cs_child hC F1 G1 b1 h16 hφ F ⟨by rw [hsz]; omega, by rw [hsz]; omega⟩ (by rw [hfl]; exact figs_bal hfg)
        rw [hfl] at c2
        refine hS _ c3 c1 ?_
        rw [c2, efw]
      · rw [if_pos (by omega)] at hS
        exact hS.k hC
set_option maxHeartbeats 4000000 in
theorem mX6_change (d : Nat) (hd : 5 ≤ d) : cm_Met d yX6_change cX6_change 6 (some .int) 0 0 SX6_change := by
  refine cm_meets (J := JX6_change) (by decide) rfl (fun h => by cases h) trivial ?_
  intro as T M Φ hS
  match as, hS with
  | [.ref x, .int v, .int f, .int r], ⟨L, hC, hS⟩ =>
    refine ⟨Nat.le_of_ble_eq_true rfl, ?_⟩
    obtain ⟨k0, ⟨r0, r1, r2, r3, r4, r5, r6, r7, r8, r13⟩, ⟨k1, k2, k137, k305⟩, ⟨l1, l2, l137, l305⟩, hr, ht⟩ := id hC.2.1
    have hB := hC.2.2.1
    obtain ⟨⟨K0, ⟨R1, R2, R3, R4, R5⟩, ⟨KK1, K2, K3, K4, K5⟩, ⟨L1, L2, L3, L4, L5⟩, RV⟩, HZ, HT, HW, HA⟩ := id hB
    obtain ⟨hn, hn16⟩ := hB.n
    have hz0 : M.1 (x + 3) 0 = w3 ((bkv M (x + 3)).1 : Int) := i3_of hn
    by_cases hv0 : (0 ≤ v.toInt ∧ v.toInt < ((bkv M (x + 3)).1 : Int)) ∧ 0 ≤ f.toInt ∧ f.toInt < 3
    · have tv := eq_true hv0
      by_cases hr0 : 0 ≤ r.toInt ∧ r.toInt < 6
      · have tr := eq_true hr0
        obtain ⟨ρ, er, hρ⟩ : ∃ ρ : Nat, r.toInt = (ρ : Int) ∧ ρ < 6 := ⟨r.toInt.toNat, by omega, by omega⟩
        obtain ⟨q1, q2, q3, q4, q5⟩ := hr ρ hρ
        obtain ⟨sg, pp, cp⟩ := hC.row hρ
        have ix : cm_ix r 6 := ⟨hr0.1, by show r.toInt < ((6 : Nat) : Int); omega⟩
        have enr : ((ρ : Int)).toNat = ρ := by omega
        have trr : (0 ≤ (ρ : Int) ∧ (ρ : Int) < 6) = True := eq_true ⟨by omega, by omega⟩
        unfold fChg at hS
        rw [cst_b, if_pos ⟨hv0, hr0⟩, er, enr, cst_r hρ] at hS
        have e8 : (w3 8).toInt = 8 := by decide
        cases hK : fl M (x + 306 + 2 * ρ) with
        | none =>
          rw [hK] at hS
          have kn : (fl M (x + 306 + 2 * ρ) = none) = True := eq_true hK
          refine cm_go hX6_change 200 oX6_change (eX6_change d hd) lX6_change_0 ?_
          simp only [jX6_change, kX6_change_0, kX6_change_1, fl_6_11, fl_6_107, fl_6_21, fl_6_154, fl_6_173, SX6_hasFile, SX6_isRow, SX4_isThere, fl_th, kn, hn, tv, er, trr, ix, q1, q2, k0, r0, r1, r2, r3, r4, r5, r6, r7, r8, r13, k1, k2, k137, k305, l1, l2, l137, l305, K0, R1, R2, R3, R4, R5, KK1, K2, K3, K4, K5, L1, L2, L3, L4, L5, w3_00, w3_10, cn_iconst, cn_lconst0, cn_lconst1, cn_null, cn_iload, cn_aload, cn_lload, cn_lo1, cn_loa1, cn_loa2, cn_lol1, cn_get0, cn_gets, cn_put0, cn_puts, cn_istore, cn_astore, cn_astoreN, cn_lstore, cn_iinc, cn_in1, cn_iadd, cn_isub, cn_imul, cn_iand, cn_ior, cn_ixor, cn_ishl, cn_ishr, cn_iushr, cn_idiv, cn_irem, cn_ladd, cn_lmul, cn_ldiv, cn_lrem, cn_i2l, cn_l2i, cn_i2b, cn_lcmp, cn_dupi, cn_dupr, cn_dup2, cn_popi, cn_popr, cn_goto, cn_if_eq, cn_if_ne, cn_if_lt, cn_if_ge, cn_if_gt, cn_if_le, cn_ic_eq, cn_ic_ne, cn_ic_lt, cn_ic_ge, cn_ic_gt, cn_ic_le, cn_ifnullN, cn_ifnullR, cn_ifnonnullN, cn_ifnonnullR, cn_tswS, cn_tsw0, cn_tsw1, cn_lswS, cn_lsw0, cn_lsw1, cn_alen, cn_iaload, cn_laload, cn_rr1, cn_rr0, cn_aaload, cn_iastore, cn_lastore, cn_aastore, cn_getfield, cn_gf0, cn_gf1, cn_gf2, cn_gf3, cn_putfield, cn_pf0f, cn_pf1f, cn_pf2f, cn_pf3f, cn_pf0t, cn_pf1t, cn_pf2t, cn_pf3t, cn_new, cn_nw1, cn_newi, cn_newl, cn_anew, cn_an1, cn_inv_v, cn_inv_s, cn_inv_p, cn_ca1, cn_cb1, cn_pop0, cn_pops, cn_rk0, cn_rk1, cn_kcn, cn_kcs, cn_ireturn, cn_lreturn, cn_areturn, cn_return, cn_re0, cn_re1, cn_re2, cn_re3, cn_re4, cn_re5, cn_wp0, cn_wps, cn_m0, cn_m1, cn_e0, cn_en, cn_ei, cn_er, cn_eu, cn_el, cn_nl0, cn_nls, cn_nb0, cn_nb1, cn_nb2, cn_nb3, cn_bd0, cn_bds, cn_cwi, cn_cwr, cn_cwl, cn_cwn, cn_wi2, cn_wl1, cn_wl3, cn_wr1, cn_wr2, cn_wi_eq, cn_wl_eq, cb_0, cb_n0, cb_b, cm_okb0, cm_okb1, Classical.not_not, true_and, and_true, Nat.reduceAdd, Nat.reduceSub, Nat.reduceLT, Nat.reduceLeDiff, Int.reduceToNat, Int.reduceNatCast', Nat.zero_le, Nat.reduceEqDiff, false_or, or_false, or_true, true_or, Int.reduceNeg, reduceCtorEq, false_implies, implies_true, forall_const, true_implies, not_true_eq_false, not_false_eq_true, Nat.le_refl, ne_eq, if_true, if_false, ite_true, ite_false, List.cons_append, List.nil_append]
          refine ⟨L, hC, fun M1 f1 c1 s1 => ?_⟩
          simp only [jX6_change, kX6_change_0, kX6_change_1, fl_6_11, fl_6_107, fl_6_21, fl_6_154, fl_6_173, cn_iconst, cn_lconst0, cn_lconst1, cn_null, cn_iload, cn_aload, cn_lload, cn_lo1, cn_loa1, cn_loa2, cn_lol1, cn_get0, cn_gets, cn_put0, cn_puts, cn_istore, cn_astore, cn_astoreN, cn_lstore, cn_iinc, cn_in1, cn_iadd, cn_isub, cn_imul, cn_iand, cn_ior, cn_ixor, cn_ishl, cn_ishr, cn_iushr, cn_idiv, cn_irem, cn_ladd, cn_lmul, cn_ldiv, cn_lrem, cn_i2l, cn_l2i, cn_i2b, cn_lcmp, cn_dupi, cn_dupr, cn_dup2, cn_popi, cn_popr, cn_goto, cn_if_eq, cn_if_ne, cn_if_lt, cn_if_ge, cn_if_gt, cn_if_le, cn_ic_eq, cn_ic_ne, cn_ic_lt, cn_ic_ge, cn_ic_gt, cn_ic_le, cn_ifnullN, cn_ifnullR, cn_ifnonnullN, cn_ifnonnullR, cn_tswS, cn_tsw0, cn_tsw1, cn_lswS, cn_lsw0, cn_lsw1, cn_alen, cn_iaload, cn_laload, cn_rr1, cn_rr0, cn_aaload, cn_iastore, cn_lastore, cn_aastore, cn_getfield, cn_gf0, cn_gf1, cn_gf2, cn_gf3, cn_putfield, cn_pf0f, cn_pf1f, cn_pf2f, cn_pf3f, cn_pf0t, cn_pf1t, cn_pf2t, cn_pf3t, cn_new, cn_nw1, cn_newi, cn_newl, cn_anew, cn_an1, cn_inv_v, cn_inv_s, cn_inv_p, cn_ca1, cn_cb1, cn_pop0, cn_pops, cn_rk0, cn_rk1, cn_kcn, cn_kcs, cn_ireturn, cn_lreturn, cn_areturn, cn_return, cn_re0, cn_re1, cn_re2, cn_re3, cn_re4, cn_re5, cn_wp0, cn_wps, cn_m0, cn_m1, cn_e0, cn_en, cn_ei, cn_er, cn_eu, cn_el, cn_nl0, cn_nls, cn_nb0, cn_nb1, cn_nb2, cn_nb3, cn_bd0, cn_bds, cn_cwi, cn_cwr, cn_cwl, cn_cwn, cn_wi2, cn_wl1, cn_wl3, cn_wr1, cn_wr2, cn_wi_eq, cn_wl_eq, cb_0, cb_n0, cb_b, cm_okb0, cm_okb1, Classical.not_not, true_and, and_true, Nat.reduceAdd, Nat.reduceSub, Nat.reduceLT, Nat.reduceLeDiff, Int.reduceToNat, Int.reduceNatCast', Nat.zero_le, Nat.reduceEqDiff, false_or, or_false, or_true, true_or, Int.reduceNeg, reduceCtorEq, false_implies, implies_true, forall_const, true_implies, not_true_eq_false, not_false_eq_true, Nat.le_refl, ne_eq, if_true, if_false, ite_true, ite_false, List.cons_append, List.nil_append]
          exact hS M1 f1 c1 s1
        | some K =>
          rw [hK] at hS
          have kn : (fl M (x + 306 + 2 * ρ) = none) = False := eq_false (by rw [hK]; simp)
          obtain ⟨hl1, hl2, hl3⟩ := Sg_len sg hK
          have hz1 : M.1 (x + 306 + 2 * ρ) 1 = w3 (K.length : Int) := i3_of hl1
          have e1 : fl M (x + 306 + 2 * ρ) = some K := hK
          refine cm_go hX6_change 200 oX6_change (eX6_change d hd) lX6_change_0 ?_
          simp only [jX6_change, kX6_change_0, kX6_change_1, fl_6_11, fl_6_107, fl_6_21, fl_6_154, fl_6_173, SX6_hasFile, SX6_isRow, SX4_isThere, fl_th, kn, hn, hz1, tv, er, trr, ix, q1, q2, k0, r0, r1, r2, r3, r4, r5, r6, r7, r8, r13, k1, k2, k137, k305, l1, l2, l137, l305, K0, R1, R2, R3, R4, R5, KK1, K2, K3, K4, K5, L1, L2, L3, L4, L5, w3_00, w3_10, cn_iconst, cn_lconst0, cn_lconst1, cn_null, cn_iload, cn_aload, cn_lload, cn_lo1, cn_loa1, cn_loa2, cn_lol1, cn_get0, cn_gets, cn_put0, cn_puts, cn_istore, cn_astore, cn_astoreN, cn_lstore, cn_iinc, cn_in1, cn_iadd, cn_isub, cn_imul, cn_iand, cn_ior, cn_ixor, cn_ishl, cn_ishr, cn_iushr, cn_idiv, cn_irem, cn_ladd, cn_lmul, cn_ldiv, cn_lrem, cn_i2l, cn_l2i, cn_i2b, cn_lcmp, cn_dupi, cn_dupr, cn_dup2, cn_popi, cn_popr, cn_goto, cn_if_eq, cn_if_ne, cn_if_lt, cn_if_ge, cn_if_gt, cn_if_le, cn_ic_eq, cn_ic_ne, cn_ic_lt, cn_ic_ge, cn_ic_gt, cn_ic_le, cn_ifnullN, cn_ifnullR, cn_ifnonnullN, cn_ifnonnullR, cn_tswS, cn_tsw0, cn_tsw1, cn_lswS, cn_lsw0, cn_lsw1, cn_alen, cn_iaload, cn_laload, cn_rr1, cn_rr0, cn_aaload, cn_iastore, cn_lastore, cn_aastore, cn_getfield, cn_gf0, cn_gf1, cn_gf2, cn_gf3, cn_putfield, cn_pf0f, cn_pf1f, cn_pf2f, cn_pf3f, cn_pf0t, cn_pf1t, cn_pf2t, cn_pf3t, cn_new, cn_nw1, cn_newi, cn_newl, cn_anew, cn_an1, cn_inv_v, cn_inv_s, cn_inv_p, cn_ca1, cn_cb1, cn_pop0, cn_pops, cn_rk0, cn_rk1, cn_kcn, cn_kcs, cn_ireturn, cn_lreturn, cn_areturn, cn_return, cn_re0, cn_re1, cn_re2, cn_re3, cn_re4, cn_re5, cn_wp0, cn_wps, cn_m0, cn_m1, cn_e0, cn_en, cn_ei, cn_er, cn_eu, cn_el, cn_nl0, cn_nls, cn_nb0, cn_nb1, cn_nb2, cn_nb3, cn_bd0, cn_bds, cn_cwi, cn_cwr, cn_cwl, cn_cwn, cn_wi2, cn_wl1, cn_wl3, cn_wr1, cn_wr2, cn_wi_eq, cn_wl_eq, cb_0, cb_n0, cb_b, cm_okb0, cm_okb1, Classical.not_not, true_and, and_true, Nat.reduceAdd, Nat.reduceSub, Nat.reduceLT, Nat.reduceLeDiff, Int.reduceToNat, Int.reduceNatCast', Nat.zero_le, Nat.reduceEqDiff, false_or, or_false, or_true, true_or, Int.reduceNeg, reduceCtorEq, false_implies, implies_true, forall_const, true_implies, not_true_eq_false, not_false_eq_true, Nat.le_refl, ne_eq, if_true, if_false, ite_true, ite_false, List.cons_append, List.nil_append]
          have e0 : 0 ≤ (w3 (K.length : Int)).toInt := by rw [w3_toInt (by omega) (by omega)]; omega
          simp (disch := omega) only [w3_le]
          dsimp only at hS
          refine ⟨fun _ => ⟨fun q6 => ?_, fun q6 => ?_⟩, fun q => absurd e0 q⟩
          · rw [if_neg (by omega)] at hS
            exact lX6_change d hd hC hv0 hρ hK (by omega) hS 0 (Nat.zero_le _) (fun j hj => by omega)
          · rw [if_pos (by omega)] at hS
            refine ⟨L, hC, fun M1 f1 c1 s1 => ?_⟩
            simp only [jX6_change, kX6_change_0, kX6_change_1, fl_6_11, fl_6_107, fl_6_21, fl_6_154, fl_6_173, cn_iconst, cn_lconst0, cn_lconst1, cn_null, cn_iload, cn_aload, cn_lload, cn_lo1, cn_loa1, cn_loa2, cn_lol1, cn_get0, cn_gets, cn_put0, cn_puts, cn_istore, cn_astore, cn_astoreN, cn_lstore, cn_iinc, cn_in1, cn_iadd, cn_isub, cn_imul, cn_iand, cn_ior, cn_ixor, cn_ishl, cn_ishr, cn_iushr, cn_idiv, cn_irem, cn_ladd, cn_lmul, cn_ldiv, cn_lrem, cn_i2l, cn_l2i, cn_i2b, cn_lcmp, cn_dupi, cn_dupr, cn_dup2, cn_popi, cn_popr, cn_goto, cn_if_eq, cn_if_ne, cn_if_lt, cn_if_ge, cn_if_gt, cn_if_le, cn_ic_eq, cn_ic_ne, cn_ic_lt, cn_ic_ge, cn_ic_gt, cn_ic_le, cn_ifnullN, cn_ifnullR, cn_ifnonnullN, cn_ifnonnullR, cn_tswS, cn_tsw0, cn_tsw1, cn_lswS, cn_lsw0, cn_lsw1, cn_alen, cn_iaload, cn_laload, cn_rr1, cn_rr0, cn_aaload, cn_iastore, cn_lastore, cn_aastore, cn_getfield, cn_gf0, cn_gf1, cn_gf2, cn_gf3, cn_putfield, cn_pf0f, cn_pf1f, cn_pf2f, cn_pf3f, cn_pf0t, cn_pf1t, cn_pf2t, cn_pf3t, cn_new, cn_nw1, cn_newi, cn_newl, cn_anew, cn_an1, cn_inv_v, cn_inv_s, cn_inv_p, cn_ca1, cn_cb1, cn_pop0, cn_pops, cn_rk0, cn_rk1, cn_kcn, cn_kcs, cn_ireturn, cn_lreturn, cn_areturn, cn_return, cn_re0, cn_re1, cn_re2, cn_re3, cn_re4, cn_re5, cn_wp0, cn_wps, cn_m0, cn_m1, cn_e0, cn_en, cn_ei, cn_er, cn_eu, cn_el, cn_nl0, cn_nls, cn_nb0, cn_nb1, cn_nb2, cn_nb3, cn_bd0, cn_bds, cn_cwi, cn_cwr, cn_cwl, cn_cwn, cn_wi2, cn_wl1, cn_wl3, cn_wr1, cn_wr2, cn_wi_eq, cn_wl_eq, cb_0, cb_n0, cb_b, cm_okb0, cm_okb1, Classical.not_not, true_and, and_true, Nat.reduceAdd, Nat.reduceSub, Nat.reduceLT, Nat.reduceLeDiff, Int.reduceToNat, Int.reduceNatCast', Nat.zero_le, Nat.reduceEqDiff, false_or, or_false, or_true, true_or, Int.reduceNeg, reduceCtorEq, false_implies, implies_true, forall_const, true_implies, not_true_eq_false, not_false_eq_true, Nat.le_refl, ne_eq, if_true, if_false, ite_true, ite_false, List.cons_append, List.nil_append]
            exact hS M1 f1 c1 s1
      · have tr := eq_false hr0
        unfold fChg at hS
        rw [cst_b, if_neg (fun w => hr0 w.2)] at hS
        refine cm_go hX6_change 200 oX6_change (eX6_change d hd) lX6_change_0 ?_
        simp only [jX6_change, kX6_change_0, kX6_change_1, fl_6_11, fl_6_107, fl_6_21, fl_6_154, fl_6_173, SX6_hasFile, SX6_isRow, hn, tv, tr, k0, r0, r1, r2, r3, r4, r5, r6, r7, r8, r13, k1, k2, k137, k305, l1, l2, l137, l305, K0, R1, R2, R3, R4, R5, KK1, K2, K3, K4, K5, L1, L2, L3, L4, L5, w3_00, w3_10, cn_iconst, cn_lconst0, cn_lconst1, cn_null, cn_iload, cn_aload, cn_lload, cn_lo1, cn_loa1, cn_loa2, cn_lol1, cn_get0, cn_gets, cn_put0, cn_puts, cn_istore, cn_astore, cn_astoreN, cn_lstore, cn_iinc, cn_in1, cn_iadd, cn_isub, cn_imul, cn_iand, cn_ior, cn_ixor, cn_ishl, cn_ishr, cn_iushr, cn_idiv, cn_irem, cn_ladd, cn_lmul, cn_ldiv, cn_lrem, cn_i2l, cn_l2i, cn_i2b, cn_lcmp, cn_dupi, cn_dupr, cn_dup2, cn_popi, cn_popr, cn_goto, cn_if_eq, cn_if_ne, cn_if_lt, cn_if_ge, cn_if_gt, cn_if_le, cn_ic_eq, cn_ic_ne, cn_ic_lt, cn_ic_ge, cn_ic_gt, cn_ic_le, cn_ifnullN, cn_ifnullR, cn_ifnonnullN, cn_ifnonnullR, cn_tswS, cn_tsw0, cn_tsw1, cn_lswS, cn_lsw0, cn_lsw1, cn_alen, cn_iaload, cn_laload, cn_rr1, cn_rr0, cn_aaload, cn_iastore, cn_lastore, cn_aastore, cn_getfield, cn_gf0, cn_gf1, cn_gf2, cn_gf3, cn_putfield, cn_pf0f, cn_pf1f, cn_pf2f, cn_pf3f, cn_pf0t, cn_pf1t, cn_pf2t, cn_pf3t, cn_new, cn_nw1, cn_newi, cn_newl, cn_anew, cn_an1, cn_inv_v, cn_inv_s, cn_inv_p, cn_ca1, cn_cb1, cn_pop0, cn_pops, cn_rk0, cn_rk1, cn_kcn, cn_kcs, cn_ireturn, cn_lreturn, cn_areturn, cn_return, cn_re0, cn_re1, cn_re2, cn_re3, cn_re4, cn_re5, cn_wp0, cn_wps, cn_m0, cn_m1, cn_e0, cn_en, cn_ei, cn_er, cn_eu, cn_el, cn_nl0, cn_nls, cn_nb0, cn_nb1, cn_nb2, cn_nb3, cn_bd0, cn_bds, cn_cwi, cn_cwr, cn_cwl, cn_cwn, cn_wi2, cn_wl1, cn_wl3, cn_wr1, cn_wr2, cn_wi_eq, cn_wl_eq, cb_0, cb_n0, cb_b, cm_okb0, cm_okb1, Classical.not_not, true_and, and_true, Nat.reduceAdd, Nat.reduceSub, Nat.reduceLT, Nat.reduceLeDiff, Int.reduceToNat, Int.reduceNatCast', Nat.zero_le, Nat.reduceEqDiff, false_or, or_false, or_true, true_or, Int.reduceNeg, reduceCtorEq, false_implies, implies_true, forall_const, true_implies, not_true_eq_false, not_false_eq_true, Nat.le_refl, ne_eq, if_true, if_false, ite_true, ite_false, List.cons_append, List.nil_append]
        exact hS.k hC
    · have tv := eq_false hv0
      unfold fChg at hS
      rw [cst_b, if_neg (fun w => hv0 w.1)] at hS
      refine cm_go hX6_change 200 oX6_change (eX6_change d hd) lX6_change_0 ?_
      simp only [jX6_change, kX6_change_0, kX6_change_1, fl_6_11, fl_6_107, fl_6_21, fl_6_154, fl_6_173, SX6_hasFile, SX6_isRow, hn, tv, k0, r0, r1, r2, r3, r4, r5, r6, r7, r8, r13, k1, k2, k137, k305, l1, l2, l137, l305, K0, R1, R2, R3, R4, R5, KK1, K2, K3, K4, K5, L1, L2, L3, L4, L5, w3_00, w3_10, cn_iconst, cn_lconst0, cn_lconst1, cn_null, cn_iload, cn_aload, cn_lload, cn_lo1, cn_loa1, cn_loa2, cn_lol1, cn_get0, cn_gets, cn_put0, cn_puts, cn_istore, cn_astore, cn_astoreN, cn_lstore, cn_iinc, cn_in1, cn_iadd, cn_isub, cn_imul, cn_iand, cn_ior, cn_ixor, cn_ishl, cn_ishr, cn_iushr, cn_idiv, cn_irem, cn_ladd, cn_lmul, cn_ldiv, cn_lrem, cn_i2l, cn_l2i, cn_i2b, cn_lcmp, cn_dupi, cn_dupr, cn_dup2, cn_popi, cn_popr, cn_goto, cn_if_eq, cn_if_ne, cn_if_lt, cn_if_ge, cn_if_gt, cn_if_le, cn_ic_eq, cn_ic_ne, cn_ic_lt, cn_ic_ge, cn_ic_gt, cn_ic_le, cn_ifnullN, cn_ifnullR, cn_ifnonnullN, cn_ifnonnullR, cn_tswS, cn_tsw0, cn_tsw1, cn_lswS, cn_lsw0, cn_lsw1, cn_alen, cn_iaload, cn_laload, cn_rr1, cn_rr0, cn_aaload, cn_iastore, cn_lastore, cn_aastore, cn_getfield, cn_gf0, cn_gf1, cn_gf2, cn_gf3, cn_putfield, cn_pf0f, cn_pf1f, cn_pf2f, cn_pf3f, cn_pf0t, cn_pf1t, cn_pf2t, cn_pf3t, cn_new, cn_nw1, cn_newi, cn_newl, cn_anew, cn_an1, cn_inv_v, cn_inv_s, cn_inv_p, cn_ca1, cn_cb1, cn_pop0, cn_pops, cn_rk0, cn_rk1, cn_kcn, cn_kcs, cn_ireturn, cn_lreturn, cn_areturn, cn_return, cn_re0, cn_re1, cn_re2, cn_re3, cn_re4, cn_re5, cn_wp0, cn_wps, cn_m0, cn_m1, cn_e0, cn_en, cn_ei, cn_er, cn_eu, cn_el, cn_nl0, cn_nls, cn_nb0, cn_nb1, cn_nb2, cn_nb3, cn_bd0, cn_bds, cn_cwi, cn_cwr, cn_cwl, cn_cwn, cn_wi2, cn_wl1, cn_wl3, cn_wr1, cn_wr2, cn_wi_eq, cn_wl_eq, cb_0, cb_n0, cb_b, cm_okb0, cm_okb1, Classical.not_not, true_and, and_true, Nat.reduceAdd, Nat.reduceSub, Nat.reduceLT, Nat.reduceLeDiff, Int.reduceToNat, Int.reduceNatCast', Nat.zero_le, Nat.reduceEqDiff, false_or, or_false, or_true, true_or, Int.reduceNeg, reduceCtorEq, false_implies, implies_true, forall_const, true_implies, not_true_eq_false, not_false_eq_true, Nat.le_refl, ne_eq, if_true, if_false, ite_true, ite_false, List.cons_append, List.nil_append]
      exact hS.k hC
def SX6_settle : cm_CT := fun as T M Φ => match as with
  | [.ref x, .int v, .int f, .int s] => ∃ L, CMG T M x L ∧ cPo T M x L Φ (fSet (cst M x) v.toInt f.toInt s.toInt)
  | _ => False
def JX6_settle : cm_J := (6, false, 1, [(170, 3, 7, 0, 0, SX6_hasFile), (216, 2, 6, 0, 0, SX5_isTorn), (206, 1, 1, 0, 0, SX0_isFull), (209, 3, 1, 0, 0, SX0_addChild)], [(179, 2, 0, 0, 0, SX5_measure), (219, 3, 0, 0, 0, SX5_settleFile)], [])
theorem jX6_settle : JX6_settle.1 = 6 ∧ JX6_settle.2.1 = false ∧ JX6_settle.2.2.1 = 1 ∧ cm_gv JX6_settle 170 = some (3, 7, 0, 0, SX6_hasFile) ∧ cm_gv JX6_settle 216 = some (2, 6, 0, 0, SX5_isTorn) ∧ cm_gv JX6_settle 206 = some (1, 1, 0, 0, SX0_isFull) ∧ cm_gv JX6_settle 209 = some (3, 1, 0, 0, SX0_addChild) ∧ cm_gs JX6_settle 179 = some (2, 0, 0, 0, SX5_measure) ∧ cm_gs JX6_settle 219 = some (3, 0, 0, 0, SX5_settleFile) := ⟨rfl, rfl, rfl, rfl, rfl, rfl, rfl, rfl, rfl⟩
theorem eX6_settle (d : Nat) (hd : 5 ≤ d) : cm_Cok d JX6_settle := ⟨(List.forall_mem_cons.mpr ⟨q6_170 (mX6_hasFile (d - 1) (by omega)) (by omega), (List.forall_mem_cons.mpr ⟨q6_216 (mX5_isTorn (d - 1) (by omega)) (by omega), (List.forall_mem_cons.mpr ⟨q6_206 (mX0_isFull (d - 1) (by omega)) (by omega), (List.forall_mem_cons.mpr ⟨q6_209 (mX0_addChild (d - 1) (by omega)) (by omega), (fun q h => by cases h)⟩)⟩)⟩)⟩), (List.forall_mem_cons.mpr ⟨q6_179 (mX5_measure (d - 1) (by omega)) (by omega), (List.forall_mem_cons.mpr ⟨q6_219 (mX5_settleFile (d - 1) (by omega)) (by omega), (fun q h => by cases h)⟩)⟩), (fun q h => by cases h)⟩
set_option maxHeartbeats 4000000 in
theorem mX6_settle (d : Nat) (hd : 5 ≤ d) : cm_Met d yX6_settle cX6_settle 6 (some .int) 0 0 SX6_settle := by
  refine cm_meets (J := JX6_settle) (by decide) rfl (fun h => by cases h) trivial ?_
  intro as T M Φ hS
  match as, hS with
  | [.ref x, .int v, .int f, .int s], ⟨L, hC, hS⟩ =>
    refine ⟨Nat.le_of_ble_eq_true rfl, ?_⟩
    obtain ⟨k0, ⟨r0, r1, r2, r3, r4, r5, r6, r7, r8, r13⟩, ⟨k1, k2, k137, k305⟩, ⟨l1, l2, l137, l305⟩, hr, ht⟩ := id hC.2.1
    have hB := hC.2.2.1
    obtain ⟨⟨K0, ⟨R1, R2, R3, R4, R5⟩, ⟨KK1, K2, K3, K4, K5⟩, ⟨L1, L2, L3, L4, L5⟩, RV⟩, HZ, HT, HW, HA⟩ := id hB
    obtain ⟨hn, hn16⟩ := hB.n
    have hz0 : M.1 (x + 3) 0 = w3 ((bkv M (x + 3)).1 : Int) := i3_of hn
    have e2 : (w3 2).toInt = 2 := by decide
    by_cases hv0 : (0 ≤ v.toInt ∧ v.toInt < ((bkv M (x + 3)).1 : Int)) ∧ 0 ≤ f.toInt ∧ f.toInt < 3
    · by_cases hs0 : 0 ≤ s.toInt ∧ s.toInt ≤ 2
      · obtain ⟨s0, s2⟩ := hs0
        have ts : (s.toInt < 0) = False := eq_false (by omega)
        have ts2 : (s.toInt ≤ 2) = True := eq_true s2
        obtain ⟨⟨v1, v2⟩, f1, f2⟩ := id hv0
        obtain ⟨ν, ev, hν⟩ : ∃ ν : Nat, v.toInt = (ν : Int) ∧ ν < (bkv M (x + 3)).1 := ⟨v.toInt.toNat, by omega, by omega⟩
        obtain ⟨φ, ef, hφ⟩ : ∃ φ : Nat, f.toInt = (φ : Int) ∧ φ < 3 := ⟨f.toInt.toNat, by omega, by omega⟩
        have tG := HT ν (by omega)
        obtain ⟨g1, g2, g3, g4, g5, g6⟩ := tr_f tG hφ
        have rv := RV ν (by omega)
        have ixv : cm_ix v 16 := ⟨v1, by show v.toInt < ((16 : Nat) : Int); omega⟩
        have ixf : cm_ix f 3 := ⟨f1, by show f.toInt < ((3 : Nat) : Int); omega⟩
        have u1 := tG.1.1
        have u2 := tG.1.2.1
        have u3 := tG.1.2.2.1
        have u4 := tG.1.2.2.2.1
        have env : ((ν : Int)).toNat = ν := by omega
        have enf : ((φ : Int)).toNat = φ := by omega
        have hpk : pk ((bkv M (x + 3)).2 ν).1 φ = fl M (x + 3 + 6 + 8 * ν + 2 + 2 * φ) := by rw [bkv_lt hν]; exact pk_tr hφ
        have tt : ((0 ≤ (ν : Int) ∧ (ν : Int) < ((bkv M (x + 3)).1 : Int)) ∧ 0 ≤ (φ : Int) ∧ (φ : Int) < 3) = True := eq_true ⟨⟨by omega, by omega⟩, by omega, by omega⟩
        have efw : f = w3 (φ : Int) := by rw [← ef]; exact (w3_self f).symm
        have etor : M.1 (x + 3 + 6 + 8 * ν) 1 = ((bkv M (x + 3)).2 ν).1.1 := by rw [bkv_lt hν]; rfl
        unfold fSet at hS
        rw [cst_b, if_pos ⟨hv0, s0, s2⟩, ev, ef, env, enf, hpk] at hS
        have mb := meas_bd g3 1
        have e1w : (w3 1).toInt = 1 := by decide
        by_cases hm : meas (fl M (x + 3 + 6 + 8 * ν + 2 + 2 * φ)) 1 = 0
        · have mz : (w3 (meas (fl M (x + 3 + 6 + 8 * ν + 2 + 2 * φ)) 1) = 0) = True := eq_true (by rw [hm]; rfl)
          by_cases ht0 : hb ((bkv M (x + 3)).2 ν).1.1 (w3 (φ : Int))
          · have htt : hb ((bkv M (x + 3)).2 ν).1.1 f = True := eq_true (by rw [efw]; exact ht0)
            rw [if_neg (fun w => w.2 ht0)] at hS
            refine cm_go hX6_settle 200 oX6_settle (eX6_settle d hd) lX6_settle_0 ?_
            simp only [jX6_settle, kX6_settle_0, fl_6_21, fl_6_154, fl_6_173, SX6_hasFile, SX5_measure, SX5_isTorn, SX0_isFull, i3_lt, i3_le, i3_z, e1w, e2, ts, ts2, g3, hn, etor, mz, htt, ev, ef, ixv, ixf, rv, u1, u2, u3, u4, g1, g2, tt, k0, r0, r1, r2, r3, r4, r5, r6, r7, r8, r13, k1, k2, k137, k305, l1, l2, l137, l305, K0, R1, R2, R3, R4, R5, KK1, K2, K3, K4, K5, L1, L2, L3, L4, L5, w3_00, w3_10, cn_iconst, cn_lconst0, cn_lconst1, cn_null, cn_iload, cn_aload, cn_lload, cn_lo1, cn_loa1, cn_loa2, cn_lol1, cn_get0, cn_gets, cn_put0, cn_puts, cn_istore, cn_astore, cn_astoreN, cn_lstore, cn_iinc, cn_in1, cn_iadd, cn_isub, cn_imul, cn_iand, cn_ior, cn_ixor, cn_ishl, cn_ishr, cn_iushr, cn_idiv, cn_irem, cn_ladd, cn_lmul, cn_ldiv, cn_lrem, cn_i2l, cn_l2i, cn_i2b, cn_lcmp, cn_dupi, cn_dupr, cn_dup2, cn_popi, cn_popr, cn_goto, cn_if_eq, cn_if_ne, cn_if_lt, cn_if_ge, cn_if_gt, cn_if_le, cn_ic_eq, cn_ic_ne, cn_ic_lt, cn_ic_ge, cn_ic_gt, cn_ic_le, cn_ifnullN, cn_ifnullR, cn_ifnonnullN, cn_ifnonnullR, cn_tswS, cn_tsw0, cn_tsw1, cn_lswS, cn_lsw0, cn_lsw1, cn_alen, cn_iaload, cn_laload, cn_rr1, cn_rr0, cn_aaload, cn_iastore, cn_lastore, cn_aastore, cn_getfield, cn_gf0, cn_gf1, cn_gf2, cn_gf3, cn_putfield, cn_pf0f, cn_pf1f, cn_pf2f, cn_pf3f, cn_pf0t, cn_pf1t, cn_pf2t, cn_pf3t, cn_new, cn_nw1, cn_newi, cn_newl, cn_anew, cn_an1, cn_inv_v, cn_inv_s, cn_inv_p, cn_ca1, cn_cb1, cn_pop0, cn_pops, cn_rk0, cn_rk1, cn_kcn, cn_kcs, cn_ireturn, cn_lreturn, cn_areturn, cn_return, cn_re0, cn_re1, cn_re2, cn_re3, cn_re4, cn_re5, cn_wp0, cn_wps, cn_m0, cn_m1, cn_e0, cn_en, cn_ei, cn_er, cn_eu, cn_el, cn_nl0, cn_nls, cn_nb0, cn_nb1, cn_nb2, cn_nb3, cn_bd0, cn_bds, cn_cwi, cn_cwr, cn_cwl, cn_cwn, cn_wi2, cn_wl1, cn_wl3, cn_wr1, cn_wr2, cn_wi_eq, cn_wl_eq, cb_0, cb_n0, cb_b, cm_okb0, cm_okb1, Classical.not_not, true_and, and_true, Nat.reduceAdd, Nat.reduceSub, Nat.reduceLT, Nat.reduceLeDiff, Int.reduceToNat, Int.reduceNatCast', Nat.zero_le, Nat.reduceEqDiff, false_or, or_false, or_true, true_or, Int.reduceNeg, reduceCtorEq, false_implies, implies_true, forall_const, true_implies, not_true_eq_false, not_false_eq_true, Nat.le_refl, ne_eq, if_true, if_false, ite_true, ite_false, List.cons_append, List.nil_append]
            refine ⟨fun q6 => ?_, fun q6 => ?_⟩
            · rw [if_neg (by omega)] at hS
              refine ⟨hB, ⟨v1, v2⟩, by omega, fun M1 F1 G1 b1 => ?_⟩
              have e1 := F1.2
              have h16 : (bkv M (x + 3)).1 < 16 := by omega
              have en : (w3 ((bkv M (x + 3)).1 : Int)).toInt = ((bkv M (x + 3)).1 : Int) := w3_toInt (by omega) (by omega)
              have ixn : cm_ix (w3 ((bkv M (x + 3)).1 : Int)) 16 := by rw [w3_ix (by omega) (by omega)]; exact ⟨by omega, by omega⟩
              have rn := RV (bkv M (x + 3)).1 h16
              have tN := HT (bkv M (x + 3)).1 h16
              obtain ⟨y1, y2, y3, y4, y5, y6⟩ := tr_f tN hφ
              have w1 := tN.1.1
              have w2 := tN.1.2.1
              have wz3 := tN.1.2.2.1
              have w4 := tN.1.2.2.2.1
              have tN1 := G1.2.2.1 (bkv M (x + 3)).1 h16
              obtain ⟨z1, z2, z3, z4, z5, z6⟩ := tr_f tN1 hφ
              simp only [jX6_settle, kX6_settle_0, fl_6_21, fl_6_154, fl_6_173, e1, ef, ixf, en, ixn, rn, w1, w2, wz3, w4, y1, y2, k0, r0, r1, r2, r3, r4, r5, r6, r7, r8, r13, k1, k2, k137, k305, l1, l2, l137, l305, K0, R1, R2, R3, R4, R5, KK1, K2, K3, K4, K5, L1, L2, L3, L4, L5, w3_00, w3_10, cn_iconst, cn_lconst0, cn_lconst1, cn_null, cn_iload, cn_aload, cn_lload, cn_lo1, cn_loa1, cn_loa2, cn_lol1, cn_get0, cn_gets, cn_put0, cn_puts, cn_istore, cn_astore, cn_astoreN, cn_lstore, cn_iinc, cn_in1, cn_iadd, cn_isub, cn_imul, cn_iand, cn_ior, cn_ixor, cn_ishl, cn_ishr, cn_iushr, cn_idiv, cn_irem, cn_ladd, cn_lmul, cn_ldiv, cn_lrem, cn_i2l, cn_l2i, cn_i2b, cn_lcmp, cn_dupi, cn_dupr, cn_dup2, cn_popi, cn_popr, cn_goto, cn_if_eq, cn_if_ne, cn_if_lt, cn_if_ge, cn_if_gt, cn_if_le, cn_ic_eq, cn_ic_ne, cn_ic_lt, cn_ic_ge, cn_ic_gt, cn_ic_le, cn_ifnullN, cn_ifnullR, cn_ifnonnullN, cn_ifnonnullR, cn_tswS, cn_tsw0, cn_tsw1, cn_lswS, cn_lsw0, cn_lsw1, cn_alen, cn_iaload, cn_laload, cn_rr1, cn_rr0, cn_aaload, cn_iastore, cn_lastore, cn_aastore, cn_getfield, cn_gf0, cn_gf1, cn_gf2, cn_gf3, cn_putfield, cn_pf0f, cn_pf1f, cn_pf2f, cn_pf3f, cn_pf0t, cn_pf1t, cn_pf2t, cn_pf3t, cn_new, cn_nw1, cn_newi, cn_newl, cn_anew, cn_an1, cn_inv_v, cn_inv_s, cn_inv_p, cn_ca1, cn_cb1, cn_pop0, cn_pops, cn_rk0, cn_rk1, cn_kcn, cn_kcs, cn_ireturn, cn_lreturn, cn_areturn, cn_return, cn_re0, cn_re1, cn_re2, cn_re3, cn_re4, cn_re5, cn_wp0, cn_wps, cn_m0, cn_m1, cn_e0, cn_en, cn_ei, cn_er, cn_eu, cn_el, cn_nl0, cn_nls, cn_nb0, cn_nb1, cn_nb2, cn_nb3, cn_bd0, cn_bds, cn_cwi, cn_cwr, cn_cwl, cn_cwn, cn_wi2, cn_wl1, cn_wl3, cn_wr1, cn_wr2, cn_wi_eq, cn_wl_eq, cb_0, cb_n0, cb_b, cm_okb0, cm_okb1, Classical.not_not, true_and, and_true, Nat.reduceAdd, Nat.reduceSub, Nat.reduceLT, Nat.reduceLeDiff, Int.reduceToNat, Int.reduceNatCast', Nat.zero_le, Nat.reduceEqDiff, false_or, or_false, or_true, true_or, Int.reduceNeg, reduceCtorEq, false_implies, implies_true, forall_const, true_implies, not_true_eq_false, not_false_eq_true, Nat.le_refl, ne_eq, if_true, if_false, ite_true, ite_false, List.cons_append, List.nil_append]
              rw [ev, env] at b1
              have n1 : ν < (bkv M1 (x + 3)).1 := by rw [b1]; show ν < (bkv M (x + 3)).1 + 1; omega
              have tr1 : trv M1 (x + 3 + 6 + 8 * ν) = ((bkv M (x + 3)).2 ν).1 := by
                have h0 := bkv_lt n1
                have h1 : (bkv M1 (x + 3)).2 ν = (bkv M (x + 3)).2 ν := by rw [b1]; exact if_neg (by omega)
                rw [h1] at h0
                rw [h0]
              have tA := G1.2.2.1 ν (by omega)
              obtain ⟨a1, a2, a3, a4, a5, a6⟩ := tr_f tA hφ
              have fA : fl M1 (x + 3 + 6 + 8 * ν + 2 + 2 * φ) = fl M (x + 3 + 6 + 8 * ν + 2 + 2 * φ) := by rw [← pk_tr hφ, tr1, hpk]
              have hbA : Bal (cnt (fl M (x + 3 + 6 + 8 * ν + 2 + 2 * φ))) := by
                have := (HW.2.1 ν hν).1.1
                rw [← hpk]
                match φ, hφ with
                | 0, _ => exact this.1
                | 1, _ => exact this.2.1
                | 2, _ => exact this.2.2
              have lenA : (stl (fl M (x + 3 + 6 + 8 * ν + 2 + 2 * φ)) s.toInt).length ≤ 40 := by
                have h1 := sP_len (cnt (fl M (x + 3 + 6 + 8 * ν + 2 + 2 * φ))) s.toInt (cnt (fl M (x + 3 + 6 + 8 * ν + 2 + 2 * φ))).length
                have h2 := cnt_40 g5
                unfold stl
                omega
              refine ⟨s.toInt, (w3_self s).symm, s0, s2, a3, z3, ⟨by omega, by rw [a4, z4]; omega⟩, by rw [z4, z6]; exact a5.2, ?_⟩
              rw [fA]
              simp only [jX6_settle, kX6_settle_0, fl_6_21, fl_6_154, fl_6_173, k0, r0, r1, r2, r3, r4, r5, r6, r7, r8, r13, k1, k2, k137, k305, l1, l2, l137, l305, K0, R1, R2, R3, R4, R5, KK1, K2, K3, K4, K5, L1, L2, L3, L4, L5, w3_00, w3_10, cn_iconst, cn_lconst0, cn_lconst1, cn_null, cn_iload, cn_aload, cn_lload, cn_lo1, cn_loa1, cn_loa2, cn_lol1, cn_get0, cn_gets, cn_put0, cn_puts, cn_istore, cn_astore, cn_astoreN, cn_lstore, cn_iinc, cn_in1, cn_iadd, cn_isub, cn_imul, cn_iand, cn_ior, cn_ixor, cn_ishl, cn_ishr, cn_iushr, cn_idiv, cn_irem, cn_ladd, cn_lmul, cn_ldiv, cn_lrem, cn_i2l, cn_l2i, cn_i2b, cn_lcmp, cn_dupi, cn_dupr, cn_dup2, cn_popi, cn_popr, cn_goto, cn_if_eq, cn_if_ne, cn_if_lt, cn_if_ge, cn_if_gt, cn_if_le, cn_ic_eq, cn_ic_ne, cn_ic_lt, cn_ic_ge, cn_ic_gt, cn_ic_le, cn_ifnullN, cn_ifnullR, cn_ifnonnullN, cn_ifnonnullR, cn_tswS, cn_tsw0, cn_tsw1, cn_lswS, cn_lsw0, cn_lsw1, cn_alen, cn_iaload, cn_laload, cn_rr1, cn_rr0, cn_aaload, cn_iastore, cn_lastore, cn_aastore, cn_getfield, cn_gf0, cn_gf1, cn_gf2, cn_gf3, cn_putfield, cn_pf0f, cn_pf1f, cn_pf2f, cn_pf3f, cn_pf0t, cn_pf1t, cn_pf2t, cn_pf3t, cn_new, cn_nw1, cn_newi, cn_newl, cn_anew, cn_an1, cn_inv_v, cn_inv_s, cn_inv_p, cn_ca1, cn_cb1, cn_pop0, cn_pops, cn_rk0, cn_rk1, cn_kcn, cn_kcs, cn_ireturn, cn_lreturn, cn_areturn, cn_return, cn_re0, cn_re1, cn_re2, cn_re3, cn_re4, cn_re5, cn_wp0, cn_wps, cn_m0, cn_m1, cn_e0, cn_en, cn_ei, cn_er, cn_eu, cn_el, cn_nl0, cn_nls, cn_nb0, cn_nb1, cn_nb2, cn_nb3, cn_bd0, cn_bds, cn_cwi, cn_cwr, cn_cwl, cn_cwn, cn_wi2, cn_wl1, cn_wl3, cn_wr1, cn_wr2, cn_wi_eq, cn_wl_eq, cb_0, cb_n0, cb_b, cm_okb0, cm_okb1, Classical.not_not, true_and, and_true, Nat.reduceAdd, Nat.reduceSub, Nat.reduceLT, Nat.reduceLeDiff, Int.reduceToNat, Int.reduceNatCast', Nat.zero_le, Nat.reduceEqDiff, false_or, or_false, or_true, true_or, Int.reduceNeg, reduceCtorEq, false_implies, implies_true, forall_const, true_implies, not_true_eq_false, not_false_eq_true, Nat.le_refl, ne_eq, if_true, if_false, ite_true, ite_false, List.cons_append, List.nil_append]
              have hfl : fl (mLst M1 (x + 3 + 6 + 8 * (bkv M (x + 3)).1 + 2 + 2 * φ) (stl (fl M (x + 3 + 6 + 8 * ν + 2 + 2 * φ)) s.toInt)) (x + 3 + 6 + 8 * (bkv M (x + 3)).1 + 2 + 2 * φ) = some (stl (fl M (x + 3 + 6 + 8 * ν + 2 + 2 * φ)) s.toInt) := fl_lst (by omega) (by omega)
              have hsz : sz (mLst M1 (x + 3 + 6 + 8 * (bkv M (x + 3)).1 + 2 + 2 * φ) (stl (fl M (x + 3 + 6 + 8 * ν + 2 + 2 * φ)) s.toInt)) (x + 3 + 6 + 8 * (bkv M (x + 3)).1 + 2 + 2 * φ) = ((stl (fl M (x + 3 + 6 + 8 * ν + 2 + 2 * φ)) s.toInt).length : Int) := mRow_sz (by omega) (by omega)
              have F : Fr M1 (mLst M1 (x + 3 + 6 + 8 * (bkv M (x + 3)).1 + 2 + 2 * φ) (stl (fl M (x + 3 + 6 + 8 * ν + 2 + 2 * φ)) s.toInt)) (x + 3 + 6 + 8 * (bkv M (x + 3)).1 + 2 + 2 * φ) 2 := Fr.row (by omega) (by omega) (by omega) (by omega)
              obtain ⟨c1, c2, c3⟩ := cs_child hC F1 G1 b1 h16 hφ F ⟨by rw [hsz]; omega, by rw [hsz]; omega⟩ (by rw [hfl]; exact stl_bal hbA s0)
              rw [hfl] at c2
              refine hS _ c3 c1 ?_
              rw [c2, efw]
            · rw [if_pos (by omega)] at hS
              exact hS.k hC
          · have htt : hb ((bkv M (x + 3)).2 ν).1.1 f = False := eq_false (by rw [efw]; exact ht0)
            rw [if_pos ⟨hm, ht0⟩] at hS
            refine cm_go hX6_settle 200 oX6_settle (eX6_settle d hd) lX6_settle_0 ?_
            simp only [jX6_settle, kX6_settle_0, fl_6_21, fl_6_154, fl_6_173, SX6_hasFile, SX5_measure, SX5_isTorn, SX0_isFull, i3_lt, i3_le, i3_z, e1w, e2, ts, ts2, g3, hn, etor, mz, htt, ev, ef, ixv, ixf, rv, u1, u2, u3, u4, g1, g2, tt, k0, r0, r1, r2, r3, r4, r5, r6, r7, r8, r13, k1, k2, k137, k305, l1, l2, l137, l305, K0, R1, R2, R3, R4, R5, KK1, K2, K3, K4, K5, L1, L2, L3, L4, L5, w3_00, w3_10, cn_iconst, cn_lconst0, cn_lconst1, cn_null, cn_iload, cn_aload, cn_lload, cn_lo1, cn_loa1, cn_loa2, cn_lol1, cn_get0, cn_gets, cn_put0, cn_puts, cn_istore, cn_astore, cn_astoreN, cn_lstore, cn_iinc, cn_in1, cn_iadd, cn_isub, cn_imul, cn_iand, cn_ior, cn_ixor, cn_ishl, cn_ishr, cn_iushr, cn_idiv, cn_irem, cn_ladd, cn_lmul, cn_ldiv, cn_lrem, cn_i2l, cn_l2i, cn_i2b, cn_lcmp, cn_dupi, cn_dupr, cn_dup2, cn_popi, cn_popr, cn_goto, cn_if_eq, cn_if_ne, cn_if_lt, cn_if_ge, cn_if_gt, cn_if_le, cn_ic_eq, cn_ic_ne, cn_ic_lt, cn_ic_ge, cn_ic_gt, cn_ic_le, cn_ifnullN, cn_ifnullR, cn_ifnonnullN, cn_ifnonnullR, cn_tswS, cn_tsw0, cn_tsw1, cn_lswS, cn_lsw0, cn_lsw1, cn_alen, cn_iaload, cn_laload, cn_rr1, cn_rr0, cn_aaload, cn_iastore, cn_lastore, cn_aastore, cn_getfield, cn_gf0, cn_gf1, cn_gf2, cn_gf3, cn_putfield, cn_pf0f, cn_pf1f, cn_pf2f, cn_pf3f, cn_pf0t, cn_pf1t, cn_pf2t, cn_pf3t, cn_new, cn_nw1, cn_newi, cn_newl, cn_anew, cn_an1, cn_inv_v, cn_inv_s, cn_inv_p, cn_ca1, cn_cb1, cn_pop0, cn_pops, cn_rk0, cn_rk1, cn_kcn, cn_kcs, cn_ireturn, cn_lreturn, cn_areturn, cn_return, cn_re0, cn_re1, cn_re2, cn_re3, cn_re4, cn_re5, cn_wp0, cn_wps, cn_m0, cn_m1, cn_e0, cn_en, cn_ei, cn_er, cn_eu, cn_el, cn_nl0, cn_nls, cn_nb0, cn_nb1, cn_nb2, cn_nb3, cn_bd0, cn_bds, cn_cwi, cn_cwr, cn_cwl, cn_cwn, cn_wi2, cn_wl1, cn_wl3, cn_wr1, cn_wr2, cn_wi_eq, cn_wl_eq, cb_0, cb_n0, cb_b, cm_okb0, cm_okb1, Classical.not_not, true_and, and_true, Nat.reduceAdd, Nat.reduceSub, Nat.reduceLT, Nat.reduceLeDiff, Int.reduceToNat, Int.reduceNatCast', Nat.zero_le, Nat.reduceEqDiff, false_or, or_false, or_true, true_or, Int.reduceNeg, reduceCtorEq, false_implies, implies_true, forall_const, true_implies, not_true_eq_false, not_false_eq_true, Nat.le_refl, ne_eq, if_true, if_false, ite_true, ite_false, List.cons_append, List.nil_append]
            exact hS.k hC
        · have mz : (w3 (meas (fl M (x + 3 + 6 + 8 * ν + 2 + 2 * φ)) 1) = 0) = False := eq_false (by rw [w3_z, w3_eq (by omega) (by omega) (by omega) (by omega)]; exact hm)
          rw [if_neg (fun w => hm w.1)] at hS
          have htt : (0 : Int) = 0 := rfl
          refine cm_go hX6_settle 200 oX6_settle (eX6_settle d hd) lX6_settle_0 ?_
          simp only [jX6_settle, kX6_settle_0, fl_6_21, fl_6_154, fl_6_173, SX6_hasFile, SX5_measure, SX5_isTorn, SX0_isFull, i3_lt, i3_le, i3_z, e1w, e2, ts, ts2, g3, hn, etor, mz, htt, ev, ef, ixv, ixf, rv, u1, u2, u3, u4, g1, g2, tt, k0, r0, r1, r2, r3, r4, r5, r6, r7, r8, r13, k1, k2, k137, k305, l1, l2, l137, l305, K0, R1, R2, R3, R4, R5, KK1, K2, K3, K4, K5, L1, L2, L3, L4, L5, w3_00, w3_10, cn_iconst, cn_lconst0, cn_lconst1, cn_null, cn_iload, cn_aload, cn_lload, cn_lo1, cn_loa1, cn_loa2, cn_lol1, cn_get0, cn_gets, cn_put0, cn_puts, cn_istore, cn_astore, cn_astoreN, cn_lstore, cn_iinc, cn_in1, cn_iadd, cn_isub, cn_imul, cn_iand, cn_ior, cn_ixor, cn_ishl, cn_ishr, cn_iushr, cn_idiv, cn_irem, cn_ladd, cn_lmul, cn_ldiv, cn_lrem, cn_i2l, cn_l2i, cn_i2b, cn_lcmp, cn_dupi, cn_dupr, cn_dup2, cn_popi, cn_popr, cn_goto, cn_if_eq, cn_if_ne, cn_if_lt, cn_if_ge, cn_if_gt, cn_if_le, cn_ic_eq, cn_ic_ne, cn_ic_lt, cn_ic_ge, cn_ic_gt, cn_ic_le, cn_ifnullN, cn_ifnullR, cn_ifnonnullN, cn_ifnonnullR, cn_tswS, cn_tsw0, cn_tsw1, cn_lswS, cn_lsw0, cn_lsw1, cn_alen, cn_iaload, cn_laload, cn_rr1, cn_rr0, cn_aaload, cn_iastore, cn_lastore, cn_aastore, cn_getfield, cn_gf0, cn_gf1, cn_gf2, cn_gf3, cn_putfield, cn_pf0f, cn_pf1f, cn_pf2f, cn_pf3f, cn_pf0t, cn_pf1t, cn_pf2t, cn_pf3t, cn_new, cn_nw1, cn_newi, cn_newl, cn_anew, cn_an1, cn_inv_v, cn_inv_s, cn_inv_p, cn_ca1, cn_cb1, cn_pop0, cn_pops, cn_rk0, cn_rk1, cn_kcn, cn_kcs, cn_ireturn, cn_lreturn, cn_areturn, cn_return, cn_re0, cn_re1, cn_re2, cn_re3, cn_re4, cn_re5, cn_wp0, cn_wps, cn_m0, cn_m1, cn_e0, cn_en, cn_ei, cn_er, cn_eu, cn_el, cn_nl0, cn_nls, cn_nb0, cn_nb1, cn_nb2, cn_nb3, cn_bd0, cn_bds, cn_cwi, cn_cwr, cn_cwl, cn_cwn, cn_wi2, cn_wl1, cn_wl3, cn_wr1, cn_wr2, cn_wi_eq, cn_wl_eq, cb_0, cb_n0, cb_b, cm_okb0, cm_okb1, Classical.not_not, true_and, and_true, Nat.reduceAdd, Nat.reduceSub, Nat.reduceLT, Nat.reduceLeDiff, Int.reduceToNat, Int.reduceNatCast', Nat.zero_le, Nat.reduceEqDiff, false_or, or_false, or_true, true_or, Int.reduceNeg, reduceCtorEq, false_implies, implies_true, forall_const, true_implies, not_true_eq_false, not_false_eq_true, Nat.le_refl, ne_eq, if_true, if_false, ite_true, ite_false, List.cons_append, List.nil_append]
          refine ⟨fun q6 => ?_, fun q6 => ?_⟩
          · rw [if_neg (by omega)] at hS
            refine ⟨hB, ⟨v1, v2⟩, by omega, fun M1 F1 G1 b1 => ?_⟩
            have e1 := F1.2
            have h16 : (bkv M (x + 3)).1 < 16 := by omega
            have en : (w3 ((bkv M (x + 3)).1 : Int)).toInt = ((bkv M (x + 3)).1 : Int) := w3_toInt (by omega) (by omega)
            have ixn : cm_ix (w3 ((bkv M (x + 3)).1 : Int)) 16 := by rw [w3_ix (by omega) (by omega)]; exact ⟨by omega, by omega⟩
            have rn := RV (bkv M (x + 3)).1 h16
            have tN := HT (bkv M (x + 3)).1 h16
            obtain ⟨y1, y2, y3, y4, y5, y6⟩ := tr_f tN hφ
            have w1 := tN.1.1
            have w2 := tN.1.2.1
            have wz3 := tN.1.2.2.1
            have w4 := tN.1.2.2.2.1
            have tN1 := G1.2.2.1 (bkv M (x + 3)).1 h16
            obtain ⟨z1, z2, z3, z4, z5, z6⟩ := tr_f tN1 hφ
            simp only [jX6_settle, kX6_settle_0, fl_6_21, fl_6_154, fl_6_173, e1, ef, ixf, en, ixn, rn, w1, w2, wz3, w4, y1, y2, k0, r0, r1, r2, r3, r4, r5, r6, r7, r8, r13, k1, k2, k137, k305, l1, l2, l137, l305, K0, R1, R2, R3, R4, R5, KK1, K2, K3, K4, K5, L1, L2, L3, L4, L5, w3_00, w3_10, cn_iconst, cn_lconst0, cn_lconst1, cn_null, cn_iload, cn_aload, cn_lload, cn_lo1, cn_loa1, cn_loa2, cn_lol1, cn_get0, cn_gets, cn_put0, cn_puts, cn_istore, cn_astore, cn_astoreN, cn_lstore, cn_iinc, cn_in1, cn_iadd, cn_isub, cn_imul, cn_iand, cn_ior, cn_ixor, cn_ishl, cn_ishr, cn_iushr, cn_idiv, cn_irem, cn_ladd, cn_lmul, cn_ldiv, cn_lrem, cn_i2l, cn_l2i, cn_i2b, cn_lcmp, cn_dupi, cn_dupr, cn_dup2, cn_popi, cn_popr, cn_goto, cn_if_eq, cn_if_ne, cn_if_lt, cn_if_ge, cn_if_gt, cn_if_le, cn_ic_eq, cn_ic_ne, cn_ic_lt, cn_ic_ge, cn_ic_gt, cn_ic_le, cn_ifnullN, cn_ifnullR, cn_ifnonnullN, cn_ifnonnullR, cn_tswS, cn_tsw0, cn_tsw1, cn_lswS, cn_lsw0, cn_lsw1, cn_alen, cn_iaload, cn_laload, cn_rr1, cn_rr0, cn_aaload, cn_iastore, cn_lastore, cn_aastore, cn_getfield, cn_gf0, cn_gf1, cn_gf2, cn_gf3, cn_putfield, cn_pf0f, cn_pf1f, cn_pf2f, cn_pf3f, cn_pf0t, cn_pf1t, cn_pf2t, cn_pf3t, cn_new, cn_nw1, cn_newi, cn_newl, cn_anew, cn_an1, cn_inv_v, cn_inv_s, cn_inv_p, cn_ca1, cn_cb1, cn_pop0, cn_pops, cn_rk0, cn_rk1, cn_kcn, cn_kcs, cn_ireturn, cn_lreturn, cn_areturn, cn_return, cn_re0, cn_re1, cn_re2, cn_re3, cn_re4, cn_re5, cn_wp0, cn_wps, cn_m0, cn_m1, cn_e0, cn_en, cn_ei, cn_er, cn_eu, cn_el, cn_nl0, cn_nls, cn_nb0, cn_nb1, cn_nb2, cn_nb3, cn_bd0, cn_bds, cn_cwi, cn_cwr, cn_cwl, cn_cwn, cn_wi2, cn_wl1, cn_wl3, cn_wr1, cn_wr2, cn_wi_eq, cn_wl_eq, cb_0, cb_n0, cb_b, cm_okb0, cm_okb1, Classical.not_not, true_and, and_true, Nat.reduceAdd, Nat.reduceSub, Nat.reduceLT, Nat.reduceLeDiff, Int.reduceToNat, Int.reduceNatCast', Nat.zero_le, Nat.reduceEqDiff, false_or, or_false, or_true, true_or, Int.reduceNeg, reduceCtorEq, false_implies, implies_true, forall_const, true_implies, not_true_eq_false, not_false_eq_true, Nat.le_refl, ne_eq, if_true, if_false, ite_true, ite_false, List.cons_append, List.nil_append]
            rw [ev, env] at b1
            have n1 : ν < (bkv M1 (x + 3)).1 := by rw [b1]; show ν < (bkv M (x + 3)).1 + 1; omega
            have tr1 : trv M1 (x + 3 + 6 + 8 * ν) = ((bkv M (x + 3)).2 ν).1 := by
              have h0 := bkv_lt n1
              have h1 : (bkv M1 (x + 3)).2 ν = (bkv M (x + 3)).2 ν := by rw [b1]; exact if_neg (by omega)
              rw [h1] at h0
              rw [h0]
            have tA := G1.2.2.1 ν (by omega)
            obtain ⟨a1, a2, a3, a4, a5, a6⟩ := tr_f tA hφ
            have fA : fl M1 (x + 3 + 6 + 8 * ν + 2 + 2 * φ) = fl M (x + 3 + 6 + 8 * ν + 2 + 2 * φ) := by rw [← pk_tr hφ, tr1, hpk]
            have hbA : Bal (cnt (fl M (x + 3 + 6 + 8 * ν + 2 + 2 * φ))) := by
              have := (HW.2.1 ν hν).1.1
              rw [← hpk]
              match φ, hφ with
              | 0, _ => exact this.1
              | 1, _ => exact this.2.1
              | 2, _ => exact this.2.2
            have lenA : (stl (fl M (x + 3 + 6 + 8 * ν + 2 + 2 * φ)) s.toInt).length ≤ 40 := by
              have h1 := sP_len (cnt (fl M (x + 3 + 6 + 8 * ν + 2 + 2 * φ))) s.toInt (cnt (fl M (x + 3 + 6 + 8 * ν + 2 + 2 * φ))).length
              have h2 := cnt_40 g5
              unfold stl
              omega
            refine ⟨s.toInt, (w3_self s).symm, s0, s2, a3, z3, ⟨by omega, by rw [a4, z4]; omega⟩, by rw [z4, z6]; exact a5.2, ?_⟩
            rw [fA]
            simp only [jX6_settle, kX6_settle_0, fl_6_21, fl_6_154, fl_6_173, k0, r0, r1, r2, r3, r4, r5, r6, r7, r8, r13, k1, k2, k137, k305, l1, l2, l137, l305, K0, R1, R2, R3, R4, R5, KK1, K2, K3, K4, K5, L1, L2, L3, L4, L5, w3_00, w3_10, cn_iconst, cn_lconst0, cn_lconst1, cn_null, cn_iload, cn_aload, cn_lload, cn_lo1, cn_loa1, cn_loa2, cn_lol1, cn_get0, cn_gets, cn_put0, cn_puts, cn_istore, cn_astore, cn_astoreN, cn_lstore, cn_iinc, cn_in1, cn_iadd, cn_isub, cn_imul, cn_iand, cn_ior, cn_ixor, cn_ishl, cn_ishr, cn_iushr, cn_idiv, cn_irem, cn_ladd, cn_lmul, cn_ldiv, cn_lrem, cn_i2l, cn_l2i, cn_i2b, cn_lcmp, cn_dupi, cn_dupr, cn_dup2, cn_popi, cn_popr, cn_goto, cn_if_eq, cn_if_ne, cn_if_lt, cn_if_ge, cn_if_gt, cn_if_le, cn_ic_eq, cn_ic_ne, cn_ic_lt, cn_ic_ge, cn_ic_gt, cn_ic_le, cn_ifnullN, cn_ifnullR, cn_ifnonnullN, cn_ifnonnullR, cn_tswS, cn_tsw0, cn_tsw1, cn_lswS, cn_lsw0, cn_lsw1, cn_alen, cn_iaload, cn_laload, cn_rr1, cn_rr0, cn_aaload, cn_iastore, cn_lastore, cn_aastore, cn_getfield, cn_gf0, cn_gf1, cn_gf2, cn_gf3, cn_putfield, cn_pf0f, cn_pf1f, cn_pf2f, cn_pf3f, cn_pf0t, cn_pf1t, cn_pf2t, cn_pf3t, cn_new, cn_nw1, cn_newi, cn_newl, cn_anew, cn_an1, cn_inv_v, cn_inv_s, cn_inv_p, cn_ca1, cn_cb1, cn_pop0, cn_pops, cn_rk0, cn_rk1, cn_kcn, cn_kcs, cn_ireturn, cn_lreturn, cn_areturn, cn_return, cn_re0, cn_re1, cn_re2, cn_re3, cn_re4, cn_re5, cn_wp0, cn_wps, cn_m0, cn_m1, cn_e0, cn_en, cn_ei, cn_er, cn_eu, cn_el, cn_nl0, cn_nls, cn_nb0, cn_nb1, cn_nb2, cn_nb3, cn_bd0, cn_bds, cn_cwi, cn_cwr, cn_cwl, cn_cwn, cn_wi2, cn_wl1, cn_wl3, cn_wr1, cn_wr2, cn_wi_eq, cn_wl_eq, cb_0, cb_n0, cb_b, cm_okb0, cm_okb1, Classical.not_not, true_and, and_true, Nat.reduceAdd, Nat.reduceSub, Nat.reduceLT, Nat.reduceLeDiff, Int.reduceToNat, Int.reduceNatCast', Nat.zero_le, Nat.reduceEqDiff, false_or, or_false, or_true, true_or, Int.reduceNeg, reduceCtorEq, false_implies, implies_true, forall_const, true_implies, not_true_eq_false, not_false_eq_true, Nat.le_refl, ne_eq, if_true, if_false, ite_true, ite_false, List.cons_append, List.nil_append]
            have hfl : fl (mLst M1 (x + 3 + 6 + 8 * (bkv M (x + 3)).1 + 2 + 2 * φ) (stl (fl M (x + 3 + 6 + 8 * ν + 2 + 2 * φ)) s.toInt)) (x + 3 + 6 + 8 * (bkv M (x + 3)).1 + 2 + 2 * φ) = some (stl (fl M (x + 3 + 6 + 8 * ν + 2 + 2 * φ)) s.toInt) := fl_lst (by omega) (by omega)
            have hsz : sz (mLst M1 (x + 3 + 6 + 8 * (bkv M (x + 3)).1 + 2 + 2 * φ) (stl (fl M (x + 3 + 6 + 8 * ν + 2 + 2 * φ)) s.toInt)) (x + 3 + 6 + 8 * (bkv M (x + 3)).1 + 2 + 2 * φ) = ((stl (fl M (x + 3 + 6 + 8 * ν + 2 + 2 * φ)) s.toInt).length : Int) := mRow_sz (by omega) (by omega)
            have F : Fr M1 (mLst M1 (x + 3 + 6 + 8 * (bkv M (x + 3)).1 + 2 + 2 * φ) (stl (fl M (x + 3 + 6 + 8 * ν + 2 + 2 * φ)) s.toInt)) (x + 3 + 6 + 8 * (bkv M (x + 3)).1 + 2 + 2 * φ) 2 := Fr.row (by omega) (by omega) (by omega) (by omega)
            obtain ⟨c1, c2, c3⟩ := cs_child hC F1 G1 b1 h16 hφ F ⟨by rw [hsz]; omega, by rw [hsz]; omega⟩ (by rw [hfl]; exact stl_bal hbA s0)
            rw [hfl] at c2
            refine hS _ c3 c1 ?_
            rw [c2, efw]
          · rw [if_pos (by omega)] at hS
            exact hS.k hC
      · unfold fSet at hS
        rw [cst_b, if_neg (fun w => hs0 w.2)] at hS
        have tv := eq_true hv0
        refine cm_go hX6_settle 200 oX6_settle (eX6_settle d hd) lX6_settle_0 ?_
        simp only [jX6_settle, kX6_settle_0, fl_6_21, fl_6_154, fl_6_173, SX6_hasFile, SX6_isRow, hn, tv, i3_lt, i3_le, i3_z, e2, k0, r0, r1, r2, r3, r4, r5, r6, r7, r8, r13, k1, k2, k137, k305, l1, l2, l137, l305, K0, R1, R2, R3, R4, R5, KK1, K2, K3, K4, K5, L1, L2, L3, L4, L5, w3_00, w3_10, cn_iconst, cn_lconst0, cn_lconst1, cn_null, cn_iload, cn_aload, cn_lload, cn_lo1, cn_loa1, cn_loa2, cn_lol1, cn_get0, cn_gets, cn_put0, cn_puts, cn_istore, cn_astore, cn_astoreN, cn_lstore, cn_iinc, cn_in1, cn_iadd, cn_isub, cn_imul, cn_iand, cn_ior, cn_ixor, cn_ishl, cn_ishr, cn_iushr, cn_idiv, cn_irem, cn_ladd, cn_lmul, cn_ldiv, cn_lrem, cn_i2l, cn_l2i, cn_i2b, cn_lcmp, cn_dupi, cn_dupr, cn_dup2, cn_popi, cn_popr, cn_goto, cn_if_eq, cn_if_ne, cn_if_lt, cn_if_ge, cn_if_gt, cn_if_le, cn_ic_eq, cn_ic_ne, cn_ic_lt, cn_ic_ge, cn_ic_gt, cn_ic_le, cn_ifnullN, cn_ifnullR, cn_ifnonnullN, cn_ifnonnullR, cn_tswS, cn_tsw0, cn_tsw1, cn_lswS, cn_lsw0, cn_lsw1, cn_alen, cn_iaload, cn_laload, cn_rr1, cn_rr0, cn_aaload, cn_iastore, cn_lastore, cn_aastore, cn_getfield, cn_gf0, cn_gf1, cn_gf2, cn_gf3, cn_putfield, cn_pf0f, cn_pf1f, cn_pf2f, cn_pf3f, cn_pf0t, cn_pf1t, cn_pf2t, cn_pf3t, cn_new, cn_nw1, cn_newi, cn_newl, cn_anew, cn_an1, cn_inv_v, cn_inv_s, cn_inv_p, cn_ca1, cn_cb1, cn_pop0, cn_pops, cn_rk0, cn_rk1, cn_kcn, cn_kcs, cn_ireturn, cn_lreturn, cn_areturn, cn_return, cn_re0, cn_re1, cn_re2, cn_re3, cn_re4, cn_re5, cn_wp0, cn_wps, cn_m0, cn_m1, cn_e0, cn_en, cn_ei, cn_er, cn_eu, cn_el, cn_nl0, cn_nls, cn_nb0, cn_nb1, cn_nb2, cn_nb3, cn_bd0, cn_bds, cn_cwi, cn_cwr, cn_cwl, cn_cwn, cn_wi2, cn_wl1, cn_wl3, cn_wr1, cn_wr2, cn_wi_eq, cn_wl_eq, cb_0, cb_n0, cb_b, cm_okb0, cm_okb1, Classical.not_not, true_and, and_true, Nat.reduceAdd, Nat.reduceSub, Nat.reduceLT, Nat.reduceLeDiff, Int.reduceToNat, Int.reduceNatCast', Nat.zero_le, Nat.reduceEqDiff, false_or, or_false, or_true, true_or, Int.reduceNeg, reduceCtorEq, false_implies, implies_true, forall_const, true_implies, not_true_eq_false, not_false_eq_true, Nat.le_refl, ne_eq, if_true, if_false, ite_true, ite_false, List.cons_append, List.nil_append]
        refine ⟨fun _ => hS.k hC, fun q => ⟨fun q6 => absurd ⟨by omega, q6⟩ hs0, fun _ => hS.k hC⟩⟩
    · have tv := eq_false hv0
      unfold fSet at hS
      rw [cst_b, if_neg (fun w => hv0 w.1)] at hS
      refine cm_go hX6_settle 200 oX6_settle (eX6_settle d hd) lX6_settle_0 ?_
      simp only [jX6_settle, kX6_settle_0, fl_6_21, fl_6_154, fl_6_173, SX6_hasFile, SX6_isRow, hn, tv, k0, r0, r1, r2, r3, r4, r5, r6, r7, r8, r13, k1, k2, k137, k305, l1, l2, l137, l305, K0, R1, R2, R3, R4, R5, KK1, K2, K3, K4, K5, L1, L2, L3, L4, L5, w3_00, w3_10, cn_iconst, cn_lconst0, cn_lconst1, cn_null, cn_iload, cn_aload, cn_lload, cn_lo1, cn_loa1, cn_loa2, cn_lol1, cn_get0, cn_gets, cn_put0, cn_puts, cn_istore, cn_astore, cn_astoreN, cn_lstore, cn_iinc, cn_in1, cn_iadd, cn_isub, cn_imul, cn_iand, cn_ior, cn_ixor, cn_ishl, cn_ishr, cn_iushr, cn_idiv, cn_irem, cn_ladd, cn_lmul, cn_ldiv, cn_lrem, cn_i2l, cn_l2i, cn_i2b, cn_lcmp, cn_dupi, cn_dupr, cn_dup2, cn_popi, cn_popr, cn_goto, cn_if_eq, cn_if_ne, cn_if_lt, cn_if_ge, cn_if_gt, cn_if_le, cn_ic_eq, cn_ic_ne, cn_ic_lt, cn_ic_ge, cn_ic_gt, cn_ic_le, cn_ifnullN, cn_ifnullR, cn_ifnonnullN, cn_ifnonnullR, cn_tswS, cn_tsw0, cn_tsw1, cn_lswS, cn_lsw0, cn_lsw1, cn_alen, cn_iaload, cn_laload, cn_rr1, cn_rr0, cn_aaload, cn_iastore, cn_lastore, cn_aastore, cn_getfield, cn_gf0, cn_gf1, cn_gf2, cn_gf3, cn_putfield, cn_pf0f, cn_pf1f, cn_pf2f, cn_pf3f, cn_pf0t, cn_pf1t, cn_pf2t, cn_pf3t, cn_new, cn_nw1, cn_newi, cn_newl, cn_anew, cn_an1, cn_inv_v, cn_inv_s, cn_inv_p, cn_ca1, cn_cb1, cn_pop0, cn_pops, cn_rk0, cn_rk1, cn_kcn, cn_kcs, cn_ireturn, cn_lreturn, cn_areturn, cn_return, cn_re0, cn_re1, cn_re2, cn_re3, cn_re4, cn_re5, cn_wp0, cn_wps, cn_m0, cn_m1, cn_e0, cn_en, cn_ei, cn_er, cn_eu, cn_el, cn_nl0, cn_nls, cn_nb0, cn_nb1, cn_nb2, cn_nb3, cn_bd0, cn_bds, cn_cwi, cn_cwr, cn_cwl, cn_cwn, cn_wi2, cn_wl1, cn_wl3, cn_wr1, cn_wr2, cn_wi_eq, cn_wl_eq, cb_0, cb_n0, cb_b, cm_okb0, cm_okb1, Classical.not_not, true_and, and_true, Nat.reduceAdd, Nat.reduceSub, Nat.reduceLT, Nat.reduceLeDiff, Int.reduceToNat, Int.reduceNatCast', Nat.zero_le, Nat.reduceEqDiff, false_or, or_false, or_true, true_or, Int.reduceNeg, reduceCtorEq, false_implies, implies_true, forall_const, true_implies, not_true_eq_false, not_false_eq_true, Nat.le_refl, ne_eq, if_true, if_false, ite_true, ite_false, List.cons_append, List.nil_append]
      exact hS.k hC

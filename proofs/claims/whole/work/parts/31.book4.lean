theorem w6_add (a b : Int) : w6 a + w6 b = w6 (a + b) := (Int64.ofInt_add a b).symm
theorem w6_i (z : Int) : (w6 z).toInt32 = w3 z := Int64.toInt32_ofInt
theorem w6_div {z : Int} (h1 : 0 ≤ z) (h2 : z ≤ 4611686018427387904) : w6 z / w6 2 = w6 (z / 2) := by
  have m1 : Int64.minValue.toInt = -9223372036854775808 := by decide
  have m2 : Int64.maxValue.toInt = 9223372036854775807 := by decide
  have e : Int64.ofInt (z.tdiv 2) = Int64.ofInt z / Int64.ofInt 2 := Int64.ofInt_tdiv (by omega) (by omega) (by omega) (by omega)
  rw [Int.tdiv_eq_ediv_of_nonneg h1] at e
  exact e.symm
theorem w6_2 : (w6 2 = 0) = False := eq_false (by decide)
/-- the row of longs at a is made v, up to n -/
def mFillL (M : cm_M) (a : Nat) (n : Int) (v : Int64) : cm_M := (M.1, fun q j => if q = a ∧ 0 ≤ j ∧ j < n then v else M.2.1 q j, M.2.2)
theorem mFillL_0 (M : cm_M) (a : Nat) (v : Int64) : mFillL M a 0 v = M := by
  unfold mFillL
  refine Prod.ext rfl (Prod.ext (funext fun q => funext fun j => ?_) rfl)
  exact if_neg (by omega)
theorem mFillL_s (M : cm_M) (a k : Nat) (v : Int64) : cm_wl (mFillL M a (k : Int) v) a (k : Int) v = mFillL M a ((k : Int) + 1) v := by
  unfold mFillL cm_wl
  refine Prod.ext rfl (Prod.ext (funext fun q => funext fun j => ?_) rfl)
  show (if q = a ∧ j = (k : Int) then v else if q = a ∧ 0 ≤ j ∧ j < (k : Int) then v else M.2.1 q j) = if q = a ∧ 0 ≤ j ∧ j < (k : Int) + 1 then v else M.2.1 q j
  by_cases h1 : q = a
  · by_cases h2 : j = (k : Int)
    · rw [if_pos ⟨h1, h2⟩, if_pos ⟨h1, by omega, by omega⟩]
    · rw [if_neg (fun w => h2 w.2)]
      by_cases h3 : 0 ≤ j ∧ j < (k : Int)
      · rw [if_pos ⟨h1, h3⟩, if_pos ⟨h1, by omega, by omega⟩]
      · rw [if_neg (fun w => h3 w.2), if_neg (fun w => h3 (by omega))]
  · rw [if_neg (fun w => h1 w.1), if_neg (fun w => h1 w.1), if_neg (fun w => h1 w.1)]
def SJ7_fill_d0a16 : cm_CT := fun as T M Φ => match as with
  | [.ref a, .long v] => T.1 a = 21 ∧ T.2.1 a ≤ 100000 ∧ Φ none T (mFillL M a (T.2.1 a) v)
  | _ => False
def JJ7_fill_d0a16 : cm_J := (11, false, 0, [], [], [])
theorem jJ7_fill_d0a16 : JJ7_fill_d0a16.1 = 11 ∧ JJ7_fill_d0a16.2.1 = false ∧ JJ7_fill_d0a16.2.2.1 = 0 := ⟨rfl, rfl, rfl⟩
theorem eJ7_fill_d0a16 (d : Nat) (hd : 0 ≤ d) : cm_Cok d JJ7_fill_d0a16 := ⟨(fun q h => by cases h), (fun q h => by cases h), (fun q h => by cases h)⟩
set_option maxHeartbeats 4000000 in
theorem lJ7_fillL (d : Nat) (hd : 0 ≤ d) {T : cm_T} {M : cm_M} {Φ : Option Value → cm_T → cm_M → Prop} {a : Nat} {v : Int64} (h1 : T.1 a = 21) (h2 : T.2.1 a ≤ 100000) (hS : Φ none T (mFillL M a (T.2.1 a) v)) :
    ∀ (k : Nat), k ≤ T.2.1 a → cm_Go d cJ7_fill_d0a16 5 0 0 JJ7_fill_d0a16 Φ 6 [some (.ref a), some (.long v), none, some (.int (w3 k)), some (.int (w3 (T.2.1 a)))] [] (0, 0) T (mFillL M a k v) := by
  intro k
  induction hf : (T.2.1 a - k) using Nat.strongRecOn generalizing k with
  | _ fu ih =>
    intro k1
    refine cm_go hJ7_fill_d0a16 200 oJ7_fill_d0a16 (eJ7_fill_d0a16 d hd) lJ7_fill_d0a16_6 ?_
    simp only [jJ7_fill_d0a16, kJ7_fill_d0a16_0, h1, cn_iconst, cn_lconst0, cn_lconst1, cn_null, cn_iload, cn_aload, cn_lload, cn_lo1, cn_loa1, cn_loa2, cn_lol1, cn_get0, cn_gets, cn_put0, cn_puts, cn_istore, cn_astore, cn_astoreN, cn_lstore, cn_iinc, cn_in1, cn_iadd, cn_isub, cn_imul, cn_iand, cn_ior, cn_ixor, cn_ishl, cn_ishr, cn_iushr, cn_idiv, cn_irem, cn_ladd, cn_lmul, cn_ldiv, cn_lrem, cn_i2l, cn_l2i, cn_i2b, cn_lcmp, cn_dupi, cn_dupr, cn_dup2, cn_popi, cn_popr, cn_goto, cn_if_eq, cn_if_ne, cn_if_lt, cn_if_ge, cn_if_gt, cn_if_le, cn_ic_eq, cn_ic_ne, cn_ic_lt, cn_ic_ge, cn_ic_gt, cn_ic_le, cn_ifnullN, cn_ifnullR, cn_ifnonnullN, cn_ifnonnullR, cn_tswS, cn_tsw0, cn_tsw1, cn_lswS, cn_lsw0, cn_lsw1, cn_alen, cn_iaload, cn_laload, cn_rr1, cn_rr0, cn_aaload, cn_iastore, cn_lastore, cn_aastore, cn_getfield, cn_gf0, cn_gf1, cn_gf2, cn_gf3, cn_putfield, cn_pf0f, cn_pf1f, cn_pf2f, cn_pf3f, cn_pf0t, cn_pf1t, cn_pf2t, cn_pf3t, cn_new, cn_nw1, cn_newi, cn_newl, cn_anew, cn_an1, cn_inv_v, cn_inv_s, cn_inv_p, cn_ca1, cn_cb1, cn_pop0, cn_pops, cn_rk0, cn_rk1, cn_kcn, cn_kcs, cn_ireturn, cn_lreturn, cn_areturn, cn_return, cn_re0, cn_re1, cn_re2, cn_re3, cn_re4, cn_re5, cn_wp0, cn_wps, cn_m0, cn_m1, cn_e0, cn_en, cn_ei, cn_er, cn_eu, cn_el, cn_nl0, cn_nls, cn_nb0, cn_nb1, cn_nb2, cn_nb3, cn_bd0, cn_bds, cn_cwi, cn_cwr, cn_cwl, cn_cwn, cn_wi2, cn_wl1, cn_wl3, cn_wr1, cn_wr2, cn_wi_eq, cn_wl_eq, cb_0, cb_n0, cb_b, cm_okb0, cm_okb1, Classical.not_not, true_and, and_true, Nat.reduceAdd, Nat.reduceSub, Nat.reduceLT, Nat.reduceLeDiff, Int.reduceToNat, Int.reduceNatCast', Nat.zero_le, Nat.reduceEqDiff, false_or, or_false, or_true, true_or, Int.reduceNeg, reduceCtorEq, false_implies, implies_true, forall_const, true_implies, not_true_eq_false, not_false_eq_true, Nat.le_refl, ne_eq, if_true, if_false, ite_true, ite_false, List.cons_append, List.nil_append]
    simp (disch := omega) only [w3_le, w3_lt, w3_eq, w3_ix, w3_add, w3_sub, w3_mul, w3_toInt, w3_z]
    refine ⟨fun h => ?_, fun h => ⟨⟨by omega, by omega⟩, ?_⟩⟩
    · rw [show k = T.2.1 a by omega]; exact hS
    · rw [mFillL_s M a k v]
      exact ih _ (show T.2.1 a - (k + 1) < fu by omega) (k + 1) rfl (by omega)
set_option maxHeartbeats 4000000 in
theorem mJ7_fill_d0a16 (d : Nat) (hd : 0 ≤ d) : cm_Met d yJ7_fill_d0a16 cJ7_fill_d0a16 5 none 0 0 SJ7_fill_d0a16 := by
  refine cm_meets (J := JJ7_fill_d0a16) (by decide) rfl (fun h => by cases h) trivial ?_
  intro as T M Φ hS
  match as, hS with
  | [.ref a, .long v], ⟨h1, h2, hS⟩ =>
    refine ⟨Nat.le_of_ble_eq_true rfl, ?_⟩
    refine cm_go hJ7_fill_d0a16 200 oJ7_fill_d0a16 (eJ7_fill_d0a16 d hd) lJ7_fill_d0a16_0 ?_
    simp only [jJ7_fill_d0a16, kJ7_fill_d0a16_0, h1, cn_iconst, cn_lconst0, cn_lconst1, cn_null, cn_iload, cn_aload, cn_lload, cn_lo1, cn_loa1, cn_loa2, cn_lol1, cn_get0, cn_gets, cn_put0, cn_puts, cn_istore, cn_astore, cn_astoreN, cn_lstore, cn_iinc, cn_in1, cn_iadd, cn_isub, cn_imul, cn_iand, cn_ior, cn_ixor, cn_ishl, cn_ishr, cn_iushr, cn_idiv, cn_irem, cn_ladd, cn_lmul, cn_ldiv, cn_lrem, cn_i2l, cn_l2i, cn_i2b, cn_lcmp, cn_dupi, cn_dupr, cn_dup2, cn_popi, cn_popr, cn_goto, cn_if_eq, cn_if_ne, cn_if_lt, cn_if_ge, cn_if_gt, cn_if_le, cn_ic_eq, cn_ic_ne, cn_ic_lt, cn_ic_ge, cn_ic_gt, cn_ic_le, cn_ifnullN, cn_ifnullR, cn_ifnonnullN, cn_ifnonnullR, cn_tswS, cn_tsw0, cn_tsw1, cn_lswS, cn_lsw0, cn_lsw1, cn_alen, cn_iaload, cn_laload, cn_rr1, cn_rr0, cn_aaload, cn_iastore, cn_lastore, cn_aastore, cn_getfield, cn_gf0, cn_gf1, cn_gf2, cn_gf3, cn_putfield, cn_pf0f, cn_pf1f, cn_pf2f, cn_pf3f, cn_pf0t, cn_pf1t, cn_pf2t, cn_pf3t, cn_new, cn_nw1, cn_newi, cn_newl, cn_anew, cn_an1, cn_inv_v, cn_inv_s, cn_inv_p, cn_ca1, cn_cb1, cn_pop0, cn_pops, cn_rk0, cn_rk1, cn_kcn, cn_kcs, cn_ireturn, cn_lreturn, cn_areturn, cn_return, cn_re0, cn_re1, cn_re2, cn_re3, cn_re4, cn_re5, cn_wp0, cn_wps, cn_m0, cn_m1, cn_e0, cn_en, cn_ei, cn_er, cn_eu, cn_el, cn_nl0, cn_nls, cn_nb0, cn_nb1, cn_nb2, cn_nb3, cn_bd0, cn_bds, cn_cwi, cn_cwr, cn_cwl, cn_cwn, cn_wi2, cn_wl1, cn_wl3, cn_wr1, cn_wr2, cn_wi_eq, cn_wl_eq, cb_0, cb_n0, cb_b, cm_okb0, cm_okb1, Classical.not_not, true_and, and_true, Nat.reduceAdd, Nat.reduceSub, Nat.reduceLT, Nat.reduceLeDiff, Int.reduceToNat, Int.reduceNatCast', Nat.zero_le, Nat.reduceEqDiff, false_or, or_false, or_true, true_or, Int.reduceNeg, reduceCtorEq, false_implies, implies_true, forall_const, true_implies, not_true_eq_false, not_false_eq_true, Nat.le_refl, ne_eq, if_true, if_false, ite_true, ite_false, List.cons_append, List.nil_append]
    have := lJ7_fillL d hd (v := v) h1 h2 hS 0 (Nat.zero_le _)
    rw [show ((0 : Nat) : Int) = 0 from rfl, mFillL_0] at this
    exact this
theorem mFillL_1 {M : cm_M} {a : Nat} {n : Int} {v : Int64} : (mFillL M a n v).1 = M.1 := Eq.trans rfl rfl
theorem mFillL_2 {M : cm_M} {a : Nat} {n : Int} {v : Int64} : (mFillL M a n v).2.2 = M.2.2 := Eq.trans rfl rfl
theorem mFillL_in {M : cm_M} {a : Nat} {n j : Int} {v : Int64} (h1 : 0 ≤ j) (h2 : j < n) : (mFillL M a n v).2.1 a j = v := if_pos ⟨rfl, h1, h2⟩
/-- only the tallies of the book at β have changed -/
def FrL (M M1 : cm_M) (β : Nat) : Prop := M1.1 = M.1 ∧ M1.2.2 = M.2.2 ∧ ∀ q : Nat, q ≠ β + 5 → M1.2.1 q = M.2.1 q
theorem FrL.rf {M : cm_M} {β : Nat} : FrL M M β := ⟨rfl, rfl, fun _ _ => rfl⟩
theorem FrL.trans {M M1 M2 : cm_M} {β : Nat} (h : FrL M M1 β) (k : FrL M1 M2 β) : FrL M M2 β := ⟨k.1.trans h.1, k.2.1.trans h.2.1, fun q hq => (k.2.2 q hq).trans (h.2.2 q hq)⟩
theorem FrL.wl {M : cm_M} {β : Nat} {k : Int} {v : Int64} : FrL M (cm_wl M (β + 5) k v) β := ⟨rfl, rfl, fun q hq => funext fun j => cn_wl_ne (Or.inl hq)⟩
theorem FrL.fi {M : cm_M} {β : Nat} {k : Int} {v : Int64} : FrL M (mFillL M (β + 5) k v) β := ⟨rfl, rfl, fun q hq => funext fun j => if_neg (fun w => hq w.1)⟩
theorem FrL.bk {T : cm_T} {M M1 : cm_M} {β γ : Nat} (h : FrL M M1 β) (hG : BkG T M γ) : BkG T M1 γ ∧ bkv M1 γ = bkv M γ := by
  have e : M1 = (M.1, M1.2.1, M.2.2) := Prod.ext h.1 (Prod.ext rfl h.2.1)
  rw [e]
  exact ⟨hG, rfl⟩
/-- in how many ways one comes back to the root -/
noncomputable def wys (B : Bk) (v : Nat) : Nat :=
  if v = 0 then 1 else (if h : 0 ≤ (B.2 v).2.1 ∧ (B.2 v).2.1 < (v : Int) then wys B (B.2 v).2.1.toNat else 0) + (if h : 0 ≤ (B.2 v).2.2 ∧ (B.2 v).2.2 < (v : Int) then wys B (B.2 v).2.2.toNat else 0)
termination_by v
decreasing_by all_goals omega
noncomputable def wOf (B : Bk) (v : Nat) (f : Int) : Nat := if 0 ≤ f ∧ f < (v : Int) then wys B f.toNat else 0
theorem wys_0 (B : Bk) : wys B 0 = 1 := by rw [wys, if_pos rfl]
theorem wys_s (B : Bk) (v : Nat) (h : v ≠ 0) : wys B v = wOf B v (B.2 v).2.1 + wOf B v (B.2 v).2.2 := by
  conv => lhs; rw [wys, if_neg h]
  rfl
theorem wys_le (B : Bk) : ∀ v : Nat, wys B v ≤ 2 ^ v := by
  intro v
  induction v using Nat.strongRecOn with
  | _ v ih =>
    by_cases h : v = 0
    · rw [h, wys_0]; decide
    · rw [wys_s B v h]
      have key : ∀ f : Int, wOf B v f ≤ 2 ^ (v - 1) := by
        intro f
        unfold wOf
        by_cases q : 0 ≤ f ∧ f < (v : Int)
        · rw [if_pos q]
          exact Nat.le_trans (ih _ (by omega)) (Nat.pow_le_pow_right (by decide) (by omega))
        · rw [if_neg q]; exact Nat.zero_le _
      have h1 := key (B.2 v).2.1
      have h2 := key (B.2 v).2.2
      have h3 : 2 ^ v = 2 ^ (v - 1) * 2 := by rw [← Nat.pow_succ]; congr 1; omega
      omega
def SX0_tallyOf : cm_CT := fun as T M Φ => match as with
  | [.ref β, .int v] => (T.1 β = 1 ∧ M.2.2 β 5 = some (β + 5) ∧ T.1 (β + 5) = 21 ∧ T.2.1 (β + 5) = 16) ∧ bsz M β ≤ 16 ∧ Φ (some (.long (if 0 ≤ v.toInt ∧ v.toInt < bsz M β then M.2.1 (β + 5) v.toInt else w6 0))) T M
  | _ => False
def JX0_tallyOf : cm_J := (0, false, 3, [(48, 2, 1, 0, 0, SX0_has)], [], [])
theorem jX0_tallyOf : JX0_tallyOf.1 = 0 ∧ JX0_tallyOf.2.1 = false ∧ JX0_tallyOf.2.2.1 = 3 ∧ cm_gv JX0_tallyOf 48 = some (2, 1, 0, 0, SX0_has) := ⟨rfl, rfl, rfl, rfl⟩
theorem eX0_tallyOf (d : Nat) (hd : 1 ≤ d) : cm_Cok d JX0_tallyOf := ⟨(List.forall_mem_cons.mpr ⟨q0_48 (mX0_has (d - 1) (by omega)) (by omega), (fun q h => by cases h)⟩), (fun q h => by cases h), (fun q h => by cases h)⟩
set_option maxHeartbeats 4000000 in
theorem mX0_tallyOf (d : Nat) (hd : 1 ≤ d) : cm_Met d yX0_tallyOf cX0_tallyOf 2 (some .long) 0 0 SX0_tallyOf := by
  refine cm_meets (J := JX0_tallyOf) (by decide) rfl (fun h => by cases h) trivial ?_
  intro as T M Φ hS
  match as, hS with
  | [.ref β, .int v], ⟨⟨h1, h2, h3, h4⟩, hb, hS⟩ =>
    refine ⟨Nat.le_of_ble_eq_true rfl, ?_⟩
    refine cm_go hX0_tallyOf 200 oX0_tallyOf (eX0_tallyOf d hd) lX0_tallyOf_0 ?_
    simp only [jX0_tallyOf, kX0_tallyOf_0, fl_0_31, SX0_has, h1, h2, h3, h4, cn_iconst, cn_lconst0, cn_lconst1, cn_null, cn_iload, cn_aload, cn_lload, cn_lo1, cn_loa1, cn_loa2, cn_lol1, cn_get0, cn_gets, cn_put0, cn_puts, cn_istore, cn_astore, cn_astoreN, cn_lstore, cn_iinc, cn_in1, cn_iadd, cn_isub, cn_imul, cn_iand, cn_ior, cn_ixor, cn_ishl, cn_ishr, cn_iushr, cn_idiv, cn_irem, cn_ladd, cn_lmul, cn_ldiv, cn_lrem, cn_i2l, cn_l2i, cn_i2b, cn_lcmp, cn_dupi, cn_dupr, cn_dup2, cn_popi, cn_popr, cn_goto, cn_if_eq, cn_if_ne, cn_if_lt, cn_if_ge, cn_if_gt, cn_if_le, cn_ic_eq, cn_ic_ne, cn_ic_lt, cn_ic_ge, cn_ic_gt, cn_ic_le, cn_ifnullN, cn_ifnullR, cn_ifnonnullN, cn_ifnonnullR, cn_tswS, cn_tsw0, cn_tsw1, cn_lswS, cn_lsw0, cn_lsw1, cn_alen, cn_iaload, cn_laload, cn_rr1, cn_rr0, cn_aaload, cn_iastore, cn_lastore, cn_aastore, cn_getfield, cn_gf0, cn_gf1, cn_gf2, cn_gf3, cn_putfield, cn_pf0f, cn_pf1f, cn_pf2f, cn_pf3f, cn_pf0t, cn_pf1t, cn_pf2t, cn_pf3t, cn_new, cn_nw1, cn_newi, cn_newl, cn_anew, cn_an1, cn_inv_v, cn_inv_s, cn_inv_p, cn_ca1, cn_cb1, cn_pop0, cn_pops, cn_rk0, cn_rk1, cn_kcn, cn_kcs, cn_ireturn, cn_lreturn, cn_areturn, cn_return, cn_re0, cn_re1, cn_re2, cn_re3, cn_re4, cn_re5, cn_wp0, cn_wps, cn_m0, cn_m1, cn_e0, cn_en, cn_ei, cn_er, cn_eu, cn_el, cn_nl0, cn_nls, cn_nb0, cn_nb1, cn_nb2, cn_nb3, cn_bd0, cn_bds, cn_cwi, cn_cwr, cn_cwl, cn_cwn, cn_wi2, cn_wl1, cn_wl3, cn_wr1, cn_wr2, cn_wi_eq, cn_wl_eq, cb_0, cb_n0, cb_b, cm_okb0, cm_okb1, Classical.not_not, true_and, and_true, Nat.reduceAdd, Nat.reduceSub, Nat.reduceLT, Nat.reduceLeDiff, Int.reduceToNat, Int.reduceNatCast', Nat.zero_le, Nat.reduceEqDiff, false_or, or_false, or_true, true_or, Int.reduceNeg, reduceCtorEq, false_implies, implies_true, forall_const, true_implies, not_true_eq_false, not_false_eq_true, Nat.le_refl, ne_eq, if_true, if_false, ite_true, ite_false, List.cons_append, List.nil_append]
    have hb : bsz M β ≤ 16 := hb
    refine ⟨fun h => ?_, fun h => ⟨?_, ?_⟩⟩
    · rw [if_neg h] at hS; exact hS
    · show 0 ≤ v.toInt ∧ v.toInt < ((16 : Nat) : Int)
      omega
    · rw [if_pos h] at hS; exact hS
def SX0_waysBack : cm_CT := fun as T M Φ => match as with
  | [.ref β, .int v] => ∃ k : Nat, BkG T M β ∧ v = w3 k ∧ k < (bkv M β).1 ∧ ∀ M1, FrL M M1 β → Φ (some (.int (w3 (wys (bkv M β) k : Int)))) T M1
  | _ => False
def JX0_waysBack : cm_J := (0, false, 1, [(74, 2, 1, 0, 0, SX0_tallyOf)], [], [])
theorem jX0_waysBack : JX0_waysBack.1 = 0 ∧ JX0_waysBack.2.1 = false ∧ JX0_waysBack.2.2.1 = 1 ∧ cm_gv JX0_waysBack 74 = some (2, 1, 0, 0, SX0_tallyOf) := ⟨rfl, rfl, rfl, rfl⟩
theorem eX0_waysBack (d : Nat) (hd : 2 ≤ d) : cm_Cok d JX0_waysBack := ⟨(List.forall_mem_cons.mpr ⟨q0_74 (mX0_tallyOf (d - 1) (by omega)) (by omega), (fun q h => by cases h)⟩), (fun q h => by cases h), (fun q h => by cases h)⟩
set_option maxHeartbeats 4000000 in
theorem lX0_waysBack (d : Nat) (hd : 2 ≤ d) {T : cm_T} {M : cm_M} {Φ : Option Value → cm_T → cm_M → Prop} {β k : Nat} (hG : BkG T M β) (hk : k < (bkv M β).1) (hS : ∀ M1, FrL M M1 β → Φ (some (.int (w3 (wys (bkv M β) k : Int)))) T M1) :
    ∀ (x : Nat) (M1 : cm_M), 1 ≤ x → x ≤ k + 1 → FrL M M1 β → (∀ u : Nat, u < x → M1.2.1 (β + 5) (u : Int) = w6 (wys (bkv M β) u : Int)) → cm_Go d cX0_waysBack 3 0 0 JX0_waysBack Φ 9 [some (.ref β), some (.int (w3 k)), some (.int (w3 x))] [] (0, 0) T M1 := by
  intro x
  induction hf : (k + 1 - x) using Nat.strongRecOn generalizing x with
  | _ fu ih =>
    intro M1 x1 x2 hF hu
    obtain ⟨⟨k0, ⟨r1, r2, r3, r4, r5⟩, ⟨kk1, k2, k3, k4, k5⟩, ⟨l1, l2, l3, l4, l5⟩, rv⟩, hz, hT, hW, hA⟩ := id hG
    obtain ⟨hn, hn16⟩ := hG.n
    have hz0 : M.1 β 0 = w3 ((bkv M β).1 : Int) := i3_of hn

    have ek : (w3 (k : Int)).toInt = (k : Int) := w3_toInt (by omega) (by omega)
    have ex : (w3 (x : Int)).toInt = (x : Int) := w3_toInt (by omega) (by omega)
    have e1 := hF.1
    have e2 := hF.2.1
    have b1 : bsz M1 β = ((bkv M β).1 : Int) := by unfold bsz; rw [e1]; exact hn
    have h16 : (((bkv M β).1 : Int) ≤ 16) := by omega
    refine cm_go hX0_waysBack 200 oX0_waysBack (eX0_waysBack d hd) lX0_waysBack_9 ?_
    simp only [jX0_waysBack, kX0_waysBack_0, fl_0_31, fl_0_21, fl_0_25, SX0_tallyOf, b1, e1, e2, ek, ex, h16, k0, kk1, k2, k3, k4, k5, l1, l2, l3, l4, l5, r1, r2, r3, r4, r5, cn_iconst, cn_lconst0, cn_lconst1, cn_null, cn_iload, cn_aload, cn_lload, cn_lo1, cn_loa1, cn_loa2, cn_lol1, cn_get0, cn_gets, cn_put0, cn_puts, cn_istore, cn_astore, cn_astoreN, cn_lstore, cn_iinc, cn_in1, cn_iadd, cn_isub, cn_imul, cn_iand, cn_ior, cn_ixor, cn_ishl, cn_ishr, cn_iushr, cn_idiv, cn_irem, cn_ladd, cn_lmul, cn_ldiv, cn_lrem, cn_i2l, cn_l2i, cn_i2b, cn_lcmp, cn_dupi, cn_dupr, cn_dup2, cn_popi, cn_popr, cn_goto, cn_if_eq, cn_if_ne, cn_if_lt, cn_if_ge, cn_if_gt, cn_if_le, cn_ic_eq, cn_ic_ne, cn_ic_lt, cn_ic_ge, cn_ic_gt, cn_ic_le, cn_ifnullN, cn_ifnullR, cn_ifnonnullN, cn_ifnonnullR, cn_tswS, cn_tsw0, cn_tsw1, cn_lswS, cn_lsw0, cn_lsw1, cn_alen, cn_iaload, cn_laload, cn_rr1, cn_rr0, cn_aaload, cn_iastore, cn_lastore, cn_aastore, cn_getfield, cn_gf0, cn_gf1, cn_gf2, cn_gf3, cn_putfield, cn_pf0f, cn_pf1f, cn_pf2f, cn_pf3f, cn_pf0t, cn_pf1t, cn_pf2t, cn_pf3t, cn_new, cn_nw1, cn_newi, cn_newl, cn_anew, cn_an1, cn_inv_v, cn_inv_s, cn_inv_p, cn_ca1, cn_cb1, cn_pop0, cn_pops, cn_rk0, cn_rk1, cn_kcn, cn_kcs, cn_ireturn, cn_lreturn, cn_areturn, cn_return, cn_re0, cn_re1, cn_re2, cn_re3, cn_re4, cn_re5, cn_wp0, cn_wps, cn_m0, cn_m1, cn_e0, cn_en, cn_ei, cn_er, cn_eu, cn_el, cn_nl0, cn_nls, cn_nb0, cn_nb1, cn_nb2, cn_nb3, cn_bd0, cn_bds, cn_cwi, cn_cwr, cn_cwl, cn_cwn, cn_wi2, cn_wl1, cn_wl3, cn_wr1, cn_wr2, cn_wi_eq, cn_wl_eq, cb_0, cb_n0, cb_b, cm_okb0, cm_okb1, Classical.not_not, true_and, and_true, Nat.reduceAdd, Nat.reduceSub, Nat.reduceLT, Nat.reduceLeDiff, Int.reduceToNat, Int.reduceNatCast', Nat.zero_le, Nat.reduceEqDiff, false_or, or_false, or_true, true_or, Int.reduceNeg, reduceCtorEq, false_implies, implies_true, forall_const, true_implies, not_true_eq_false, not_false_eq_true, Nat.le_refl, ne_eq, if_true, if_false, ite_true, ite_false, List.cons_append, List.nil_append]
    simp (disch := omega) only [w3_lt, w3_ix]
    refine ⟨fun q => ⟨⟨by omega, by omega⟩, ?_⟩, fun q => ⟨⟨by omega, by omega⟩, ⟨by omega, by omega⟩, ⟨by omega, by omega⟩, ?_⟩⟩
    · rw [hu k (by omega), w6_i]
      exact hS M1 hF
    · obtain ⟨-, w0, w1⟩ := hW.2.1 x (by omega)
      obtain ⟨w2, w3', w4⟩ := w1 (by omega)
      have hr := bkv_lt (M := M) (β := β) (v := x) (by omega)
      rw [hr] at w2 w3' w4
      have key : ∀ f : Int, (f = -9 ∨ (0 ≤ f ∧ f < (x : Int))) → (if 0 ≤ f ∧ f < ((bkv M β).1 : Int) then M1.2.1 (β + 5) f else w6 0) = w6 (wOf (bkv M β) x f : Int) := by
        intro f hf
        unfold wOf
        by_cases h : 0 ≤ f ∧ f < (x : Int)
        · rw [if_pos h, if_pos ⟨h.1, by omega⟩]
          have := hu f.toNat (by omega)
          rw [Int.toNat_of_nonneg h.1] at this
          exact this
        · rw [if_neg h, if_neg (by omega)]
          rfl
      rw [key _ (Or.inr ⟨w2, w3'⟩), key _ w4, w6_add, w3_add]
      refine ih (k + 1 - (x + 1)) (by omega) (x + 1) rfl _ (by omega) (by omega) (hF.trans FrL.wl) (fun u hu2 => ?_)
      by_cases h : u = x
      · rw [h, wys_s (bkv M β) x (by omega), hr]
        exact cn_wl_eq
      · rw [cn_wl_ne (Or.inr (by omega))]
        exact hu u (by omega)
set_option maxHeartbeats 4000000 in
theorem mX0_waysBack (d : Nat) (hd : 2 ≤ d) : cm_Met d yX0_waysBack cX0_waysBack 3 (some .int) 0 0 SX0_waysBack := by
  refine cm_meets (J := JX0_waysBack) (by decide) rfl (fun h => by cases h) trivial ?_
  intro as T M Φ hS
  match as, hS with
  | [.ref β, .int v], ⟨k, hG, hv, hk, hS⟩ =>
    refine ⟨Nat.le_of_ble_eq_true rfl, ?_⟩
    subst hv
    obtain ⟨⟨k0, ⟨r1, r2, r3, r4, r5⟩, ⟨kk1, k2, k3, k4, k5⟩, ⟨l1, l2, l3, l4, l5⟩, rv⟩, hz, hT, hW, hA⟩ := id hG
    obtain ⟨hn, hn16⟩ := hG.n
    have hz0 : M.1 β 0 = w3 ((bkv M β).1 : Int) := i3_of hn

    have h16 : T.2.1 (β + 5) ≤ 100000 := by rw [l5]; decide
    refine cm_go hX0_waysBack 200 oX0_waysBack (eX0_waysBack d hd) lX0_waysBack_0 ?_
    simp only [jX0_waysBack, kX0_waysBack_0, fl_0_31, fl_0_21, fl_0_25, h16, cn_wl3, k0, kk1, k2, k3, k4, k5, l1, l2, l3, l4, l5, r1, r2, r3, r4, r5, cn_iconst, cn_lconst0, cn_lconst1, cn_null, cn_iload, cn_aload, cn_lload, cn_lo1, cn_loa1, cn_loa2, cn_lol1, cn_get0, cn_gets, cn_put0, cn_puts, cn_istore, cn_astore, cn_astoreN, cn_lstore, cn_iinc, cn_in1, cn_iadd, cn_isub, cn_imul, cn_iand, cn_ior, cn_ixor, cn_ishl, cn_ishr, cn_iushr, cn_idiv, cn_irem, cn_ladd, cn_lmul, cn_ldiv, cn_lrem, cn_i2l, cn_l2i, cn_i2b, cn_lcmp, cn_dupi, cn_dupr, cn_dup2, cn_popi, cn_popr, cn_goto, cn_if_eq, cn_if_ne, cn_if_lt, cn_if_ge, cn_if_gt, cn_if_le, cn_ic_eq, cn_ic_ne, cn_ic_lt, cn_ic_ge, cn_ic_gt, cn_ic_le, cn_ifnullN, cn_ifnullR, cn_ifnonnullN, cn_ifnonnullR, cn_tswS, cn_tsw0, cn_tsw1, cn_lswS, cn_lsw0, cn_lsw1, cn_alen, cn_iaload, cn_laload, cn_rr1, cn_rr0, cn_aaload, cn_iastore, cn_lastore, cn_aastore, cn_getfield, cn_gf0, cn_gf1, cn_gf2, cn_gf3, cn_putfield, cn_pf0f, cn_pf1f, cn_pf2f, cn_pf3f, cn_pf0t, cn_pf1t, cn_pf2t, cn_pf3t, cn_new, cn_nw1, cn_newi, cn_newl, cn_anew, cn_an1, cn_inv_v, cn_inv_s, cn_inv_p, cn_ca1, cn_cb1, cn_pop0, cn_pops, cn_rk0, cn_rk1, cn_kcn, cn_kcs, cn_ireturn, cn_lreturn, cn_areturn, cn_return, cn_re0, cn_re1, cn_re2, cn_re3, cn_re4, cn_re5, cn_wp0, cn_wps, cn_m0, cn_m1, cn_e0, cn_en, cn_ei, cn_er, cn_eu, cn_el, cn_nl0, cn_nls, cn_nb0, cn_nb1, cn_nb2, cn_nb3, cn_bd0, cn_bds, cn_cwi, cn_cwr, cn_cwl, cn_cwn, cn_wi2, cn_wl1, cn_wl3, cn_wr1, cn_wr2, cn_wi_eq, cn_wl_eq, cb_0, cb_n0, cb_b, cm_okb0, cm_okb1, Classical.not_not, true_and, and_true, Nat.reduceAdd, Nat.reduceSub, Nat.reduceLT, Nat.reduceLeDiff, Int.reduceToNat, Int.reduceNatCast', Nat.zero_le, Nat.reduceEqDiff, false_or, or_false, or_true, true_or, Int.reduceNeg, reduceCtorEq, false_implies, implies_true, forall_const, true_implies, not_true_eq_false, not_false_eq_true, Nat.le_refl, ne_eq, if_true, if_false, ite_true, ite_false, List.cons_append, List.nil_append]
    refine ⟨by show cm_ix (w3 0) 16; rw [w3_ix (by omega) (by omega)]; decide, ?_⟩
    refine lX0_waysBack d hd hG hk hS 1 _ (Nat.le_refl _) (by omega) FrL.wl (fun u hu => ?_)
    rw [show u = 0 by omega, wys_0]
    exact cn_wl_eq
noncomputable def addP (n : Nat) (τ : Nat → Int) (u : Int) (p : Int) : Nat → Int := fun w => if (0 ≤ u ∧ u < (n : Int)) ∧ w = u.toNat then τ w + p else τ w
noncomputable def prp (B : Bk) (τ : Nat → Int) (x : Nat) : Int := if 0 ≤ (B.2 x).2.2 ∧ (B.2 x).2.2 < (B.1 : Int) then τ x / 2 else τ x
noncomputable def pSt (B : Bk) (τ : Nat → Int) (x : Nat) : Nat → Int := addP B.1 (addP B.1 τ (B.2 x).2.1 (prp B τ x)) (B.2 x).2.2 (prp B τ x)
noncomputable def pLs (B : Bk) (v : Nat) : Nat → Nat → Int
  | 0 => fun w => if w = v then 65536 else 0
  | j + 1 => pSt B (pLs B v j) (v - j)
theorem addP_rg {n : Nat} {τ : Nat → Int} {u p c e : Int} (hc : ∀ w, 0 ≤ τ w ∧ τ w ≤ c) (h0 : 0 ≤ p) (h1 : p ≤ e) (h2 : 0 ≤ e) (w : Nat) : 0 ≤ addP n τ u p w ∧ addP n τ u p w ≤ c + e := by
  have := hc w
  unfold addP
  split <;> omega
theorem pLs_rg (B : Bk) (v : Nat) : ∀ (j w : Nat), 0 ≤ pLs B v j w ∧ pLs B v j w ≤ 65536 * 3 ^ j
  | 0, w => by
    show 0 ≤ (if w = v then (65536 : Int) else 0) ∧ (if w = v then (65536 : Int) else 0) ≤ 65536 * 3 ^ 0
    split <;> simp
  | j + 1, w => by
    have ih := pLs_rg B v j
    have hp : 0 ≤ prp B (pLs B v j) (v - j) ∧ prp B (pLs B v j) (v - j) ≤ 65536 * 3 ^ j := by
      have := ih (v - j)
      unfold prp
      split <;> omega
    have a := addP_rg (n := B.1) (u := (B.2 (v - j)).2.1) ih hp.1 hp.2 (by omega)
    have b := addP_rg (n := B.1) (u := (B.2 (v - j)).2.2) a hp.1 hp.2 (by omega) w
    show 0 ≤ addP B.1 _ _ _ w ∧ addP B.1 _ _ _ w ≤ _
    refine ⟨b.1, ?_⟩
    have := b.2
    rw [Int.pow_succ]
    omega
theorem p3_16 {j : Nat} (h : j ≤ 16) : (65536 : Int) * 3 ^ j ≤ 2821109907456 := by
  have h1 : (3 : Int) ^ j ≤ 3 ^ 16 := by
    have := Nat.pow_le_pow_right (n := 3) (by decide) h
    exact_mod_cast this
  have : (3 : Int) ^ 16 = 43046721 := by decide
  omega
def SX0_addParts : cm_CT := fun as T M Φ => match as with
  | [.ref β, .int v, .long p] => ∃ (τ : Nat → Int) (z : Int) (n : Nat), (T.1 β = 1 ∧ M.2.2 β 5 = some (β + 5) ∧ T.1 (β + 5) = 21 ∧ T.2.1 (β + 5) = 16) ∧ bsz M β = (n : Int) ∧ n ≤ 16 ∧ (∀ w : Nat, w < 16 → M.2.1 (β + 5) (w : Int) = w6 (τ w)) ∧ p = w6 z ∧ ∀ M1, FrL M M1 β → (∀ w : Nat, w < 16 → M1.2.1 (β + 5) (w : Int) = w6 (addP n τ v.toInt z w)) → Φ none T M1
  | _ => False
def JX0_addParts : cm_J := (0, false, 0, [(48, 2, 1, 0, 0, SX0_has)], [], [])
theorem jX0_addParts : JX0_addParts.1 = 0 ∧ JX0_addParts.2.1 = false ∧ JX0_addParts.2.2.1 = 0 ∧ cm_gv JX0_addParts 48 = some (2, 1, 0, 0, SX0_has) := ⟨rfl, rfl, rfl, rfl⟩
theorem eX0_addParts (d : Nat) (hd : 1 ≤ d) : cm_Cok d JX0_addParts := ⟨(List.forall_mem_cons.mpr ⟨q0_48 (mX0_has (d - 1) (by omega)) (by omega), (fun q h => by cases h)⟩), (fun q h => by cases h), (fun q h => by cases h)⟩
set_option maxHeartbeats 4000000 in
theorem mX0_addParts (d : Nat) (hd : 1 ≤ d) : cm_Met d yX0_addParts cX0_addParts 4 none 0 0 SX0_addParts := by
  refine cm_meets (J := JX0_addParts) (by decide) rfl (fun h => by cases h) trivial ?_
  intro as T M Φ hS
  match as, hS with
  | [.ref β, .int v, .long p], ⟨τ, z, n, ⟨h1, h2, h3, h4⟩, hn, h16, ht, hp, hS⟩ =>
    refine ⟨Nat.le_of_ble_eq_true rfl, ?_⟩
    subst hp
    refine cm_go hX0_addParts 200 oX0_addParts (eX0_addParts d hd) lX0_addParts_0 ?_
    simp only [jX0_addParts, kX0_addParts_0, fl_0_31, SX0_has, h1, h2, h3, h4, hn, cn_iconst, cn_lconst0, cn_lconst1, cn_null, cn_iload, cn_aload, cn_lload, cn_lo1, cn_loa1, cn_loa2, cn_lol1, cn_get0, cn_gets, cn_put0, cn_puts, cn_istore, cn_astore, cn_astoreN, cn_lstore, cn_iinc, cn_in1, cn_iadd, cn_isub, cn_imul, cn_iand, cn_ior, cn_ixor, cn_ishl, cn_ishr, cn_iushr, cn_idiv, cn_irem, cn_ladd, cn_lmul, cn_ldiv, cn_lrem, cn_i2l, cn_l2i, cn_i2b, cn_lcmp, cn_dupi, cn_dupr, cn_dup2, cn_popi, cn_popr, cn_goto, cn_if_eq, cn_if_ne, cn_if_lt, cn_if_ge, cn_if_gt, cn_if_le, cn_ic_eq, cn_ic_ne, cn_ic_lt, cn_ic_ge, cn_ic_gt, cn_ic_le, cn_ifnullN, cn_ifnullR, cn_ifnonnullN, cn_ifnonnullR, cn_tswS, cn_tsw0, cn_tsw1, cn_lswS, cn_lsw0, cn_lsw1, cn_alen, cn_iaload, cn_laload, cn_rr1, cn_rr0, cn_aaload, cn_iastore, cn_lastore, cn_aastore, cn_getfield, cn_gf0, cn_gf1, cn_gf2, cn_gf3, cn_putfield, cn_pf0f, cn_pf1f, cn_pf2f, cn_pf3f, cn_pf0t, cn_pf1t, cn_pf2t, cn_pf3t, cn_new, cn_nw1, cn_newi, cn_newl, cn_anew, cn_an1, cn_inv_v, cn_inv_s, cn_inv_p, cn_ca1, cn_cb1, cn_pop0, cn_pops, cn_rk0, cn_rk1, cn_kcn, cn_kcs, cn_ireturn, cn_lreturn, cn_areturn, cn_return, cn_re0, cn_re1, cn_re2, cn_re3, cn_re4, cn_re5, cn_wp0, cn_wps, cn_m0, cn_m1, cn_e0, cn_en, cn_ei, cn_er, cn_eu, cn_el, cn_nl0, cn_nls, cn_nb0, cn_nb1, cn_nb2, cn_nb3, cn_bd0, cn_bds, cn_cwi, cn_cwr, cn_cwl, cn_cwn, cn_wi2, cn_wl1, cn_wl3, cn_wr1, cn_wr2, cn_wi_eq, cn_wl_eq, cb_0, cb_n0, cb_b, cm_okb0, cm_okb1, Classical.not_not, true_and, and_true, Nat.reduceAdd, Nat.reduceSub, Nat.reduceLT, Nat.reduceLeDiff, Int.reduceToNat, Int.reduceNatCast', Nat.zero_le, Nat.reduceEqDiff, false_or, or_false, or_true, true_or, Int.reduceNeg, reduceCtorEq, false_implies, implies_true, forall_const, true_implies, not_true_eq_false, not_false_eq_true, Nat.le_refl, ne_eq, if_true, if_false, ite_true, ite_false, List.cons_append, List.nil_append]
    refine ⟨fun q => hS M FrL.rf (fun w hw => ?_), fun q => ?_⟩
    · rw [ht w hw]
      unfold addP
      rw [if_neg (fun w => q w.1)]
    · have ix : cm_ix v 16 := ⟨q.1, by show v.toInt < ((16 : Nat) : Int); omega⟩
      refine ⟨ix, ix, hS _ FrL.wl (fun w hw => ?_)⟩
      unfold addP
      by_cases e : w = v.toInt.toNat
      · rw [if_pos ⟨q, e⟩, e, Int.toNat_of_nonneg q.1]
        refine cn_wl_eq.trans ?_
        have := ht v.toInt.toNat (by omega)
        rw [Int.toNat_of_nonneg q.1] at this
        rw [this, w6_add]
      · rw [if_neg (fun x => e x.2), cn_wl_ne (Or.inr (by omega))]
        exact ht w hw
def SX0_partsBy : cm_CT := fun as T M Φ => match as with
  | [.ref β, .int v, .int y] => ∃ a b : Nat, BkG T M β ∧ v = w3 a ∧ y = w3 b ∧ a < (bkv M β).1 ∧ b < (bkv M β).1 ∧ ∀ M1, FrL M M1 β → Φ (some (.long (w6 (pLs (bkv M β) a (a - b) b)))) T M1
  | _ => False
def JX0_partsBy : cm_J := (0, false, 3, [(48, 2, 1, 0, 0, SX0_has), (88, 3, 1, 0, 0, SX0_addParts)], [(78, 2, 0, 0, 0, SJ7_fill_d0a16)], [])
theorem jX0_partsBy : JX0_partsBy.1 = 0 ∧ JX0_partsBy.2.1 = false ∧ JX0_partsBy.2.2.1 = 3 ∧ cm_gv JX0_partsBy 48 = some (2, 1, 0, 0, SX0_has) ∧ cm_gv JX0_partsBy 88 = some (3, 1, 0, 0, SX0_addParts) ∧ cm_gs JX0_partsBy 78 = some (2, 0, 0, 0, SJ7_fill_d0a16) := ⟨rfl, rfl, rfl, rfl, rfl, rfl⟩
theorem eX0_partsBy (d : Nat) (hd : 2 ≤ d) : cm_Cok d JX0_partsBy := ⟨(List.forall_mem_cons.mpr ⟨q0_48 (mX0_has (d - 1) (by omega)) (by omega), (List.forall_mem_cons.mpr ⟨q0_88 (mX0_addParts (d - 1) (by omega)) (by omega), (fun q h => by cases h)⟩)⟩), (List.forall_mem_cons.mpr ⟨q0_78 (mJ7_fill_d0a16 (d - 1) (by omega)) (by omega), (fun q h => by cases h)⟩), (fun q h => by cases h)⟩
set_option maxHeartbeats 4000000 in
theorem lX0_partsBy (d : Nat) (hd : 2 ≤ d) {T : cm_T} {M : cm_M} {Φ : Option Value → cm_T → cm_M → Prop} {β a b : Nat} (hG : BkG T M β) (ha : a < (bkv M β).1) (hb : b < (bkv M β).1) (hS : ∀ M1, FrL M M1 β → Φ (some (.long (w6 (pLs (bkv M β) a (a - b) b)))) T M1) :
    ∀ (j : Nat) (M1 : cm_M) (o4 : Option Value), j ≤ a - b → FrL M M1 β → (∀ w : Nat, w < 16 → M1.2.1 (β + 5) (w : Int) = w6 (pLs (bkv M β) a j w)) → cm_Go d cX0_partsBy 6 0 0 JX0_partsBy Φ 19 [some (.ref β), some (.int (w3 a)), some (.int (w3 b)), some (.int (w3 ((a : Int) - (j : Int)))), o4, none] [] (0, 0) T M1 := by
  intro j
  induction hf : (a - b - j) using Nat.strongRecOn generalizing j with
  | _ fu ih =>
    intro M1 o4 j1 hF hu
    obtain ⟨⟨k0, ⟨r1, r2, r3, r4, r5⟩, ⟨kk1, k2, k3, k4, k5⟩, ⟨l1, l2, l3, l4, l5⟩, rv⟩, hz, hT, hW, hA⟩ := id hG
    obtain ⟨hn, hn16⟩ := hG.n
    have hz0 : M.1 β 0 = w3 ((bkv M β).1 : Int) := i3_of hn

    have eb : (w3 (b : Int)).toInt = (b : Int) := w3_toInt (by omega) (by omega)
    have e1 := hF.1
    have e2 := hF.2.1
    have b1 : bsz M1 β = ((bkv M β).1 : Int) := by unfold bsz; rw [e1]; exact hn
    by_cases hj : j = a - b
    · skip
      refine cm_go hX0_partsBy 200 oX0_partsBy (eX0_partsBy d hd) lX0_partsBy_19 ?_
      simp only [jX0_partsBy, kX0_partsBy_0, fl_0_31, ll_0_84, fl_0_25, ll_0_86, fl_0_21, eb, e1, e2, k0, kk1, k2, k3, k4, k5, l1, l2, l3, l4, l5, r1, r2, r3, r4, r5, cn_iconst, cn_lconst0, cn_lconst1, cn_null, cn_iload, cn_aload, cn_lload, cn_lo1, cn_loa1, cn_loa2, cn_lol1, cn_get0, cn_gets, cn_put0, cn_puts, cn_istore, cn_astore, cn_astoreN, cn_lstore, cn_iinc, cn_in1, cn_iadd, cn_isub, cn_imul, cn_iand, cn_ior, cn_ixor, cn_ishl, cn_ishr, cn_iushr, cn_idiv, cn_irem, cn_ladd, cn_lmul, cn_ldiv, cn_lrem, cn_i2l, cn_l2i, cn_i2b, cn_lcmp, cn_dupi, cn_dupr, cn_dup2, cn_popi, cn_popr, cn_goto, cn_if_eq, cn_if_ne, cn_if_lt, cn_if_ge, cn_if_gt, cn_if_le, cn_ic_eq, cn_ic_ne, cn_ic_lt, cn_ic_ge, cn_ic_gt, cn_ic_le, cn_ifnullN, cn_ifnullR, cn_ifnonnullN, cn_ifnonnullR, cn_tswS, cn_tsw0, cn_tsw1, cn_lswS, cn_lsw0, cn_lsw1, cn_alen, cn_iaload, cn_laload, cn_rr1, cn_rr0, cn_aaload, cn_iastore, cn_lastore, cn_aastore, cn_getfield, cn_gf0, cn_gf1, cn_gf2, cn_gf3, cn_putfield, cn_pf0f, cn_pf1f, cn_pf2f, cn_pf3f, cn_pf0t, cn_pf1t, cn_pf2t, cn_pf3t, cn_new, cn_nw1, cn_newi, cn_newl, cn_anew, cn_an1, cn_inv_v, cn_inv_s, cn_inv_p, cn_ca1, cn_cb1, cn_pop0, cn_pops, cn_rk0, cn_rk1, cn_kcn, cn_kcs, cn_ireturn, cn_lreturn, cn_areturn, cn_return, cn_re0, cn_re1, cn_re2, cn_re3, cn_re4, cn_re5, cn_wp0, cn_wps, cn_m0, cn_m1, cn_e0, cn_en, cn_ei, cn_er, cn_eu, cn_el, cn_nl0, cn_nls, cn_nb0, cn_nb1, cn_nb2, cn_nb3, cn_bd0, cn_bds, cn_cwi, cn_cwr, cn_cwl, cn_cwn, cn_wi2, cn_wl1, cn_wl3, cn_wr1, cn_wr2, cn_wi_eq, cn_wl_eq, cb_0, cb_n0, cb_b, cm_okb0, cm_okb1, Classical.not_not, true_and, and_true, Nat.reduceAdd, Nat.reduceSub, Nat.reduceLT, Nat.reduceLeDiff, Int.reduceToNat, Int.reduceNatCast', Nat.zero_le, Nat.reduceEqDiff, false_or, or_false, or_true, true_or, Int.reduceNeg, reduceCtorEq, false_implies, implies_true, forall_const, true_implies, not_true_eq_false, not_false_eq_true, Nat.le_refl, ne_eq, if_true, if_false, ite_true, ite_false, List.cons_append, List.nil_append]
      simp (disch := omega) only [w3_le, w3_ix]
      refine ⟨fun _ => ⟨⟨by omega, by omega⟩, ?_⟩, fun q => by omega⟩
      rw [hu b (by omega), hj]
      exact hS M1 hF
    · have ex : (w3 ((a : Int) - (j : Int))).toInt = ((a - j : Nat) : Int) := by rw [w3_toInt (by omega) (by omega)]; omega
      have ix : cm_ix (w3 ((a : Int) - (j : Int))) 16 := by rw [w3_ix (by omega) (by omega)]; exact ⟨by omega, by omega⟩
      have hr := bkv_lt (M := M) (β := β) (v := a - j) (by omega)
      have hux := hu (a - j) (by omega)
      have rg := pLs_rg (bkv M β) a j (a - j)
      have r16 := p3_16 (j := j) (by omega)
      have dv : w6 (pLs (bkv M β) a j (a - j)) / w6 2 = w6 (pLs (bkv M β) a j (a - j) / 2) := w6_div rg.1 (by omega)
      have hpr : prp (bkv M β) (pLs (bkv M β) a j) (a - j) = if 0 ≤ (M.1 (β + 3) ((a - j : Nat) : Int)).toInt ∧ (M.1 (β + 3) ((a - j : Nat) : Int)).toInt < ((bkv M β).1 : Int) then pLs (bkv M β) a j (a - j) / 2 else pLs (bkv M β) a j (a - j) := by
        unfold prp
        rw [hr]
      refine cm_go hX0_partsBy 200 oX0_partsBy (eX0_partsBy d hd) lX0_partsBy_19 ?_
      simp only [jX0_partsBy, kX0_partsBy_0, fl_0_31, ll_0_84, fl_0_25, ll_0_86, fl_0_21, cn_ldi, cn_ldl, cn_lki1, cn_lkk1, SX0_has, ex, ix, b1, e1, e2, hux, dv, w6_2, k0, kk1, k2, k3, k4, k5, l1, l2, l3, l4, l5, r1, r2, r3, r4, r5, cn_iconst, cn_lconst0, cn_lconst1, cn_null, cn_iload, cn_aload, cn_lload, cn_lo1, cn_loa1, cn_loa2, cn_lol1, cn_get0, cn_gets, cn_put0, cn_puts, cn_istore, cn_astore, cn_astoreN, cn_lstore, cn_iinc, cn_in1, cn_iadd, cn_isub, cn_imul, cn_iand, cn_ior, cn_ixor, cn_ishl, cn_ishr, cn_iushr, cn_idiv, cn_irem, cn_ladd, cn_lmul, cn_ldiv, cn_lrem, cn_i2l, cn_l2i, cn_i2b, cn_lcmp, cn_dupi, cn_dupr, cn_dup2, cn_popi, cn_popr, cn_goto, cn_if_eq, cn_if_ne, cn_if_lt, cn_if_ge, cn_if_gt, cn_if_le, cn_ic_eq, cn_ic_ne, cn_ic_lt, cn_ic_ge, cn_ic_gt, cn_ic_le, cn_ifnullN, cn_ifnullR, cn_ifnonnullN, cn_ifnonnullR, cn_tswS, cn_tsw0, cn_tsw1, cn_lswS, cn_lsw0, cn_lsw1, cn_alen, cn_iaload, cn_laload, cn_rr1, cn_rr0, cn_aaload, cn_iastore, cn_lastore, cn_aastore, cn_getfield, cn_gf0, cn_gf1, cn_gf2, cn_gf3, cn_putfield, cn_pf0f, cn_pf1f, cn_pf2f, cn_pf3f, cn_pf0t, cn_pf1t, cn_pf2t, cn_pf3t, cn_new, cn_nw1, cn_newi, cn_newl, cn_anew, cn_an1, cn_inv_v, cn_inv_s, cn_inv_p, cn_ca1, cn_cb1, cn_pop0, cn_pops, cn_rk0, cn_rk1, cn_kcn, cn_kcs, cn_ireturn, cn_lreturn, cn_areturn, cn_return, cn_re0, cn_re1, cn_re2, cn_re3, cn_re4, cn_re5, cn_wp0, cn_wps, cn_m0, cn_m1, cn_e0, cn_en, cn_ei, cn_er, cn_eu, cn_el, cn_nl0, cn_nls, cn_nb0, cn_nb1, cn_nb2, cn_nb3, cn_bd0, cn_bds, cn_cwi, cn_cwr, cn_cwl, cn_cwn, cn_wi2, cn_wl1, cn_wl3, cn_wr1, cn_wr2, cn_wi_eq, cn_wl_eq, cb_0, cb_n0, cb_b, cm_okb0, cm_okb1, Classical.not_not, true_and, and_true, Nat.reduceAdd, Nat.reduceSub, Nat.reduceLT, Nat.reduceLeDiff, Int.reduceToNat, Int.reduceNatCast', Nat.zero_le, Nat.reduceEqDiff, false_or, or_false, or_true, true_or, Int.reduceNeg, reduceCtorEq, false_implies, implies_true, forall_const, true_implies, not_true_eq_false, not_false_eq_true, Nat.le_refl, ne_eq, if_true, if_false, ite_true, ite_false, List.cons_append, List.nil_append]
      simp (disch := omega) only [w3_le]
      refine ⟨fun q => by omega, fun _ => ⟨fun q2 => ?_, fun q2 => ?_⟩⟩
      · have hz2 : prp (bkv M β) (pLs (bkv M β) a j) (a - j) = (pLs (bkv M β) a j (a - j)) := by rw [hpr]; first | exact if_pos q2 | exact if_neg q2
        refine ⟨pLs (bkv M β) a j, (pLs (bkv M β) a j (a - j)), (bkv M β).1, ⟨k0, by rw [e2]; exact r5, k5, l5⟩, b1, hn16, hu, rfl, fun M2 f2 u2 => ?_⟩
        have F2 := hF.trans f2
        have e3 := F2.1
        have e4 := F2.2.1
        simp only [jX0_partsBy, kX0_partsBy_0, fl_0_31, ll_0_84, fl_0_25, ll_0_86, fl_0_21, ex, ix, e3, e4, k0, kk1, k2, k3, k4, k5, l1, l2, l3, l4, l5, r1, r2, r3, r4, r5, cn_iconst, cn_lconst0, cn_lconst1, cn_null, cn_iload, cn_aload, cn_lload, cn_lo1, cn_loa1, cn_loa2, cn_lol1, cn_get0, cn_gets, cn_put0, cn_puts, cn_istore, cn_astore, cn_astoreN, cn_lstore, cn_iinc, cn_in1, cn_iadd, cn_isub, cn_imul, cn_iand, cn_ior, cn_ixor, cn_ishl, cn_ishr, cn_iushr, cn_idiv, cn_irem, cn_ladd, cn_lmul, cn_ldiv, cn_lrem, cn_i2l, cn_l2i, cn_i2b, cn_lcmp, cn_dupi, cn_dupr, cn_dup2, cn_popi, cn_popr, cn_goto, cn_if_eq, cn_if_ne, cn_if_lt, cn_if_ge, cn_if_gt, cn_if_le, cn_ic_eq, cn_ic_ne, cn_ic_lt, cn_ic_ge, cn_ic_gt, cn_ic_le, cn_ifnullN, cn_ifnullR, cn_ifnonnullN, cn_ifnonnullR, cn_tswS, cn_tsw0, cn_tsw1, cn_lswS, cn_lsw0, cn_lsw1, cn_alen, cn_iaload, cn_laload, cn_rr1, cn_rr0, cn_aaload, cn_iastore, cn_lastore, cn_aastore, cn_getfield, cn_gf0, cn_gf1, cn_gf2, cn_gf3, cn_putfield, cn_pf0f, cn_pf1f, cn_pf2f, cn_pf3f, cn_pf0t, cn_pf1t, cn_pf2t, cn_pf3t, cn_new, cn_nw1, cn_newi, cn_newl, cn_anew, cn_an1, cn_inv_v, cn_inv_s, cn_inv_p, cn_ca1, cn_cb1, cn_pop0, cn_pops, cn_rk0, cn_rk1, cn_kcn, cn_kcs, cn_ireturn, cn_lreturn, cn_areturn, cn_return, cn_re0, cn_re1, cn_re2, cn_re3, cn_re4, cn_re5, cn_wp0, cn_wps, cn_m0, cn_m1, cn_e0, cn_en, cn_ei, cn_er, cn_eu, cn_el, cn_nl0, cn_nls, cn_nb0, cn_nb1, cn_nb2, cn_nb3, cn_bd0, cn_bds, cn_cwi, cn_cwr, cn_cwl, cn_cwn, cn_wi2, cn_wl1, cn_wl3, cn_wr1, cn_wr2, cn_wi_eq, cn_wl_eq, cb_0, cb_n0, cb_b, cm_okb0, cm_okb1, Classical.not_not, true_and, and_true, Nat.reduceAdd, Nat.reduceSub, Nat.reduceLT, Nat.reduceLeDiff, Int.reduceToNat, Int.reduceNatCast', Nat.zero_le, Nat.reduceEqDiff, false_or, or_false, or_true, true_or, Int.reduceNeg, reduceCtorEq, false_implies, implies_true, forall_const, true_implies, not_true_eq_false, not_false_eq_true, Nat.le_refl, ne_eq, if_true, if_false, ite_true, ite_false, List.cons_append, List.nil_append]
        refine ⟨_, (pLs (bkv M β) a j (a - j)), (bkv M β).1, ⟨k0, by rw [e4]; exact r5, k5, l5⟩, by unfold bsz; rw [e3]; exact hn, hn16, u2, rfl, fun M3 f3 u3 => ?_⟩
        simp only [jX0_partsBy, kX0_partsBy_0, fl_0_31, ll_0_84, fl_0_25, ll_0_86, fl_0_21, ex, ix, k0, kk1, k2, k3, k4, k5, l1, l2, l3, l4, l5, r1, r2, r3, r4, r5, cn_iconst, cn_lconst0, cn_lconst1, cn_null, cn_iload, cn_aload, cn_lload, cn_lo1, cn_loa1, cn_loa2, cn_lol1, cn_get0, cn_gets, cn_put0, cn_puts, cn_istore, cn_astore, cn_astoreN, cn_lstore, cn_iinc, cn_in1, cn_iadd, cn_isub, cn_imul, cn_iand, cn_ior, cn_ixor, cn_ishl, cn_ishr, cn_iushr, cn_idiv, cn_irem, cn_ladd, cn_lmul, cn_ldiv, cn_lrem, cn_i2l, cn_l2i, cn_i2b, cn_lcmp, cn_dupi, cn_dupr, cn_dup2, cn_popi, cn_popr, cn_goto, cn_if_eq, cn_if_ne, cn_if_lt, cn_if_ge, cn_if_gt, cn_if_le, cn_ic_eq, cn_ic_ne, cn_ic_lt, cn_ic_ge, cn_ic_gt, cn_ic_le, cn_ifnullN, cn_ifnullR, cn_ifnonnullN, cn_ifnonnullR, cn_tswS, cn_tsw0, cn_tsw1, cn_lswS, cn_lsw0, cn_lsw1, cn_alen, cn_iaload, cn_laload, cn_rr1, cn_rr0, cn_aaload, cn_iastore, cn_lastore, cn_aastore, cn_getfield, cn_gf0, cn_gf1, cn_gf2, cn_gf3, cn_putfield, cn_pf0f, cn_pf1f, cn_pf2f, cn_pf3f, cn_pf0t, cn_pf1t, cn_pf2t, cn_pf3t, cn_new, cn_nw1, cn_newi, cn_newl, cn_anew, cn_an1, cn_inv_v, cn_inv_s, cn_inv_p, cn_ca1, cn_cb1, cn_pop0, cn_pops, cn_rk0, cn_rk1, cn_kcn, cn_kcs, cn_ireturn, cn_lreturn, cn_areturn, cn_return, cn_re0, cn_re1, cn_re2, cn_re3, cn_re4, cn_re5, cn_wp0, cn_wps, cn_m0, cn_m1, cn_e0, cn_en, cn_ei, cn_er, cn_eu, cn_el, cn_nl0, cn_nls, cn_nb0, cn_nb1, cn_nb2, cn_nb3, cn_bd0, cn_bds, cn_cwi, cn_cwr, cn_cwl, cn_cwn, cn_wi2, cn_wl1, cn_wl3, cn_wr1, cn_wr2, cn_wi_eq, cn_wl_eq, cb_0, cb_n0, cb_b, cm_okb0, cm_okb1, Classical.not_not, true_and, and_true, Nat.reduceAdd, Nat.reduceSub, Nat.reduceLT, Nat.reduceLeDiff, Int.reduceToNat, Int.reduceNatCast', Nat.zero_le, Nat.reduceEqDiff, false_or, or_false, or_true, true_or, Int.reduceNeg, reduceCtorEq, false_implies, implies_true, forall_const, true_implies, not_true_eq_false, not_false_eq_true, Nat.le_refl, ne_eq, if_true, if_false, ite_true, ite_false, List.cons_append, List.nil_append]
        rw [w3_add, show (a : Int) - (j : Int) + -1 = (a : Int) - ((j + 1 : Nat) : Int) by omega]
        refine ih (a - b - (j + 1)) (by omega) (j + 1) rfl M3 _ (by omega) (F2.trans f3) (fun w hw => ?_)
        rw [u3 w hw]
        show _ = w6 (addP (bkv M β).1 (addP (bkv M β).1 (pLs (bkv M β) a j) ((bkv M β).2 (a - j)).2.1 (prp (bkv M β) (pLs (bkv M β) a j) (a - j))) ((bkv M β).2 (a - j)).2.2 (prp (bkv M β) (pLs (bkv M β) a j) (a - j)) w)
        rw [hz2, hr]
      · have hz2 : prp (bkv M β) (pLs (bkv M β) a j) (a - j) = (pLs (bkv M β) a j (a - j) / 2) := by rw [hpr]; first | exact if_pos q2 | exact if_neg q2
        refine ⟨pLs (bkv M β) a j, (pLs (bkv M β) a j (a - j) / 2), (bkv M β).1, ⟨k0, by rw [e2]; exact r5, k5, l5⟩, b1, hn16, hu, rfl, fun M2 f2 u2 => ?_⟩
        have F2 := hF.trans f2
        have e3 := F2.1
        have e4 := F2.2.1
        simp only [jX0_partsBy, kX0_partsBy_0, fl_0_31, ll_0_84, fl_0_25, ll_0_86, fl_0_21, ex, ix, e3, e4, k0, kk1, k2, k3, k4, k5, l1, l2, l3, l4, l5, r1, r2, r3, r4, r5, cn_iconst, cn_lconst0, cn_lconst1, cn_null, cn_iload, cn_aload, cn_lload, cn_lo1, cn_loa1, cn_loa2, cn_lol1, cn_get0, cn_gets, cn_put0, cn_puts, cn_istore, cn_astore, cn_astoreN, cn_lstore, cn_iinc, cn_in1, cn_iadd, cn_isub, cn_imul, cn_iand, cn_ior, cn_ixor, cn_ishl, cn_ishr, cn_iushr, cn_idiv, cn_irem, cn_ladd, cn_lmul, cn_ldiv, cn_lrem, cn_i2l, cn_l2i, cn_i2b, cn_lcmp, cn_dupi, cn_dupr, cn_dup2, cn_popi, cn_popr, cn_goto, cn_if_eq, cn_if_ne, cn_if_lt, cn_if_ge, cn_if_gt, cn_if_le, cn_ic_eq, cn_ic_ne, cn_ic_lt, cn_ic_ge, cn_ic_gt, cn_ic_le, cn_ifnullN, cn_ifnullR, cn_ifnonnullN, cn_ifnonnullR, cn_tswS, cn_tsw0, cn_tsw1, cn_lswS, cn_lsw0, cn_lsw1, cn_alen, cn_iaload, cn_laload, cn_rr1, cn_rr0, cn_aaload, cn_iastore, cn_lastore, cn_aastore, cn_getfield, cn_gf0, cn_gf1, cn_gf2, cn_gf3, cn_putfield, cn_pf0f, cn_pf1f, cn_pf2f, cn_pf3f, cn_pf0t, cn_pf1t, cn_pf2t, cn_pf3t, cn_new, cn_nw1, cn_newi, cn_newl, cn_anew, cn_an1, cn_inv_v, cn_inv_s, cn_inv_p, cn_ca1, cn_cb1, cn_pop0, cn_pops, cn_rk0, cn_rk1, cn_kcn, cn_kcs, cn_ireturn, cn_lreturn, cn_areturn, cn_return, cn_re0, cn_re1, cn_re2, cn_re3, cn_re4, cn_re5, cn_wp0, cn_wps, cn_m0, cn_m1, cn_e0, cn_en, cn_ei, cn_er, cn_eu, cn_el, cn_nl0, cn_nls, cn_nb0, cn_nb1, cn_nb2, cn_nb3, cn_bd0, cn_bds, cn_cwi, cn_cwr, cn_cwl, cn_cwn, cn_wi2, cn_wl1, cn_wl3, cn_wr1, cn_wr2, cn_wi_eq, cn_wl_eq, cb_0, cb_n0, cb_b, cm_okb0, cm_okb1, Classical.not_not, true_and, and_true, Nat.reduceAdd, Nat.reduceSub, Nat.reduceLT, Nat.reduceLeDiff, Int.reduceToNat, Int.reduceNatCast', Nat.zero_le, Nat.reduceEqDiff, false_or, or_false, or_true, true_or, Int.reduceNeg, reduceCtorEq, false_implies, implies_true, forall_const, true_implies, not_true_eq_false, not_false_eq_true, Nat.le_refl, ne_eq, if_true, if_false, ite_true, ite_false, List.cons_append, List.nil_append]
        refine ⟨_, (pLs (bkv M β) a j (a - j) / 2), (bkv M β).1, ⟨k0, by rw [e4]; exact r5, k5, l5⟩, by unfold bsz; rw [e3]; exact hn, hn16, u2, rfl, fun M3 f3 u3 => ?_⟩
        simp only [jX0_partsBy, kX0_partsBy_0, fl_0_31, ll_0_84, fl_0_25, ll_0_86, fl_0_21, ex, ix, k0, kk1, k2, k3, k4, k5, l1, l2, l3, l4, l5, r1, r2, r3, r4, r5, cn_iconst, cn_lconst0, cn_lconst1, cn_null, cn_iload, cn_aload, cn_lload, cn_lo1, cn_loa1, cn_loa2, cn_lol1, cn_get0, cn_gets, cn_put0, cn_puts, cn_istore, cn_astore, cn_astoreN, cn_lstore, cn_iinc, cn_in1, cn_iadd, cn_isub, cn_imul, cn_iand, cn_ior, cn_ixor, cn_ishl, cn_ishr, cn_iushr, cn_idiv, cn_irem, cn_ladd, cn_lmul, cn_ldiv, cn_lrem, cn_i2l, cn_l2i, cn_i2b, cn_lcmp, cn_dupi, cn_dupr, cn_dup2, cn_popi, cn_popr, cn_goto, cn_if_eq, cn_if_ne, cn_if_lt, cn_if_ge, cn_if_gt, cn_if_le, cn_ic_eq, cn_ic_ne, cn_ic_lt, cn_ic_ge, cn_ic_gt, cn_ic_le, cn_ifnullN, cn_ifnullR, cn_ifnonnullN, cn_ifnonnullR, cn_tswS, cn_tsw0, cn_tsw1, cn_lswS, cn_lsw0, cn_lsw1, cn_alen, cn_iaload, cn_laload, cn_rr1, cn_rr0, cn_aaload, cn_iastore, cn_lastore, cn_aastore, cn_getfield, cn_gf0, cn_gf1, cn_gf2, cn_gf3, cn_putfield, cn_pf0f, cn_pf1f, cn_pf2f, cn_pf3f, cn_pf0t, cn_pf1t, cn_pf2t, cn_pf3t, cn_new, cn_nw1, cn_newi, cn_newl, cn_anew, cn_an1, cn_inv_v, cn_inv_s, cn_inv_p, cn_ca1, cn_cb1, cn_pop0, cn_pops, cn_rk0, cn_rk1, cn_kcn, cn_kcs, cn_ireturn, cn_lreturn, cn_areturn, cn_return, cn_re0, cn_re1, cn_re2, cn_re3, cn_re4, cn_re5, cn_wp0, cn_wps, cn_m0, cn_m1, cn_e0, cn_en, cn_ei, cn_er, cn_eu, cn_el, cn_nl0, cn_nls, cn_nb0, cn_nb1, cn_nb2, cn_nb3, cn_bd0, cn_bds, cn_cwi, cn_cwr, cn_cwl, cn_cwn, cn_wi2, cn_wl1, cn_wl3, cn_wr1, cn_wr2, cn_wi_eq, cn_wl_eq, cb_0, cb_n0, cb_b, cm_okb0, cm_okb1, Classical.not_not, true_and, and_true, Nat.reduceAdd, Nat.reduceSub, Nat.reduceLT, Nat.reduceLeDiff, Int.reduceToNat, Int.reduceNatCast', Nat.zero_le, Nat.reduceEqDiff, false_or, or_false, or_true, true_or, Int.reduceNeg, reduceCtorEq, false_implies, implies_true, forall_const, true_implies, not_true_eq_false, not_false_eq_true, Nat.le_refl, ne_eq, if_true, if_false, ite_true, ite_false, List.cons_append, List.nil_append]
        rw [w3_add, show (a : Int) - (j : Int) + -1 = (a : Int) - ((j + 1 : Nat) : Int) by omega]
        refine ih (a - b - (j + 1)) (by omega) (j + 1) rfl M3 _ (by omega) (F2.trans f3) (fun w hw => ?_)
        rw [u3 w hw]
        show _ = w6 (addP (bkv M β).1 (addP (bkv M β).1 (pLs (bkv M β) a j) ((bkv M β).2 (a - j)).2.1 (prp (bkv M β) (pLs (bkv M β) a j) (a - j))) ((bkv M β).2 (a - j)).2.2 (prp (bkv M β) (pLs (bkv M β) a j) (a - j)) w)
        rw [hz2, hr]
set_option maxHeartbeats 4000000 in
theorem mX0_partsBy (d : Nat) (hd : 2 ≤ d) : cm_Met d yX0_partsBy cX0_partsBy 6 (some .long) 0 0 SX0_partsBy := by
  refine cm_meets (J := JX0_partsBy) (by decide) rfl (fun h => by cases h) trivial ?_
  intro as T M Φ hS
  match as, hS with
  | [.ref β, .int v, .int y], ⟨a, b, hG, hv, hy, ha, hb, hS⟩ =>
    refine ⟨Nat.le_of_ble_eq_true rfl, ?_⟩
    subst hv hy
    obtain ⟨⟨k0, ⟨r1, r2, r3, r4, r5⟩, ⟨kk1, k2, k3, k4, k5⟩, ⟨l1, l2, l3, l4, l5⟩, rv⟩, hz, hT, hW, hA⟩ := id hG
    obtain ⟨hn, hn16⟩ := hG.n
    have hz0 : M.1 β 0 = w3 ((bkv M β).1 : Int) := i3_of hn

    have ea : (w3 (a : Int)).toInt = (a : Int) := w3_toInt (by omega) (by omega)
    have h16 : T.2.1 (β + 5) ≤ 100000 := by rw [l5]; decide
    have ix : cm_ix (w3 (a : Int)) 16 := by rw [w3_ix (by omega) (by omega)]; exact ⟨by omega, by omega⟩
    refine cm_go hX0_partsBy 200 oX0_partsBy (eX0_partsBy d hd) lX0_partsBy_0 ?_
    simp only [jX0_partsBy, kX0_partsBy_0, fl_0_31, ll_0_84, fl_0_25, ll_0_86, fl_0_21, cn_ldi, cn_ldl, cn_lki1, cn_lkk1, SJ7_fill_d0a16, h16, ea, ix, mFillL_1, mFillL_2, cn_wl3, k0, kk1, k2, k3, k4, k5, l1, l2, l3, l4, l5, r1, r2, r3, r4, r5, cn_iconst, cn_lconst0, cn_lconst1, cn_null, cn_iload, cn_aload, cn_lload, cn_lo1, cn_loa1, cn_loa2, cn_lol1, cn_get0, cn_gets, cn_put0, cn_puts, cn_istore, cn_astore, cn_astoreN, cn_lstore, cn_iinc, cn_in1, cn_iadd, cn_isub, cn_imul, cn_iand, cn_ior, cn_ixor, cn_ishl, cn_ishr, cn_iushr, cn_idiv, cn_irem, cn_ladd, cn_lmul, cn_ldiv, cn_lrem, cn_i2l, cn_l2i, cn_i2b, cn_lcmp, cn_dupi, cn_dupr, cn_dup2, cn_popi, cn_popr, cn_goto, cn_if_eq, cn_if_ne, cn_if_lt, cn_if_ge, cn_if_gt, cn_if_le, cn_ic_eq, cn_ic_ne, cn_ic_lt, cn_ic_ge, cn_ic_gt, cn_ic_le, cn_ifnullN, cn_ifnullR, cn_ifnonnullN, cn_ifnonnullR, cn_tswS, cn_tsw0, cn_tsw1, cn_lswS, cn_lsw0, cn_lsw1, cn_alen, cn_iaload, cn_laload, cn_rr1, cn_rr0, cn_aaload, cn_iastore, cn_lastore, cn_aastore, cn_getfield, cn_gf0, cn_gf1, cn_gf2, cn_gf3, cn_putfield, cn_pf0f, cn_pf1f, cn_pf2f, cn_pf3f, cn_pf0t, cn_pf1t, cn_pf2t, cn_pf3t, cn_new, cn_nw1, cn_newi, cn_newl, cn_anew, cn_an1, cn_inv_v, cn_inv_s, cn_inv_p, cn_ca1, cn_cb1, cn_pop0, cn_pops, cn_rk0, cn_rk1, cn_kcn, cn_kcs, cn_ireturn, cn_lreturn, cn_areturn, cn_return, cn_re0, cn_re1, cn_re2, cn_re3, cn_re4, cn_re5, cn_wp0, cn_wps, cn_m0, cn_m1, cn_e0, cn_en, cn_ei, cn_er, cn_eu, cn_el, cn_nl0, cn_nls, cn_nb0, cn_nb1, cn_nb2, cn_nb3, cn_bd0, cn_bds, cn_cwi, cn_cwr, cn_cwl, cn_cwn, cn_wi2, cn_wl1, cn_wl3, cn_wr1, cn_wr2, cn_wi_eq, cn_wl_eq, cb_0, cb_n0, cb_b, cm_okb0, cm_okb1, Classical.not_not, true_and, and_true, Nat.reduceAdd, Nat.reduceSub, Nat.reduceLT, Nat.reduceLeDiff, Int.reduceToNat, Int.reduceNatCast', Nat.zero_le, Nat.reduceEqDiff, false_or, or_false, or_true, true_or, Int.reduceNeg, reduceCtorEq, false_implies, implies_true, forall_const, true_implies, not_true_eq_false, not_false_eq_true, Nat.le_refl, ne_eq, if_true, if_false, ite_true, ite_false, List.cons_append, List.nil_append]
    have := lX0_partsBy d hd hG ha hb hS 0 (cm_wl (mFillL M (β + 5) 16 (w6 0)) (β + 5) (a : Int) (w6 65536)) none (Nat.zero_le _) (FrL.fi.trans FrL.wl) (fun w hw => by
      show _ = w6 (if w = a then 65536 else 0)
      by_cases e : w = a
      · rw [e, if_pos rfl]; exact cn_wl_eq
      · rw [if_neg e, cn_wl_ne (Or.inr (by omega))]
        exact mFillL_in (by omega) (by omega))
    rw [show (a : Int) - ((0 : Nat) : Int) = (a : Int) by omega] at this
    exact this

noncomputable def hoc (c e : List Int32) (l : Nat) : Nat → Int
  | 0 => 0
  | k + 1 => hoc c e l k + @ite Int (eqr c k (k + 1) e l (l + 1)) (Classical.propDecidable _) 1 0
theorem hoc_t {c e : List Int32} {l k : Nat} (h : eqr c k (k + 1) e l (l + 1)) : hoc c e l (k + 1) = hoc c e l k + 1 := by
  show hoc c e l k + _ = _
  rw [if_pos h]
theorem hoc_f {c e : List Int32} {l k : Nat} (h : ¬ eqr c k (k + 1) e l (l + 1)) : hoc c e l (k + 1) = hoc c e l k := by
  show hoc c e l k + _ = _
  rw [if_neg h, Int.add_zero]
theorem hoc_bd (c e : List Int32) (l : Nat) : ∀ k : Nat, 0 ≤ hoc c e l k ∧ hoc c e l k ≤ (k : Int)
  | 0 => by simp [hoc]
  | k + 1 => by
    have h := hoc_bd c e l k
    by_cases q : eqr c k (k + 1) e l (l + 1)
    · rw [hoc_t q]; omega
    · rw [hoc_f q]; omega
def SX1_isFirst : cm_CT := fun as T M Φ => match as with
  | [.ref a, .int i] => ∃ (c : List Int32) (l : Nat), LLs T M a c ∧ i = w3 l ∧ l < nl c ∧ Φ (some (.int (cb (∀ k : Nat, k < l → ¬ eqr c k (k + 1) c l (l + 1))))) T M
  | _ => False
def JX1_isFirst : cm_J := (1, false, 2, [(38, 6, 2, 0, 0, SX1_isRunLike)], [], [])
theorem jX1_isFirst : JX1_isFirst.1 = 1 ∧ JX1_isFirst.2.1 = false ∧ JX1_isFirst.2.2.1 = 2 ∧ cm_gv JX1_isFirst 38 = some (6, 2, 0, 0, SX1_isRunLike) := ⟨rfl, rfl, rfl, rfl⟩
theorem eX1_isFirst (d : Nat) (hd : 1 ≤ d) : cm_Cok d JX1_isFirst := ⟨(List.forall_mem_cons.mpr ⟨q1_38 (mX1_isRunLike (d - 1) (by omega)) (by omega), (fun q h => by cases h)⟩), (fun q h => by cases h), (fun q h => by cases h)⟩
set_option maxHeartbeats 4000000 in
theorem lX1_isFirst (d : Nat) (hd : 1 ≤ d) {T : cm_T} {M : cm_M} {Φ : Option Value → cm_T → cm_M → Prop} {a l : Nat} {c : List Int32} (ha : LLs T M a c) (hl : l < nl c) (hS : Φ (some (.int (cb (∀ k : Nat, k < l → ¬ eqr c k (k + 1) c l (l + 1))))) T M) :
    ∀ (k : Nat), k ≤ l → (∀ j, j < k → ¬ eqr c j (j + 1) c l (l + 1)) → cm_Go d cX1_isFirst 3 0 0 JX1_isFirst Φ 2 [some (.ref a), some (.int (w3 l)), some (.int (w3 k))] [] (0, 0) T M := by
  intro k
  induction hf : (l - k) using Nat.strongRecOn generalizing k with
  | _ fu ih =>
    intro k1 hj
    obtain ⟨⟨t1, t2, t3, t4, t5, t6, t7⟩, -, -, l1⟩ := id ha
    have n1 := nl_120 l1
    refine cm_go hX1_isFirst 200 oX1_isFirst (eX1_isFirst d hd) lX1_isFirst_2 ?_
    simp only [jX1_isFirst, kX1_isFirst_0, t1, cn_iconst, cn_lconst0, cn_lconst1, cn_null, cn_iload, cn_aload, cn_lload, cn_lo1, cn_loa1, cn_loa2, cn_lol1, cn_get0, cn_gets, cn_put0, cn_puts, cn_istore, cn_astore, cn_astoreN, cn_lstore, cn_iinc, cn_in1, cn_iadd, cn_isub, cn_imul, cn_iand, cn_ior, cn_ixor, cn_ishl, cn_ishr, cn_iushr, cn_idiv, cn_irem, cn_ladd, cn_lmul, cn_ldiv, cn_lrem, cn_i2l, cn_l2i, cn_i2b, cn_lcmp, cn_dupi, cn_dupr, cn_dup2, cn_popi, cn_popr, cn_goto, cn_if_eq, cn_if_ne, cn_if_lt, cn_if_ge, cn_if_gt, cn_if_le, cn_ic_eq, cn_ic_ne, cn_ic_lt, cn_ic_ge, cn_ic_gt, cn_ic_le, cn_ifnullN, cn_ifnullR, cn_ifnonnullN, cn_ifnonnullR, cn_tswS, cn_tsw0, cn_tsw1, cn_lswS, cn_lsw0, cn_lsw1, cn_alen, cn_iaload, cn_laload, cn_rr1, cn_rr0, cn_aaload, cn_iastore, cn_lastore, cn_aastore, cn_getfield, cn_gf0, cn_gf1, cn_gf2, cn_gf3, cn_putfield, cn_pf0f, cn_pf1f, cn_pf2f, cn_pf3f, cn_pf0t, cn_pf1t, cn_pf2t, cn_pf3t, cn_new, cn_nw1, cn_newi, cn_newl, cn_anew, cn_an1, cn_inv_v, cn_inv_s, cn_inv_p, cn_ca1, cn_cb1, cn_pop0, cn_pops, cn_rk0, cn_rk1, cn_kcn, cn_kcs, cn_ireturn, cn_lreturn, cn_areturn, cn_return, cn_re0, cn_re1, cn_re2, cn_re3, cn_re4, cn_re5, cn_wp0, cn_wps, cn_m0, cn_m1, cn_e0, cn_en, cn_ei, cn_er, cn_eu, cn_el, cn_nl0, cn_nls, cn_nb0, cn_nb1, cn_nb2, cn_nb3, cn_bd0, cn_bds, cn_cwi, cn_cwr, cn_cwl, cn_cwn, cn_wi2, cn_wl1, cn_wl3, cn_wr1, cn_wr2, cn_wi_eq, cn_wl_eq, cb_0, cb_n0, cb_b, cm_okb0, cm_okb1, Classical.not_not, true_and, and_true, Nat.reduceAdd, Nat.reduceSub, Nat.reduceLT, Nat.reduceLeDiff, Int.reduceToNat, Int.reduceNatCast', Nat.zero_le, Nat.reduceEqDiff, false_or, or_false, or_true, true_or, Int.reduceNeg, reduceCtorEq, false_implies, implies_true, forall_const, true_implies, not_true_eq_false, not_false_eq_true, Nat.le_refl, ne_eq, if_true, if_false, ite_true, ite_false, List.cons_append, List.nil_append]
    simp (disch := omega) only [w3_le, w3_lt, w3_eq, w3_ix, w3_add, w3_sub, w3_mul, w3_toInt, w3_z]
    refine ⟨fun h => ?_, fun h => ⟨c, c, k, k + 1, l, l + 1, ha, ha, rfl, rfl, rfl, rfl, by omega, by omega, by omega, by omega, ?_⟩⟩
    · rw [cb_t (fun j q => hj j (by omega))] at hS; exact hS
    · simp only [jX1_isFirst, kX1_isFirst_0, w3_add, cn_iconst, cn_lconst0, cn_lconst1, cn_null, cn_iload, cn_aload, cn_lload, cn_lo1, cn_loa1, cn_loa2, cn_lol1, cn_get0, cn_gets, cn_put0, cn_puts, cn_istore, cn_astore, cn_astoreN, cn_lstore, cn_iinc, cn_in1, cn_iadd, cn_isub, cn_imul, cn_iand, cn_ior, cn_ixor, cn_ishl, cn_ishr, cn_iushr, cn_idiv, cn_irem, cn_ladd, cn_lmul, cn_ldiv, cn_lrem, cn_i2l, cn_l2i, cn_i2b, cn_lcmp, cn_dupi, cn_dupr, cn_dup2, cn_popi, cn_popr, cn_goto, cn_if_eq, cn_if_ne, cn_if_lt, cn_if_ge, cn_if_gt, cn_if_le, cn_ic_eq, cn_ic_ne, cn_ic_lt, cn_ic_ge, cn_ic_gt, cn_ic_le, cn_ifnullN, cn_ifnullR, cn_ifnonnullN, cn_ifnonnullR, cn_tswS, cn_tsw0, cn_tsw1, cn_lswS, cn_lsw0, cn_lsw1, cn_alen, cn_iaload, cn_laload, cn_rr1, cn_rr0, cn_aaload, cn_iastore, cn_lastore, cn_aastore, cn_getfield, cn_gf0, cn_gf1, cn_gf2, cn_gf3, cn_putfield, cn_pf0f, cn_pf1f, cn_pf2f, cn_pf3f, cn_pf0t, cn_pf1t, cn_pf2t, cn_pf3t, cn_new, cn_nw1, cn_newi, cn_newl, cn_anew, cn_an1, cn_inv_v, cn_inv_s, cn_inv_p, cn_ca1, cn_cb1, cn_pop0, cn_pops, cn_rk0, cn_rk1, cn_kcn, cn_kcs, cn_ireturn, cn_lreturn, cn_areturn, cn_return, cn_re0, cn_re1, cn_re2, cn_re3, cn_re4, cn_re5, cn_wp0, cn_wps, cn_m0, cn_m1, cn_e0, cn_en, cn_ei, cn_er, cn_eu, cn_el, cn_nl0, cn_nls, cn_nb0, cn_nb1, cn_nb2, cn_nb3, cn_bd0, cn_bds, cn_cwi, cn_cwr, cn_cwl, cn_cwn, cn_wi2, cn_wl1, cn_wl3, cn_wr1, cn_wr2, cn_wi_eq, cn_wl_eq, cb_0, cb_n0, cb_b, cm_okb0, cm_okb1, Classical.not_not, true_and, and_true, Nat.reduceAdd, Nat.reduceSub, Nat.reduceLT, Nat.reduceLeDiff, Int.reduceToNat, Int.reduceNatCast', Nat.zero_le, Nat.reduceEqDiff, false_or, or_false, or_true, true_or, Int.reduceNeg, reduceCtorEq, false_implies, implies_true, forall_const, true_implies, not_true_eq_false, not_false_eq_true, Nat.le_refl, ne_eq, if_true, if_false, ite_true, ite_false, List.cons_append, List.nil_append]
      refine ⟨fun q => ?_, fun q => ?_⟩
      · refine cast ?_ (ih _ (show l - (k + 1) < fu by omega) (k + 1) rfl (by omega) (fun j h2 => ?_))
        · congr 1
        · by_cases e : j = k
          · rw [e]; exact q
          · exact hj j (by omega)
      · rw [cb_f (fun w => w k (by omega) q)] at hS; exact hS
set_option maxHeartbeats 4000000 in
theorem mX1_isFirst (d : Nat) (hd : 1 ≤ d) : cm_Met d yX1_isFirst cX1_isFirst 3 (some .boolean) 0 0 SX1_isFirst := by
  refine cm_meets (J := JX1_isFirst) (by decide) rfl (fun h => by cases h) trivial ?_
  intro as T M Φ hS
  match as, hS with
  | [.ref a, .int i], ⟨c, l, ha, hi, hl, hS⟩ =>
    refine ⟨Nat.le_of_ble_eq_true rfl, ?_⟩
    refine cm_go hX1_isFirst 200 oX1_isFirst (eX1_isFirst d hd) lX1_isFirst_0 ?_
    simp only [jX1_isFirst, kX1_isFirst_0, cn_iconst, cn_lconst0, cn_lconst1, cn_null, cn_iload, cn_aload, cn_lload, cn_lo1, cn_loa1, cn_loa2, cn_lol1, cn_get0, cn_gets, cn_put0, cn_puts, cn_istore, cn_astore, cn_astoreN, cn_lstore, cn_iinc, cn_in1, cn_iadd, cn_isub, cn_imul, cn_iand, cn_ior, cn_ixor, cn_ishl, cn_ishr, cn_iushr, cn_idiv, cn_irem, cn_ladd, cn_lmul, cn_ldiv, cn_lrem, cn_i2l, cn_l2i, cn_i2b, cn_lcmp, cn_dupi, cn_dupr, cn_dup2, cn_popi, cn_popr, cn_goto, cn_if_eq, cn_if_ne, cn_if_lt, cn_if_ge, cn_if_gt, cn_if_le, cn_ic_eq, cn_ic_ne, cn_ic_lt, cn_ic_ge, cn_ic_gt, cn_ic_le, cn_ifnullN, cn_ifnullR, cn_ifnonnullN, cn_ifnonnullR, cn_tswS, cn_tsw0, cn_tsw1, cn_lswS, cn_lsw0, cn_lsw1, cn_alen, cn_iaload, cn_laload, cn_rr1, cn_rr0, cn_aaload, cn_iastore, cn_lastore, cn_aastore, cn_getfield, cn_gf0, cn_gf1, cn_gf2, cn_gf3, cn_putfield, cn_pf0f, cn_pf1f, cn_pf2f, cn_pf3f, cn_pf0t, cn_pf1t, cn_pf2t, cn_pf3t, cn_new, cn_nw1, cn_newi, cn_newl, cn_anew, cn_an1, cn_inv_v, cn_inv_s, cn_inv_p, cn_ca1, cn_cb1, cn_pop0, cn_pops, cn_rk0, cn_rk1, cn_kcn, cn_kcs, cn_ireturn, cn_lreturn, cn_areturn, cn_return, cn_re0, cn_re1, cn_re2, cn_re3, cn_re4, cn_re5, cn_wp0, cn_wps, cn_m0, cn_m1, cn_e0, cn_en, cn_ei, cn_er, cn_eu, cn_el, cn_nl0, cn_nls, cn_nb0, cn_nb1, cn_nb2, cn_nb3, cn_bd0, cn_bds, cn_cwi, cn_cwr, cn_cwl, cn_cwn, cn_wi2, cn_wl1, cn_wl3, cn_wr1, cn_wr2, cn_wi_eq, cn_wl_eq, cb_0, cb_n0, cb_b, cm_okb0, cm_okb1, Classical.not_not, true_and, and_true, Nat.reduceAdd, Nat.reduceSub, Nat.reduceLT, Nat.reduceLeDiff, Int.reduceToNat, Int.reduceNatCast', Nat.zero_le, Nat.reduceEqDiff, false_or, or_false, or_true, true_or, Int.reduceNeg, reduceCtorEq, false_implies, implies_true, forall_const, true_implies, not_true_eq_false, not_false_eq_true, Nat.le_refl, ne_eq, if_true, if_false, ite_true, ite_false, List.cons_append, List.nil_append]
    subst hi
    exact lX1_isFirst d hd ha hl hS 0 (Nat.zero_le _) (fun j q => by omega)
def SX1_howOften : cm_CT := fun as T M Φ => match as with
  | [.ref a, .ref b, .int i] => ∃ (c e : List Int32) (l : Nat), LLs T M a c ∧ LLs T M b e ∧ i = w3 l ∧ l < nl e ∧ Φ (some (.int (w3 (hoc c e l (nl c))))) T M
  | _ => False
def JX1_howOften : cm_J := (1, false, 1, [(38, 6, 2, 0, 0, SX1_isRunLike)], [], [])
theorem jX1_howOften : JX1_howOften.1 = 1 ∧ JX1_howOften.2.1 = false ∧ JX1_howOften.2.2.1 = 1 ∧ cm_gv JX1_howOften 38 = some (6, 2, 0, 0, SX1_isRunLike) := ⟨rfl, rfl, rfl, rfl⟩
theorem eX1_howOften (d : Nat) (hd : 1 ≤ d) : cm_Cok d JX1_howOften := ⟨(List.forall_mem_cons.mpr ⟨q1_38 (mX1_isRunLike (d - 1) (by omega)) (by omega), (fun q h => by cases h)⟩), (fun q h => by cases h), (fun q h => by cases h)⟩
set_option maxHeartbeats 4000000 in
theorem lX1_howOften (d : Nat) (hd : 1 ≤ d) {T : cm_T} {M : cm_M} {Φ : Option Value → cm_T → cm_M → Prop} {a b l : Nat} {c e : List Int32} (ha : LLs T M a c) (hb : LLs T M b e) (hl : l < nl e) (hS : Φ (some (.int (w3 (hoc c e l (nl c))))) T M) :
    ∀ (k : Nat), k ≤ nl c → cm_Go d cX1_howOften 5 0 0 JX1_howOften Φ 5 [some (.ref a), some (.ref b), some (.int (w3 l)), some (.int (w3 (hoc c e l k))), some (.int (w3 k))] [] (0, 0) T M := by
  intro k
  induction hf : (nl c - k) using Nat.strongRecOn generalizing k with
  | _ fu ih =>
    intro k1
    obtain ⟨⟨t1, t2, t3, t4, t5, t6, t7⟩, -, -, l1⟩ := id ha
    obtain ⟨⟨u1, u2, u3, u4, u5, u6, u7⟩, -, -, l2⟩ := id hb
    have n1 := nl_120 l1
    have n2 := nl_120 l2
    have za := ha.sz
    have hbd := hoc_bd c e l k
    refine cm_go hX1_howOften 200 oX1_howOften (eX1_howOften d hd) lX1_howOften_5 ?_
    simp only [jX1_howOften, kX1_howOften_0, fl_1_18, t1, u1, za, cn_iconst, cn_lconst0, cn_lconst1, cn_null, cn_iload, cn_aload, cn_lload, cn_lo1, cn_loa1, cn_loa2, cn_lol1, cn_get0, cn_gets, cn_put0, cn_puts, cn_istore, cn_astore, cn_astoreN, cn_lstore, cn_iinc, cn_in1, cn_iadd, cn_isub, cn_imul, cn_iand, cn_ior, cn_ixor, cn_ishl, cn_ishr, cn_iushr, cn_idiv, cn_irem, cn_ladd, cn_lmul, cn_ldiv, cn_lrem, cn_i2l, cn_l2i, cn_i2b, cn_lcmp, cn_dupi, cn_dupr, cn_dup2, cn_popi, cn_popr, cn_goto, cn_if_eq, cn_if_ne, cn_if_lt, cn_if_ge, cn_if_gt, cn_if_le, cn_ic_eq, cn_ic_ne, cn_ic_lt, cn_ic_ge, cn_ic_gt, cn_ic_le, cn_ifnullN, cn_ifnullR, cn_ifnonnullN, cn_ifnonnullR, cn_tswS, cn_tsw0, cn_tsw1, cn_lswS, cn_lsw0, cn_lsw1, cn_alen, cn_iaload, cn_laload, cn_rr1, cn_rr0, cn_aaload, cn_iastore, cn_lastore, cn_aastore, cn_getfield, cn_gf0, cn_gf1, cn_gf2, cn_gf3, cn_putfield, cn_pf0f, cn_pf1f, cn_pf2f, cn_pf3f, cn_pf0t, cn_pf1t, cn_pf2t, cn_pf3t, cn_new, cn_nw1, cn_newi, cn_newl, cn_anew, cn_an1, cn_inv_v, cn_inv_s, cn_inv_p, cn_ca1, cn_cb1, cn_pop0, cn_pops, cn_rk0, cn_rk1, cn_kcn, cn_kcs, cn_ireturn, cn_lreturn, cn_areturn, cn_return, cn_re0, cn_re1, cn_re2, cn_re3, cn_re4, cn_re5, cn_wp0, cn_wps, cn_m0, cn_m1, cn_e0, cn_en, cn_ei, cn_er, cn_eu, cn_el, cn_nl0, cn_nls, cn_nb0, cn_nb1, cn_nb2, cn_nb3, cn_bd0, cn_bds, cn_cwi, cn_cwr, cn_cwl, cn_cwn, cn_wi2, cn_wl1, cn_wl3, cn_wr1, cn_wr2, cn_wi_eq, cn_wl_eq, cb_0, cb_n0, cb_b, cm_okb0, cm_okb1, Classical.not_not, true_and, and_true, Nat.reduceAdd, Nat.reduceSub, Nat.reduceLT, Nat.reduceLeDiff, Int.reduceToNat, Int.reduceNatCast', Nat.zero_le, Nat.reduceEqDiff, false_or, or_false, or_true, true_or, Int.reduceNeg, reduceCtorEq, false_implies, implies_true, forall_const, true_implies, not_true_eq_false, not_false_eq_true, Nat.le_refl, ne_eq, if_true, if_false, ite_true, ite_false, List.cons_append, List.nil_append]
    simp (disch := omega) only [w3_le, w3_lt, w3_eq, w3_ix, w3_add, w3_sub, w3_mul, w3_toInt, w3_z]
    refine ⟨fun h => ?_, fun h => ⟨c, e, k, k + 1, l, l + 1, ha, hb, rfl, rfl, rfl, rfl, by omega, by omega, by omega, by omega, ?_⟩⟩
    · rw [show k = nl c by omega]; exact hS
    · simp only [jX1_howOften, kX1_howOften_0, fl_1_18, w3_add, cn_iconst, cn_lconst0, cn_lconst1, cn_null, cn_iload, cn_aload, cn_lload, cn_lo1, cn_loa1, cn_loa2, cn_lol1, cn_get0, cn_gets, cn_put0, cn_puts, cn_istore, cn_astore, cn_astoreN, cn_lstore, cn_iinc, cn_in1, cn_iadd, cn_isub, cn_imul, cn_iand, cn_ior, cn_ixor, cn_ishl, cn_ishr, cn_iushr, cn_idiv, cn_irem, cn_ladd, cn_lmul, cn_ldiv, cn_lrem, cn_i2l, cn_l2i, cn_i2b, cn_lcmp, cn_dupi, cn_dupr, cn_dup2, cn_popi, cn_popr, cn_goto, cn_if_eq, cn_if_ne, cn_if_lt, cn_if_ge, cn_if_gt, cn_if_le, cn_ic_eq, cn_ic_ne, cn_ic_lt, cn_ic_ge, cn_ic_gt, cn_ic_le, cn_ifnullN, cn_ifnullR, cn_ifnonnullN, cn_ifnonnullR, cn_tswS, cn_tsw0, cn_tsw1, cn_lswS, cn_lsw0, cn_lsw1, cn_alen, cn_iaload, cn_laload, cn_rr1, cn_rr0, cn_aaload, cn_iastore, cn_lastore, cn_aastore, cn_getfield, cn_gf0, cn_gf1, cn_gf2, cn_gf3, cn_putfield, cn_pf0f, cn_pf1f, cn_pf2f, cn_pf3f, cn_pf0t, cn_pf1t, cn_pf2t, cn_pf3t, cn_new, cn_nw1, cn_newi, cn_newl, cn_anew, cn_an1, cn_inv_v, cn_inv_s, cn_inv_p, cn_ca1, cn_cb1, cn_pop0, cn_pops, cn_rk0, cn_rk1, cn_kcn, cn_kcs, cn_ireturn, cn_lreturn, cn_areturn, cn_return, cn_re0, cn_re1, cn_re2, cn_re3, cn_re4, cn_re5, cn_wp0, cn_wps, cn_m0, cn_m1, cn_e0, cn_en, cn_ei, cn_er, cn_eu, cn_el, cn_nl0, cn_nls, cn_nb0, cn_nb1, cn_nb2, cn_nb3, cn_bd0, cn_bds, cn_cwi, cn_cwr, cn_cwl, cn_cwn, cn_wi2, cn_wl1, cn_wl3, cn_wr1, cn_wr2, cn_wi_eq, cn_wl_eq, cb_0, cb_n0, cb_b, cm_okb0, cm_okb1, Classical.not_not, true_and, and_true, Nat.reduceAdd, Nat.reduceSub, Nat.reduceLT, Nat.reduceLeDiff, Int.reduceToNat, Int.reduceNatCast', Nat.zero_le, Nat.reduceEqDiff, false_or, or_false, or_true, true_or, Int.reduceNeg, reduceCtorEq, false_implies, implies_true, forall_const, true_implies, not_true_eq_false, not_false_eq_true, Nat.le_refl, ne_eq, if_true, if_false, ite_true, ite_false, List.cons_append, List.nil_append]
      refine ⟨fun q => ?_, fun q => ?_⟩
      · refine cast ?_ (ih _ (show nl c - (k + 1) < fu by omega) (k + 1) rfl (by omega))
        rw [hoc_f q]
        congr 1
      · refine cast ?_ (ih _ (show nl c - (k + 1) < fu by omega) (k + 1) rfl (by omega))
        rw [hoc_t q]
        congr 1
set_option maxHeartbeats 4000000 in
theorem mX1_howOften (d : Nat) (hd : 1 ≤ d) : cm_Met d yX1_howOften cX1_howOften 5 (some .int) 0 0 SX1_howOften := by
  refine cm_meets (J := JX1_howOften) (by decide) rfl (fun h => by cases h) trivial ?_
  intro as T M Φ hS
  match as, hS with
  | [.ref a, .ref b, .int i], ⟨c, e, l, ha, hb, hi, hl, hS⟩ =>
    refine ⟨Nat.le_of_ble_eq_true rfl, ?_⟩
    refine cm_go hX1_howOften 200 oX1_howOften (eX1_howOften d hd) lX1_howOften_0 ?_
    simp only [jX1_howOften, kX1_howOften_0, fl_1_18, cn_iconst, cn_lconst0, cn_lconst1, cn_null, cn_iload, cn_aload, cn_lload, cn_lo1, cn_loa1, cn_loa2, cn_lol1, cn_get0, cn_gets, cn_put0, cn_puts, cn_istore, cn_astore, cn_astoreN, cn_lstore, cn_iinc, cn_in1, cn_iadd, cn_isub, cn_imul, cn_iand, cn_ior, cn_ixor, cn_ishl, cn_ishr, cn_iushr, cn_idiv, cn_irem, cn_ladd, cn_lmul, cn_ldiv, cn_lrem, cn_i2l, cn_l2i, cn_i2b, cn_lcmp, cn_dupi, cn_dupr, cn_dup2, cn_popi, cn_popr, cn_goto, cn_if_eq, cn_if_ne, cn_if_lt, cn_if_ge, cn_if_gt, cn_if_le, cn_ic_eq, cn_ic_ne, cn_ic_lt, cn_ic_ge, cn_ic_gt, cn_ic_le, cn_ifnullN, cn_ifnullR, cn_ifnonnullN, cn_ifnonnullR, cn_tswS, cn_tsw0, cn_tsw1, cn_lswS, cn_lsw0, cn_lsw1, cn_alen, cn_iaload, cn_laload, cn_rr1, cn_rr0, cn_aaload, cn_iastore, cn_lastore, cn_aastore, cn_getfield, cn_gf0, cn_gf1, cn_gf2, cn_gf3, cn_putfield, cn_pf0f, cn_pf1f, cn_pf2f, cn_pf3f, cn_pf0t, cn_pf1t, cn_pf2t, cn_pf3t, cn_new, cn_nw1, cn_newi, cn_newl, cn_anew, cn_an1, cn_inv_v, cn_inv_s, cn_inv_p, cn_ca1, cn_cb1, cn_pop0, cn_pops, cn_rk0, cn_rk1, cn_kcn, cn_kcs, cn_ireturn, cn_lreturn, cn_areturn, cn_return, cn_re0, cn_re1, cn_re2, cn_re3, cn_re4, cn_re5, cn_wp0, cn_wps, cn_m0, cn_m1, cn_e0, cn_en, cn_ei, cn_er, cn_eu, cn_el, cn_nl0, cn_nls, cn_nb0, cn_nb1, cn_nb2, cn_nb3, cn_bd0, cn_bds, cn_cwi, cn_cwr, cn_cwl, cn_cwn, cn_wi2, cn_wl1, cn_wl3, cn_wr1, cn_wr2, cn_wi_eq, cn_wl_eq, cb_0, cb_n0, cb_b, cm_okb0, cm_okb1, Classical.not_not, true_and, and_true, Nat.reduceAdd, Nat.reduceSub, Nat.reduceLT, Nat.reduceLeDiff, Int.reduceToNat, Int.reduceNatCast', Nat.zero_le, Nat.reduceEqDiff, false_or, or_false, or_true, true_or, Int.reduceNeg, reduceCtorEq, false_implies, implies_true, forall_const, true_implies, not_true_eq_false, not_false_eq_true, Nat.le_refl, ne_eq, if_true, if_false, ite_true, ite_false, List.cons_append, List.nil_append]
    subst hi
    exact lX1_howOften d hd ha hb hl hS 0 (Nat.zero_le _)
def SJ7_fill_53178 : cm_CT := fun as T M Φ => match as with
  | [.ref a, .int v] => T.1 a = 20 ∧ T.2.1 a ≤ 100000 ∧ Φ none T (mFill M a (T.2.1 a) v)
  | _ => False
def JJ7_fill_53178 : cm_J := (11, false, 0, [], [], [])
theorem jJ7_fill_53178 : JJ7_fill_53178.1 = 11 ∧ JJ7_fill_53178.2.1 = false ∧ JJ7_fill_53178.2.2.1 = 0 := ⟨rfl, rfl, rfl⟩
theorem eJ7_fill_53178 (d : Nat) (hd : 0 ≤ d) : cm_Cok d JJ7_fill_53178 := ⟨(fun q h => by cases h), (fun q h => by cases h), (fun q h => by cases h)⟩
set_option maxHeartbeats 4000000 in
theorem lJ7_fill (d : Nat) (hd : 0 ≤ d) {T : cm_T} {M : cm_M} {Φ : Option Value → cm_T → cm_M → Prop} {a : Nat} {v : Int32} (h1 : T.1 a = 20) (h2 : T.2.1 a ≤ 100000) (hS : Φ none T (mFill M a (T.2.1 a) v)) :
    ∀ (k : Nat), k ≤ T.2.1 a → cm_Go d cJ7_fill_53178 4 0 0 JJ7_fill_53178 Φ 5 [some (.ref a), some (.int v), some (.int (w3 k)), some (.int (w3 (T.2.1 a)))] [] (0, 0) T (mFill M a k v) := by
  intro k
  induction hf : (T.2.1 a - k) using Nat.strongRecOn generalizing k with
  | _ fu ih =>
    intro k1
    refine cm_go hJ7_fill_53178 200 oJ7_fill_53178 (eJ7_fill_53178 d hd) lJ7_fill_53178_5 ?_
    simp only [jJ7_fill_53178, kJ7_fill_53178_0, h1, cn_iconst, cn_lconst0, cn_lconst1, cn_null, cn_iload, cn_aload, cn_lload, cn_lo1, cn_loa1, cn_loa2, cn_lol1, cn_get0, cn_gets, cn_put0, cn_puts, cn_istore, cn_astore, cn_astoreN, cn_lstore, cn_iinc, cn_in1, cn_iadd, cn_isub, cn_imul, cn_iand, cn_ior, cn_ixor, cn_ishl, cn_ishr, cn_iushr, cn_idiv, cn_irem, cn_ladd, cn_lmul, cn_ldiv, cn_lrem, cn_i2l, cn_l2i, cn_i2b, cn_lcmp, cn_dupi, cn_dupr, cn_dup2, cn_popi, cn_popr, cn_goto, cn_if_eq, cn_if_ne, cn_if_lt, cn_if_ge, cn_if_gt, cn_if_le, cn_ic_eq, cn_ic_ne, cn_ic_lt, cn_ic_ge, cn_ic_gt, cn_ic_le, cn_ifnullN, cn_ifnullR, cn_ifnonnullN, cn_ifnonnullR, cn_tswS, cn_tsw0, cn_tsw1, cn_lswS, cn_lsw0, cn_lsw1, cn_alen, cn_iaload, cn_laload, cn_rr1, cn_rr0, cn_aaload, cn_iastore, cn_lastore, cn_aastore, cn_getfield, cn_gf0, cn_gf1, cn_gf2, cn_gf3, cn_putfield, cn_pf0f, cn_pf1f, cn_pf2f, cn_pf3f, cn_pf0t, cn_pf1t, cn_pf2t, cn_pf3t, cn_new, cn_nw1, cn_newi, cn_newl, cn_anew, cn_an1, cn_inv_v, cn_inv_s, cn_inv_p, cn_ca1, cn_cb1, cn_pop0, cn_pops, cn_rk0, cn_rk1, cn_kcn, cn_kcs, cn_ireturn, cn_lreturn, cn_areturn, cn_return, cn_re0, cn_re1, cn_re2, cn_re3, cn_re4, cn_re5, cn_wp0, cn_wps, cn_m0, cn_m1, cn_e0, cn_en, cn_ei, cn_er, cn_eu, cn_el, cn_nl0, cn_nls, cn_nb0, cn_nb1, cn_nb2, cn_nb3, cn_bd0, cn_bds, cn_cwi, cn_cwr, cn_cwl, cn_cwn, cn_wi2, cn_wl1, cn_wl3, cn_wr1, cn_wr2, cn_wi_eq, cn_wl_eq, cb_0, cb_n0, cb_b, cm_okb0, cm_okb1, Classical.not_not, true_and, and_true, Nat.reduceAdd, Nat.reduceSub, Nat.reduceLT, Nat.reduceLeDiff, Int.reduceToNat, Int.reduceNatCast', Nat.zero_le, Nat.reduceEqDiff, false_or, or_false, or_true, true_or, Int.reduceNeg, reduceCtorEq, false_implies, implies_true, forall_const, true_implies, not_true_eq_false, not_false_eq_true, Nat.le_refl, ne_eq, if_true, if_false, ite_true, ite_false, List.cons_append, List.nil_append]
    simp (disch := omega) only [w3_le, w3_lt, w3_eq, w3_ix, w3_add, w3_sub, w3_mul, w3_toInt, w3_z]
    refine ⟨fun h => ?_, fun h => ⟨⟨by omega, by omega⟩, ?_⟩⟩
    · rw [show k = T.2.1 a by omega]; exact hS
    · rw [mFill_s M a k v (by omega)]
      exact ih _ (show T.2.1 a - (k + 1) < fu by omega) (k + 1) rfl (by omega)
set_option maxHeartbeats 4000000 in
theorem mJ7_fill_53178 (d : Nat) (hd : 0 ≤ d) : cm_Met d yJ7_fill_53178 cJ7_fill_53178 4 none 0 0 SJ7_fill_53178 := by
  refine cm_meets (J := JJ7_fill_53178) (by decide) rfl (fun h => by cases h) trivial ?_
  intro as T M Φ hS
  match as, hS with
  | [.ref a, .int v], ⟨h1, h2, hS⟩ =>
    refine ⟨Nat.le_of_ble_eq_true rfl, ?_⟩
    refine cm_go hJ7_fill_53178 200 oJ7_fill_53178 (eJ7_fill_53178 d hd) lJ7_fill_53178_0 ?_
    simp only [jJ7_fill_53178, kJ7_fill_53178_0, h1, cn_iconst, cn_lconst0, cn_lconst1, cn_null, cn_iload, cn_aload, cn_lload, cn_lo1, cn_loa1, cn_loa2, cn_lol1, cn_get0, cn_gets, cn_put0, cn_puts, cn_istore, cn_astore, cn_astoreN, cn_lstore, cn_iinc, cn_in1, cn_iadd, cn_isub, cn_imul, cn_iand, cn_ior, cn_ixor, cn_ishl, cn_ishr, cn_iushr, cn_idiv, cn_irem, cn_ladd, cn_lmul, cn_ldiv, cn_lrem, cn_i2l, cn_l2i, cn_i2b, cn_lcmp, cn_dupi, cn_dupr, cn_dup2, cn_popi, cn_popr, cn_goto, cn_if_eq, cn_if_ne, cn_if_lt, cn_if_ge, cn_if_gt, cn_if_le, cn_ic_eq, cn_ic_ne, cn_ic_lt, cn_ic_ge, cn_ic_gt, cn_ic_le, cn_ifnullN, cn_ifnullR, cn_ifnonnullN, cn_ifnonnullR, cn_tswS, cn_tsw0, cn_tsw1, cn_lswS, cn_lsw0, cn_lsw1, cn_alen, cn_iaload, cn_laload, cn_rr1, cn_rr0, cn_aaload, cn_iastore, cn_lastore, cn_aastore, cn_getfield, cn_gf0, cn_gf1, cn_gf2, cn_gf3, cn_putfield, cn_pf0f, cn_pf1f, cn_pf2f, cn_pf3f, cn_pf0t, cn_pf1t, cn_pf2t, cn_pf3t, cn_new, cn_nw1, cn_newi, cn_newl, cn_anew, cn_an1, cn_inv_v, cn_inv_s, cn_inv_p, cn_ca1, cn_cb1, cn_pop0, cn_pops, cn_rk0, cn_rk1, cn_kcn, cn_kcs, cn_ireturn, cn_lreturn, cn_areturn, cn_return, cn_re0, cn_re1, cn_re2, cn_re3, cn_re4, cn_re5, cn_wp0, cn_wps, cn_m0, cn_m1, cn_e0, cn_en, cn_ei, cn_er, cn_eu, cn_el, cn_nl0, cn_nls, cn_nb0, cn_nb1, cn_nb2, cn_nb3, cn_bd0, cn_bds, cn_cwi, cn_cwr, cn_cwl, cn_cwn, cn_wi2, cn_wl1, cn_wl3, cn_wr1, cn_wr2, cn_wi_eq, cn_wl_eq, cb_0, cb_n0, cb_b, cm_okb0, cm_okb1, Classical.not_not, true_and, and_true, Nat.reduceAdd, Nat.reduceSub, Nat.reduceLT, Nat.reduceLeDiff, Int.reduceToNat, Int.reduceNatCast', Nat.zero_le, Nat.reduceEqDiff, false_or, or_false, or_true, true_or, Int.reduceNeg, reduceCtorEq, false_implies, implies_true, forall_const, true_implies, not_true_eq_false, not_false_eq_true, Nat.le_refl, ne_eq, if_true, if_false, ite_true, ite_false, List.cons_append, List.nil_append]
    have := lJ7_fill d hd (v := v) h1 h2 hS 0 (Nat.zero_le _)
    rw [show ((0 : Nat) : Int) = 0 from rfl, mFill_0] at this
    exact this
/-- how many lines can be matched, by how many are left of each -/
noncomputable def lcR (al : Nat → Nat → Prop) (m n : Nat) : Nat → Nat → Nat
  | 0, _ => 0
  | _ + 1, 0 => 0
  | a + 1, b + 1 => @ite Nat (al (m - (a + 1)) (n - (b + 1))) (Classical.propDecidable _) (lcR al m n a b + 1) (max (lcR al m n a (b + 1)) (lcR al m n (a + 1) b))
termination_by a b => (a, b)
noncomputable def LC (al : Nat → Nat → Prop) (m n i j : Nat) : Nat := lcR al m n (m - i) (n - j)
theorem lcR_0 (al : Nat → Nat → Prop) (m n b : Nat) : lcR al m n 0 b = 0 := by rw [lcR]
theorem lcR_1 (al : Nat → Nat → Prop) (m n a : Nat) : lcR al m n a 0 = 0 := by
  cases a <;> rw [lcR]
theorem lcR_2 (al : Nat → Nat → Prop) (m n a b : Nat) : lcR al m n (a + 1) (b + 1) = @ite Nat (al (m - (a + 1)) (n - (b + 1))) (Classical.propDecidable _) (lcR al m n a b + 1) (max (lcR al m n a (b + 1)) (lcR al m n (a + 1) b)) := by rw [lcR]
theorem LC_e {al : Nat → Nat → Prop} {m n i j : Nat} (h : m ≤ i ∨ n ≤ j) : LC al m n i j = 0 := by
  unfold LC
  rcases h with h | h
  · rw [show m - i = 0 by omega, lcR_0]
  · rw [show n - j = 0 by omega, lcR_1]
theorem LC_t {al : Nat → Nat → Prop} {m n i j : Nat} (hi : i < m) (hj : j < n) (h : al i j) : LC al m n i j = LC al m n (i + 1) (j + 1) + 1 := by
  unfold LC
  rw [show m - i = (m - (i + 1)) + 1 by omega, show n - j = (n - (j + 1)) + 1 by omega, lcR_2, show m - (m - (i + 1) + 1) = i by omega, show n - (n - (j + 1) + 1) = j by omega, if_pos h]
theorem LC_f {al : Nat → Nat → Prop} {m n i j : Nat} (hi : i < m) (hj : j < n) (h : ¬ al i j) : LC al m n i j = max (LC al m n (i + 1) j) (LC al m n i (j + 1)) := by
  unfold LC
  rw [show m - i = (m - (i + 1)) + 1 by omega, show n - j = (n - (j + 1)) + 1 by omega, lcR_2, show m - (m - (i + 1) + 1) = i by omega, show n - (n - (j + 1) + 1) = j by omega, if_neg h]
theorem lcR_le (al : Nat → Nat → Prop) (m n : Nat) : ∀ a b : Nat, lcR al m n a b ≤ a
  | 0, b => by rw [lcR_0]; exact Nat.le_refl _
  | a + 1, 0 => by rw [lcR_1]; omega
  | a + 1, b + 1 => by
    have h1 := lcR_le al m n a b
    have h2 := lcR_le al m n a (b + 1)
    have h3 := lcR_le al m n (a + 1) b
    rw [lcR_2]
    by_cases q : al (m - (a + 1)) (n - (b + 1))
    · rw [if_pos q]; omega
    · rw [if_neg q]; omega
termination_by a b => (a, b)
theorem LC_le (al : Nat → Nat → Prop) (m n i j : Nat) : LC al m n i j ≤ m := Nat.le_trans (lcR_le _ _ _ _ _) (Nat.sub_le _ _)
def aln (c e : List Int32) (i j : Nat) : Prop := eqr c i (i + 1) e j (j + 1)
/-- the table of the matcher's is laid for all pairs behind (i, j) -/
def Tab (M : cm_M) (x : Nat) (al : Nat → Nat → Prop) (m n : Nat) (i j : Int) : Prop := ∀ p q : Nat, p ≤ m → q ≤ n → (i < (p : Int) ∨ (i = (p : Int) ∧ j < (q : Int))) → M.1 x ((p : Int) * 41 + (q : Int)) = w3 (LC al m n p q : Int)
theorem Tab_get {M : cm_M} {x : Nat} {al : Nat → Nat → Prop} {m n : Nat} {i j : Int} (h : Tab M x al m n i j) (p q : Nat) (z : Int) (hp : p ≤ m) (hq : q ≤ n) (hl : i < (p : Int) ∨ (i = (p : Int) ∧ j < (q : Int))) (hz : z = (p : Int) * 41 + (q : Int)) : M.1 x z = w3 (LC al m n p q : Int) := by
  rw [hz]
  exact h p q hp hq hl
def ap3m (x b s : Nat) : Prop := (x + 2 ≤ b ∨ b + 3 ≤ x + 1) ∧ (x + 2 ≤ s ∨ s + 3 ≤ x + 1)
def SX2_mostMatched : cm_CT := fun as T M Φ => match as with
  | [.ref x, .ref b, .ref s] => ∃ (c e : List Int32), T.1 x = 3 ∧ M.2.2 x 0 = some (x + 1) ∧ T.1 (x + 1) = 20 ∧ T.2.1 (x + 1) = 1681 ∧ LLs T M b c ∧ LLs T M s e ∧ nl c ≤ 40 ∧ nl e ≤ 40 ∧ ap3m x b s ∧ ∀ M1, Fr M M1 (x + 1) 1 → Tab M1 (x + 1) (aln c e) (nl c) (nl e) (-1) (nl e) → Φ (some (.int (w3 (LC (aln c e) (nl c) (nl e) 0 0 : Int)))) T M1
  | _ => False
def JX2_mostMatched : cm_J := (2, false, 1, [(27, 6, 2, 0, 0, SX1_isRunLike)], [(21, 2, 0, 0, 0, SJ9_min_7cf53), (31, 2, 0, 0, 0, SJ9_max_7cf53)], [])
theorem jX2_mostMatched : JX2_mostMatched.1 = 2 ∧ JX2_mostMatched.2.1 = false ∧ JX2_mostMatched.2.2.1 = 1 ∧ cm_gv JX2_mostMatched 27 = some (6, 2, 0, 0, SX1_isRunLike) ∧ cm_gs JX2_mostMatched 21 = some (2, 0, 0, 0, SJ9_min_7cf53) ∧ cm_gs JX2_mostMatched 31 = some (2, 0, 0, 0, SJ9_max_7cf53) := ⟨rfl, rfl, rfl, rfl, rfl, rfl⟩
theorem eX2_mostMatched (d : Nat) (hd : 1 ≤ d) : cm_Cok d JX2_mostMatched := ⟨(List.forall_mem_cons.mpr ⟨q2_27 (mX1_isRunLike (d - 1) (by omega)) (by omega), (fun q h => by cases h)⟩), (List.forall_mem_cons.mpr ⟨(cm_calMn (cm_w 486 (by decide +kernel) rfl)), (List.forall_mem_cons.mpr ⟨(cm_calMx (cm_w 491 (by decide +kernel) rfl)), (fun q h => by cases h)⟩)⟩), (fun q h => by cases h)⟩
set_option maxHeartbeats 4000000 in
theorem lX2_in (d : Nat) (hd : 1 ≤ d) {T : cm_T} {M : cm_M} {Φ : Option Value → cm_T → cm_M → Prop} {x b s : Nat} {c e : List Int32} (x1 : T.1 x = 3) (x2 : M.2.2 x 0 = some (x + 1)) (x3 : T.1 (x + 1) = 20) (x4 : T.2.1 (x + 1) = 1681) (hb : LLs T M b c) (hs : LLs T M s e) (n1 : nl c ≤ 40) (n2 : nl e ≤ 40) (ha : ap3m x b s) (i : Nat) (hi : i ≤ nl c)
    (hO : ∀ M1 o6 o7, Fr M M1 (x + 1) 1 → Tab M1 (x + 1) (aln c e) (nl c) (nl e) ((i : Int) - 1) (nl e) → cm_Go d cX2_mostMatched 8 0 0 JX2_mostMatched Φ 24 [some (.ref x), some (.ref b), some (.ref s), some (.int (w3 (nl c))), some (.int (w3 (nl e))), some (.int (w3 ((i : Int) - 1))), o6, o7] [] (0, 0) T M1) :
    ∀ (j : Int) (M1 : cm_M) (o7 : Option Value), -1 ≤ j → j ≤ (nl e : Int) → Fr M M1 (x + 1) 1 → Tab M1 (x + 1) (aln c e) (nl c) (nl e) i j → cm_Go d cX2_mostMatched 8 0 0 JX2_mostMatched Φ 33 [some (.ref x), some (.ref b), some (.ref s), some (.int (w3 (nl c))), some (.int (w3 (nl e))), some (.int (w3 i)), some (.int (w3 j)), o7] [] (0, 0) T M1 := by
  intro j
  induction hf : (j + 1).toNat using Nat.strongRecOn generalizing j with
  | _ fu ih =>
    intro M1 o7 j0 j1 hF hT
    unfold ap3m at ha
    have e2 : M1.2 = M.2 := hF.2
    have hb1 := hb.frame hF (by omega)
    have hs1 := hs.frame hF (by omega)
    have bt := hb.1.1
    have st := hs.1.1
    refine cm_go hX2_mostMatched 200 oX2_mostMatched (eX2_mostMatched d hd) lX2_mostMatched_33 ?_
    simp only [jX2_mostMatched, kX2_mostMatched_0, kX2_mostMatched_1, fl_2_15, fl_2_11, x1, x2, x3, x4, e2, bt, st, cn_iconst, cn_lconst0, cn_lconst1, cn_null, cn_iload, cn_aload, cn_lload, cn_lo1, cn_loa1, cn_loa2, cn_lol1, cn_get0, cn_gets, cn_put0, cn_puts, cn_istore, cn_astore, cn_astoreN, cn_lstore, cn_iinc, cn_in1, cn_iadd, cn_isub, cn_imul, cn_iand, cn_ior, cn_ixor, cn_ishl, cn_ishr, cn_iushr, cn_idiv, cn_irem, cn_ladd, cn_lmul, cn_ldiv, cn_lrem, cn_i2l, cn_l2i, cn_i2b, cn_lcmp, cn_dupi, cn_dupr, cn_dup2, cn_popi, cn_popr, cn_goto, cn_if_eq, cn_if_ne, cn_if_lt, cn_if_ge, cn_if_gt, cn_if_le, cn_ic_eq, cn_ic_ne, cn_ic_lt, cn_ic_ge, cn_ic_gt, cn_ic_le, cn_ifnullN, cn_ifnullR, cn_ifnonnullN, cn_ifnonnullR, cn_tswS, cn_tsw0, cn_tsw1, cn_lswS, cn_lsw0, cn_lsw1, cn_alen, cn_iaload, cn_laload, cn_rr1, cn_rr0, cn_aaload, cn_iastore, cn_lastore, cn_aastore, cn_getfield, cn_gf0, cn_gf1, cn_gf2, cn_gf3, cn_putfield, cn_pf0f, cn_pf1f, cn_pf2f, cn_pf3f, cn_pf0t, cn_pf1t, cn_pf2t, cn_pf3t, cn_new, cn_nw1, cn_newi, cn_newl, cn_anew, cn_an1, cn_inv_v, cn_inv_s, cn_inv_p, cn_ca1, cn_cb1, cn_pop0, cn_pops, cn_rk0, cn_rk1, cn_kcn, cn_kcs, cn_ireturn, cn_lreturn, cn_areturn, cn_return, cn_re0, cn_re1, cn_re2, cn_re3, cn_re4, cn_re5, cn_wp0, cn_wps, cn_m0, cn_m1, cn_e0, cn_en, cn_ei, cn_er, cn_eu, cn_el, cn_nl0, cn_nls, cn_nb0, cn_nb1, cn_nb2, cn_nb3, cn_bd0, cn_bds, cn_cwi, cn_cwr, cn_cwl, cn_cwn, cn_wi2, cn_wl1, cn_wl3, cn_wr1, cn_wr2, cn_wi_eq, cn_wl_eq, cb_0, cb_n0, cb_b, cm_okb0, cm_okb1, Classical.not_not, true_and, and_true, Nat.reduceAdd, Nat.reduceSub, Nat.reduceLT, Nat.reduceLeDiff, Int.reduceToNat, Int.reduceNatCast', Nat.zero_le, Nat.reduceEqDiff, false_or, or_false, or_true, true_or, Int.reduceNeg, reduceCtorEq, false_implies, implies_true, forall_const, true_implies, not_true_eq_false, not_false_eq_true, Nat.le_refl, ne_eq, if_true, if_false, ite_true, ite_false, List.cons_append, List.nil_append]
    simp (disch := omega) only [w3_le, w3_lt, w3_eq, w3_ix, w3_add, w3_sub, w3_mul, w3_toInt, w3_z]
    refine ⟨fun h => ?_, fun h => ?_⟩
    · have ej : j = -1 := by omega
      subst ej
      refine hO M1 _ _ hF (fun p q hp hq h2 => hT p q hp hq ?_)
      omega
    · obtain ⟨jn, rfl⟩ : ∃ n : Nat, j = (n : Int) := ⟨j.toNat, by omega⟩
      have key := fun M2 o (F2 : Fr M M2 (x + 1) 1) T2 => ih _ (show ((jn : Int) - 1 + 1).toNat < fu by omega) ((jn : Int) - 1) rfl M2 o (by omega) (by omega) F2 T2
      have wr : ∀ v : Int32, v = w3 (LC (aln c e) (nl c) (nl e) i jn : Int) → Fr M (cm_wi M1 (x + 1) ((i : Int) * 41 + (jn : Int)) v) (x + 1) 1 ∧ Tab (cm_wi M1 (x + 1) ((i : Int) * 41 + (jn : Int)) v) (x + 1) (aln c e) (nl c) (nl e) i ((jn : Int) - 1) := by
        intro v hv
        refine ⟨hF.trans (Fr.wi (by omega) (by omega)), fun p q hp hq h2 => ?_⟩
        by_cases h3 : p = i ∧ q = jn
        · rw [h3.1, h3.2, cn_wi_eq]; exact hv
        · rw [cn_wi_ne (Or.inr (by omega))]
          exact hT p q hp hq (by omega)
      rw [show (jn : Int) - 1 = (jn : Int) + -1 by omega] at key wr
      refine ⟨fun h3 => ?_, fun h3 => ⟨fun h4 => ?_, fun h4 => ?_⟩⟩
      · obtain ⟨w1, w2⟩ := wr (w3 0) (by rw [LC_e (Or.inl (by omega))]; rfl)
        exact ⟨⟨by omega, by omega⟩, key _ _ w1 w2⟩
      · refine ⟨c, e, i, i + 1, jn, jn + 1, hb1, hs1, rfl, rfl, rfl, rfl, by omega, by omega, by omega, by omega, ?_⟩
        have r1 : M1.1 (x + 1) ((i : Int) * 41 + (jn : Int) + 41 + 1) = w3 (LC (aln c e) (nl c) (nl e) (i + 1) (jn + 1) : Int) := Tab_get hT (i + 1) (jn + 1) _ (by omega) (by omega) (by omega) (by omega)
        have r2 : M1.1 (x + 1) ((i : Int) * 41 + (jn : Int) + 41) = w3 (LC (aln c e) (nl c) (nl e) (i + 1) jn : Int) := Tab_get hT (i + 1) jn _ (by omega) (by omega) (by omega) (by omega)
        have r3 : M1.1 (x + 1) ((i : Int) * 41 + (jn : Int) + 1) = w3 (LC (aln c e) (nl c) (nl e) i (jn + 1) : Int) := Tab_get hT i (jn + 1) _ (by omega) (by omega) (by omega) (by omega)
        have b1 := LC_le (aln c e) (nl c) (nl e) (i + 1) (jn + 1)
        have b2 := LC_le (aln c e) (nl c) (nl e) (i + 1) jn
        have b3 := LC_le (aln c e) (nl c) (nl e) i (jn + 1)
        simp only [jX2_mostMatched, kX2_mostMatched_0, kX2_mostMatched_1, fl_2_15, fl_2_11, x1, x2, x3, x4, e2, SJ9_max_7cf53, cn_iconst, cn_lconst0, cn_lconst1, cn_null, cn_iload, cn_aload, cn_lload, cn_lo1, cn_loa1, cn_loa2, cn_lol1, cn_get0, cn_gets, cn_put0, cn_puts, cn_istore, cn_astore, cn_astoreN, cn_lstore, cn_iinc, cn_in1, cn_iadd, cn_isub, cn_imul, cn_iand, cn_ior, cn_ixor, cn_ishl, cn_ishr, cn_iushr, cn_idiv, cn_irem, cn_ladd, cn_lmul, cn_ldiv, cn_lrem, cn_i2l, cn_l2i, cn_i2b, cn_lcmp, cn_dupi, cn_dupr, cn_dup2, cn_popi, cn_popr, cn_goto, cn_if_eq, cn_if_ne, cn_if_lt, cn_if_ge, cn_if_gt, cn_if_le, cn_ic_eq, cn_ic_ne, cn_ic_lt, cn_ic_ge, cn_ic_gt, cn_ic_le, cn_ifnullN, cn_ifnullR, cn_ifnonnullN, cn_ifnonnullR, cn_tswS, cn_tsw0, cn_tsw1, cn_lswS, cn_lsw0, cn_lsw1, cn_alen, cn_iaload, cn_laload, cn_rr1, cn_rr0, cn_aaload, cn_iastore, cn_lastore, cn_aastore, cn_getfield, cn_gf0, cn_gf1, cn_gf2, cn_gf3, cn_putfield, cn_pf0f, cn_pf1f, cn_pf2f, cn_pf3f, cn_pf0t, cn_pf1t, cn_pf2t, cn_pf3t, cn_new, cn_nw1, cn_newi, cn_newl, cn_anew, cn_an1, cn_inv_v, cn_inv_s, cn_inv_p, cn_ca1, cn_cb1, cn_pop0, cn_pops, cn_rk0, cn_rk1, cn_kcn, cn_kcs, cn_ireturn, cn_lreturn, cn_areturn, cn_return, cn_re0, cn_re1, cn_re2, cn_re3, cn_re4, cn_re5, cn_wp0, cn_wps, cn_m0, cn_m1, cn_e0, cn_en, cn_ei, cn_er, cn_eu, cn_el, cn_nl0, cn_nls, cn_nb0, cn_nb1, cn_nb2, cn_nb3, cn_bd0, cn_bds, cn_cwi, cn_cwr, cn_cwl, cn_cwn, cn_wi2, cn_wl1, cn_wl3, cn_wr1, cn_wr2, cn_wi_eq, cn_wl_eq, cb_0, cb_n0, cb_b, cm_okb0, cm_okb1, Classical.not_not, true_and, and_true, Nat.reduceAdd, Nat.reduceSub, Nat.reduceLT, Nat.reduceLeDiff, Int.reduceToNat, Int.reduceNatCast', Nat.zero_le, Nat.reduceEqDiff, false_or, or_false, or_true, true_or, Int.reduceNeg, reduceCtorEq, false_implies, implies_true, forall_const, true_implies, not_true_eq_false, not_false_eq_true, Nat.le_refl, ne_eq, if_true, if_false, ite_true, ite_false, List.cons_append, List.nil_append]
        simp (disch := omega) only [w3_add, w3_toInt, w3_ix, r1, r2, r3, w3_mx3]
        refine ⟨fun h5 => ⟨⟨by omega, by omega⟩, ⟨by omega, by omega⟩, ⟨by omega, by omega⟩, ?_⟩, fun h5 => ⟨⟨by omega, by omega⟩, ⟨by omega, by omega⟩, ?_⟩⟩
        · have h5 : ¬ aln c e i jn := h5
          obtain ⟨w1, w2⟩ := wr (w3 (max (LC (aln c e) (nl c) (nl e) (i + 1) jn : Int) (LC (aln c e) (nl c) (nl e) i (jn + 1) : Int))) (by rw [LC_f (by omega) (by omega) h5]; congr 1; omega)
          exact key _ _ w1 w2
        · have h5 : aln c e i jn := h5
          obtain ⟨w1, w2⟩ := wr (w3 ((LC (aln c e) (nl c) (nl e) (i + 1) (jn + 1) : Int) + 1)) (by rw [LC_t (by omega) (by omega) h5]; congr 1)
          exact key _ _ w1 w2
      · obtain ⟨w1, w2⟩ := wr (w3 0) (by rw [LC_e (Or.inr (by omega))]; rfl)
        exact ⟨⟨by omega, by omega⟩, key _ _ w1 w2⟩
set_option maxHeartbeats 4000000 in
theorem lX2_out (d : Nat) (hd : 1 ≤ d) {T : cm_T} {M : cm_M} {Φ : Option Value → cm_T → cm_M → Prop} {x b s : Nat} {c e : List Int32} (x1 : T.1 x = 3) (x2 : M.2.2 x 0 = some (x + 1)) (x3 : T.1 (x + 1) = 20) (x4 : T.2.1 (x + 1) = 1681) (hb : LLs T M b c) (hs : LLs T M s e) (n1 : nl c ≤ 40) (n2 : nl e ≤ 40) (ha : ap3m x b s)
    (hS : ∀ M1, Fr M M1 (x + 1) 1 → Tab M1 (x + 1) (aln c e) (nl c) (nl e) (-1) (nl e) → Φ (some (.int (w3 (LC (aln c e) (nl c) (nl e) 0 0 : Int)))) T M1) :
    ∀ (i : Int) (M1 : cm_M) (o6 o7 : Option Value), -1 ≤ i → i ≤ (nl c : Int) → Fr M M1 (x + 1) 1 → Tab M1 (x + 1) (aln c e) (nl c) (nl e) i (nl e) → cm_Go d cX2_mostMatched 8 0 0 JX2_mostMatched Φ 24 [some (.ref x), some (.ref b), some (.ref s), some (.int (w3 (nl c))), some (.int (w3 (nl e))), some (.int (w3 i)), o6, o7] [] (0, 0) T M1 := by
  intro i
  induction hf : (i + 1).toNat using Nat.strongRecOn generalizing i with
  | _ fu ih =>
    intro M1 o6 o7 i0 i1 hF hT
    have e2 : M1.2 = M.2 := hF.2
    refine cm_go hX2_mostMatched 200 oX2_mostMatched (eX2_mostMatched d hd) lX2_mostMatched_24 ?_
    simp only [jX2_mostMatched, kX2_mostMatched_0, kX2_mostMatched_1, fl_2_15, fl_2_11, x1, x2, x3, x4, e2, cn_iconst, cn_lconst0, cn_lconst1, cn_null, cn_iload, cn_aload, cn_lload, cn_lo1, cn_loa1, cn_loa2, cn_lol1, cn_get0, cn_gets, cn_put0, cn_puts, cn_istore, cn_astore, cn_astoreN, cn_lstore, cn_iinc, cn_in1, cn_iadd, cn_isub, cn_imul, cn_iand, cn_ior, cn_ixor, cn_ishl, cn_ishr, cn_iushr, cn_idiv, cn_irem, cn_ladd, cn_lmul, cn_ldiv, cn_lrem, cn_i2l, cn_l2i, cn_i2b, cn_lcmp, cn_dupi, cn_dupr, cn_dup2, cn_popi, cn_popr, cn_goto, cn_if_eq, cn_if_ne, cn_if_lt, cn_if_ge, cn_if_gt, cn_if_le, cn_ic_eq, cn_ic_ne, cn_ic_lt, cn_ic_ge, cn_ic_gt, cn_ic_le, cn_ifnullN, cn_ifnullR, cn_ifnonnullN, cn_ifnonnullR, cn_tswS, cn_tsw0, cn_tsw1, cn_lswS, cn_lsw0, cn_lsw1, cn_alen, cn_iaload, cn_laload, cn_rr1, cn_rr0, cn_aaload, cn_iastore, cn_lastore, cn_aastore, cn_getfield, cn_gf0, cn_gf1, cn_gf2, cn_gf3, cn_putfield, cn_pf0f, cn_pf1f, cn_pf2f, cn_pf3f, cn_pf0t, cn_pf1t, cn_pf2t, cn_pf3t, cn_new, cn_nw1, cn_newi, cn_newl, cn_anew, cn_an1, cn_inv_v, cn_inv_s, cn_inv_p, cn_ca1, cn_cb1, cn_pop0, cn_pops, cn_rk0, cn_rk1, cn_kcn, cn_kcs, cn_ireturn, cn_lreturn, cn_areturn, cn_return, cn_re0, cn_re1, cn_re2, cn_re3, cn_re4, cn_re5, cn_wp0, cn_wps, cn_m0, cn_m1, cn_e0, cn_en, cn_ei, cn_er, cn_eu, cn_el, cn_nl0, cn_nls, cn_nb0, cn_nb1, cn_nb2, cn_nb3, cn_bd0, cn_bds, cn_cwi, cn_cwr, cn_cwl, cn_cwn, cn_wi2, cn_wl1, cn_wl3, cn_wr1, cn_wr2, cn_wi_eq, cn_wl_eq, cb_0, cb_n0, cb_b, cm_okb0, cm_okb1, Classical.not_not, true_and, and_true, Nat.reduceAdd, Nat.reduceSub, Nat.reduceLT, Nat.reduceLeDiff, Int.reduceToNat, Int.reduceNatCast', Nat.zero_le, Nat.reduceEqDiff, false_or, or_false, or_true, true_or, Int.reduceNeg, reduceCtorEq, false_implies, implies_true, forall_const, true_implies, not_true_eq_false, not_false_eq_true, Nat.le_refl, ne_eq, if_true, if_false, ite_true, ite_false, List.cons_append, List.nil_append]
    simp (disch := omega) only [w3_le, w3_lt, w3_eq, w3_ix, w3_add, w3_sub, w3_mul, w3_toInt, w3_z]
    refine ⟨fun h => ⟨⟨by omega, by omega⟩, ?_⟩, fun h => ?_⟩
    · have r1 : M1.1 (x + 1) 0 = w3 (LC (aln c e) (nl c) (nl e) 0 0 : Int) := hT 0 0 (by omega) (by omega) (by omega)
      rw [r1]
      have ei : i = -1 := by omega
      subst ei
      exact hS M1 hF hT
    · obtain ⟨n, rfl⟩ : ∃ n : Nat, i = (n : Int) := ⟨i.toNat, by omega⟩
      exact lX2_in d hd x1 x2 x3 x4 hb hs n1 n2 ha n (by omega) (fun M2 o6 o7 F2 T2 => ih _ (show ((n : Int) - 1 + 1).toNat < fu by omega) ((n : Int) - 1) rfl M2 o6 o7 (by omega) (by omega) F2 T2) (nl e) M1 _ (by omega) (by omega) hF hT
set_option maxHeartbeats 4000000 in
theorem mX2_mostMatched (d : Nat) (hd : 1 ≤ d) : cm_Met d yX2_mostMatched cX2_mostMatched 8 (some .int) 0 0 SX2_mostMatched := by
  refine cm_meets (J := JX2_mostMatched) (by decide) rfl (fun h => by cases h) trivial ?_
  intro as T M Φ hS
  match as, hS with
  | [.ref x, .ref b, .ref s], ⟨c, e, x1, x2, x3, x4, hb, hs, n1, n2, ha, hS⟩ =>
    refine ⟨Nat.le_of_ble_eq_true rfl, ?_⟩
    have bt := hb.1.1
    have st := hs.1.1
    have zb := hb.sz
    have zs := hs.sz
    have m1 : (if w3 40 < w3 (nl c : Int) then w3 40 else w3 (nl c : Int)) = w3 (nl c : Int) := if_neg (by rw [w3_lt (by omega) (by omega) (by omega) (by omega)]; omega)
    have m2 : (if w3 40 < w3 (nl e : Int) then w3 40 else w3 (nl e : Int)) = w3 (nl e : Int) := if_neg (by rw [w3_lt (by omega) (by omega) (by omega) (by omega)]; omega)
    refine cm_go hX2_mostMatched 200 oX2_mostMatched (eX2_mostMatched d hd) lX2_mostMatched_0 ?_
    simp only [jX2_mostMatched, kX2_mostMatched_0, kX2_mostMatched_1, fl_2_15, fl_2_11, x1, x2, x3, x4, bt, st, zb, zs, SJ9_min_7cf53, m1, m2, cn_iconst, cn_lconst0, cn_lconst1, cn_null, cn_iload, cn_aload, cn_lload, cn_lo1, cn_loa1, cn_loa2, cn_lol1, cn_get0, cn_gets, cn_put0, cn_puts, cn_istore, cn_astore, cn_astoreN, cn_lstore, cn_iinc, cn_in1, cn_iadd, cn_isub, cn_imul, cn_iand, cn_ior, cn_ixor, cn_ishl, cn_ishr, cn_iushr, cn_idiv, cn_irem, cn_ladd, cn_lmul, cn_ldiv, cn_lrem, cn_i2l, cn_l2i, cn_i2b, cn_lcmp, cn_dupi, cn_dupr, cn_dup2, cn_popi, cn_popr, cn_goto, cn_if_eq, cn_if_ne, cn_if_lt, cn_if_ge, cn_if_gt, cn_if_le, cn_ic_eq, cn_ic_ne, cn_ic_lt, cn_ic_ge, cn_ic_gt, cn_ic_le, cn_ifnullN, cn_ifnullR, cn_ifnonnullN, cn_ifnonnullR, cn_tswS, cn_tsw0, cn_tsw1, cn_lswS, cn_lsw0, cn_lsw1, cn_alen, cn_iaload, cn_laload, cn_rr1, cn_rr0, cn_aaload, cn_iastore, cn_lastore, cn_aastore, cn_getfield, cn_gf0, cn_gf1, cn_gf2, cn_gf3, cn_putfield, cn_pf0f, cn_pf1f, cn_pf2f, cn_pf3f, cn_pf0t, cn_pf1t, cn_pf2t, cn_pf3t, cn_new, cn_nw1, cn_newi, cn_newl, cn_anew, cn_an1, cn_inv_v, cn_inv_s, cn_inv_p, cn_ca1, cn_cb1, cn_pop0, cn_pops, cn_rk0, cn_rk1, cn_kcn, cn_kcs, cn_ireturn, cn_lreturn, cn_areturn, cn_return, cn_re0, cn_re1, cn_re2, cn_re3, cn_re4, cn_re5, cn_wp0, cn_wps, cn_m0, cn_m1, cn_e0, cn_en, cn_ei, cn_er, cn_eu, cn_el, cn_nl0, cn_nls, cn_nb0, cn_nb1, cn_nb2, cn_nb3, cn_bd0, cn_bds, cn_cwi, cn_cwr, cn_cwl, cn_cwn, cn_wi2, cn_wl1, cn_wl3, cn_wr1, cn_wr2, cn_wi_eq, cn_wl_eq, cb_0, cb_n0, cb_b, cm_okb0, cm_okb1, Classical.not_not, true_and, and_true, Nat.reduceAdd, Nat.reduceSub, Nat.reduceLT, Nat.reduceLeDiff, Int.reduceToNat, Int.reduceNatCast', Nat.zero_le, Nat.reduceEqDiff, false_or, or_false, or_true, true_or, Int.reduceNeg, reduceCtorEq, false_implies, implies_true, forall_const, true_implies, not_true_eq_false, not_false_eq_true, Nat.le_refl, ne_eq, if_true, if_false, ite_true, ite_false, List.cons_append, List.nil_append]
    exact lX2_out d hd x1 x2 x3 x4 hb hs n1 n2 ha hS (nl c) M none none (by omega) (by omega) Fr.rf (fun p q hp hq h => by omega)
/-- with which line of the other one line k is matched, from (i, j) on (by how many are left); -9: none -/
noncomputable def pR (al : Nat → Nat → Prop) (m n : Nat) (k : Nat) : Nat → Nat → Int
  | 0, _ => -9
  | _ + 1, 0 => -9
  | a + 1, b + 1 => @ite Int (al (m - (a + 1)) (n - (b + 1))) (Classical.propDecidable _) (if k = m - (a + 1) then ((n - (b + 1) : Nat) : Int) else pR al m n k a b) (if lcR al m n a (b + 1) = lcR al m n (a + 1) (b + 1) then pR al m n k a (b + 1) else pR al m n k (a + 1) b)
termination_by a b => (a, b)
noncomputable def PA (al : Nat → Nat → Prop) (m n k i j : Nat) : Int := pR al m n k (m - i) (n - j)
theorem pR_0 (al : Nat → Nat → Prop) (m n k b : Nat) : pR al m n k 0 b = -9 := by rw [pR]
theorem pR_1 (al : Nat → Nat → Prop) (m n k a : Nat) : pR al m n k a 0 = -9 := by
  cases a <;> rw [pR]
theorem pR_2 (al : Nat → Nat → Prop) (m n k a b : Nat) : pR al m n k (a + 1) (b + 1) = @ite Int (al (m - (a + 1)) (n - (b + 1))) (Classical.propDecidable _) (if k = m - (a + 1) then ((n - (b + 1) : Nat) : Int) else pR al m n k a b) (if lcR al m n a (b + 1) = lcR al m n (a + 1) (b + 1) then pR al m n k a (b + 1) else pR al m n k (a + 1) b) := by rw [pR]
theorem PA_e {al : Nat → Nat → Prop} {m n k i j : Nat} (h : m ≤ i ∨ n ≤ j) : PA al m n k i j = -9 := by
  unfold PA
  rcases h with h | h
  · rw [show m - i = 0 by omega, pR_0]
  · rw [show n - j = 0 by omega, pR_1]
theorem PA_t {al : Nat → Nat → Prop} {m n k i j : Nat} (hi : i < m) (hj : j < n) (h : al i j) : PA al m n k i j = if k = i then (j : Int) else PA al m n k (i + 1) (j + 1) := by
  unfold PA
  rw [show m - i = (m - (i + 1)) + 1 by omega, show n - j = (n - (j + 1)) + 1 by omega, pR_2, show m - (m - (i + 1) + 1) = i by omega, show n - (n - (j + 1) + 1) = j by omega, if_pos h]
theorem PA_f {al : Nat → Nat → Prop} {m n k i j : Nat} (hi : i < m) (hj : j < n) (h : ¬ al i j) : PA al m n k i j = if LC al m n (i + 1) j = LC al m n i j then PA al m n k (i + 1) j else PA al m n k i (j + 1) := by
  unfold PA LC
  rw [show m - i = (m - (i + 1)) + 1 by omega, show n - j = (n - (j + 1)) + 1 by omega, pR_2, show m - (m - (i + 1) + 1) = i by omega, show n - (n - (j + 1) + 1) = j by omega, if_neg h]
theorem pR_k (al : Nat → Nat → Prop) (m n k : Nat) : ∀ a b : Nat, a ≤ m → k < m - a → pR al m n k a b = -9
  | 0, b, _, _ => pR_0 _ _ _ _ _
  | a + 1, 0, _, _ => pR_1 _ _ _ _ _
  | a + 1, b + 1, h0, h => by
    rw [pR_2, pR_k al m n k a b (by omega) (by omega), pR_k al m n k a (b + 1) (by omega) (by omega), pR_k al m n k (a + 1) b h0 h, if_neg (show ¬ k = m - (a + 1) by omega)]
    split <;> (first | rfl | (split <;> rfl))
termination_by a b => (a, b)
theorem PA_k {al : Nat → Nat → Prop} {m n k i j : Nat} (hi : i ≤ m) (h : k < i) : PA al m n k i j = -9 := pR_k al m n k _ _ (by omega) (by omega)
def ap3w (x b s w : Nat) : Prop := w ≠ x + 1 ∧ w ≠ x ∧ (w + 1 ≤ b ∨ b + 3 ≤ w) ∧ (w + 1 ≤ s ∨ s + 3 ≤ w)
def SX2_pair : cm_CT := fun as T M Φ => match as with
  | [.ref x, .ref b, .ref s, .ref w] => ∃ (c e : List Int32), T.1 x = 3 ∧ M.2.2 x 0 = some (x + 1) ∧ T.1 (x + 1) = 20 ∧ T.2.1 (x + 1) = 1681 ∧ LLs T M b c ∧ LLs T M s e ∧ nl c ≤ 40 ∧ nl e ≤ 40 ∧ T.1 w = 20 ∧ T.2.1 w = 40 ∧ ap3w x b s w ∧ Tab M (x + 1) (aln c e) (nl c) (nl e) (-1) (nl e) ∧ ∀ M1, Fr M M1 w 1 → (∀ k : Nat, k < 40 → M1.1 w (k : Int) = w3 (PA (aln c e) (nl c) (nl e) k 0 0)) → Φ none T M1
  | _ => False
def JX2_pair : cm_J := (2, false, 0, [(27, 6, 2, 0, 0, SX1_isRunLike)], [(34, 2, 0, 0, 0, SJ7_fill_53178), (21, 2, 0, 0, 0, SJ9_min_7cf53)], [])
theorem jX2_pair : JX2_pair.1 = 2 ∧ JX2_pair.2.1 = false ∧ JX2_pair.2.2.1 = 0 ∧ cm_gv JX2_pair 27 = some (6, 2, 0, 0, SX1_isRunLike) ∧ cm_gs JX2_pair 34 = some (2, 0, 0, 0, SJ7_fill_53178) ∧ cm_gs JX2_pair 21 = some (2, 0, 0, 0, SJ9_min_7cf53) := ⟨rfl, rfl, rfl, rfl, rfl, rfl⟩
theorem eX2_pair (d : Nat) (hd : 1 ≤ d) : cm_Cok d JX2_pair := ⟨(List.forall_mem_cons.mpr ⟨q2_27 (mX1_isRunLike (d - 1) (by omega)) (by omega), (fun q h => by cases h)⟩), (List.forall_mem_cons.mpr ⟨q2_34 (mJ7_fill_53178 (d - 1) (by omega)) (by omega), (List.forall_mem_cons.mpr ⟨(cm_calMn (cm_w 486 (by decide +kernel) rfl)), (fun q h => by cases h)⟩)⟩), (fun q h => by cases h)⟩
set_option maxHeartbeats 4000000 in
theorem lX2_pair (d : Nat) (hd : 1 ≤ d) {T : cm_T} {M : cm_M} {Φ : Option Value → cm_T → cm_M → Prop} {x b s w : Nat} {c e : List Int32} (x1 : T.1 x = 3) (x2 : M.2.2 x 0 = some (x + 1)) (x3 : T.1 (x + 1) = 20) (x4 : T.2.1 (x + 1) = 1681) (hb : LLs T M b c) (hs : LLs T M s e) (n1 : nl c ≤ 40) (n2 : nl e ≤ 40) (y1 : T.1 w = 20) (y2 : T.2.1 w = 40) (ha : ap3w x b s w) (hT : Tab M (x + 1) (aln c e) (nl c) (nl e) (-1) (nl e))
    (hS : ∀ M1, Fr M M1 w 1 → (∀ k : Nat, k < 40 → M1.1 w (k : Int) = w3 (PA (aln c e) (nl c) (nl e) k 0 0)) → Φ none T M1) :
    ∀ (f i j : Nat) (M1 : cm_M) (o8 : Option Value), (nl c - i) + (nl e - j) = f → i ≤ nl c → j ≤ nl e → Fr M M1 w 1 → (∀ k : Nat, k < 40 → i ≤ k → M1.1 w (k : Int) = w3 (-9)) → (∀ k : Nat, k < i → M1.1 w (k : Int) = w3 (PA (aln c e) (nl c) (nl e) k 0 0)) → (∀ k : Nat, i ≤ k → PA (aln c e) (nl c) (nl e) k i j = PA (aln c e) (nl c) (nl e) k 0 0) →
      cm_Go d cX2_pair 9 0 0 JX2_pair Φ 34 [some (.ref x), some (.ref b), some (.ref s), some (.ref w), some (.int (w3 (nl c))), some (.int (w3 (nl e))), some (.int (w3 i)), some (.int (w3 j)), o8] [] (0, 0) T M1 := by
  intro f
  induction f using Nat.strongRecOn with
  | _ fu ih =>
    intro i j M1 o8 hf i1 j1 hF h9 hd1 hr
    unfold ap3w at ha
    have e2 : M1.2 = M.2 := hF.2
    have hb1 := hb.frame hF (by omega)
    have hs1 := hs.frame hF (by omega)
    have bt := hb.1.1
    have st := hs.1.1
    have tb : ∀ z : Int, M1.1 (x + 1) z = M.1 (x + 1) z := fun z => by rw [hF.1 _ (by omega)]
    refine cm_go hX2_pair 200 oX2_pair (eX2_pair d hd) lX2_pair_34 ?_
    simp only [jX2_pair, kX2_pair_0, kX2_pair_1, fl_2_15, fl_2_11, x1, x2, x3, x4, e2, bt, st, y1, y2, cn_iconst, cn_lconst0, cn_lconst1, cn_null, cn_iload, cn_aload, cn_lload, cn_lo1, cn_loa1, cn_loa2, cn_lol1, cn_get0, cn_gets, cn_put0, cn_puts, cn_istore, cn_astore, cn_astoreN, cn_lstore, cn_iinc, cn_in1, cn_iadd, cn_isub, cn_imul, cn_iand, cn_ior, cn_ixor, cn_ishl, cn_ishr, cn_iushr, cn_idiv, cn_irem, cn_ladd, cn_lmul, cn_ldiv, cn_lrem, cn_i2l, cn_l2i, cn_i2b, cn_lcmp, cn_dupi, cn_dupr, cn_dup2, cn_popi, cn_popr, cn_goto, cn_if_eq, cn_if_ne, cn_if_lt, cn_if_ge, cn_if_gt, cn_if_le, cn_ic_eq, cn_ic_ne, cn_ic_lt, cn_ic_ge, cn_ic_gt, cn_ic_le, cn_ifnullN, cn_ifnullR, cn_ifnonnullN, cn_ifnonnullR, cn_tswS, cn_tsw0, cn_tsw1, cn_lswS, cn_lsw0, cn_lsw1, cn_alen, cn_iaload, cn_laload, cn_rr1, cn_rr0, cn_aaload, cn_iastore, cn_lastore, cn_aastore, cn_getfield, cn_gf0, cn_gf1, cn_gf2, cn_gf3, cn_putfield, cn_pf0f, cn_pf1f, cn_pf2f, cn_pf3f, cn_pf0t, cn_pf1t, cn_pf2t, cn_pf3t, cn_new, cn_nw1, cn_newi, cn_newl, cn_anew, cn_an1, cn_inv_v, cn_inv_s, cn_inv_p, cn_ca1, cn_cb1, cn_pop0, cn_pops, cn_rk0, cn_rk1, cn_kcn, cn_kcs, cn_ireturn, cn_lreturn, cn_areturn, cn_return, cn_re0, cn_re1, cn_re2, cn_re3, cn_re4, cn_re5, cn_wp0, cn_wps, cn_m0, cn_m1, cn_e0, cn_en, cn_ei, cn_er, cn_eu, cn_el, cn_nl0, cn_nls, cn_nb0, cn_nb1, cn_nb2, cn_nb3, cn_bd0, cn_bds, cn_cwi, cn_cwr, cn_cwl, cn_cwn, cn_wi2, cn_wl1, cn_wl3, cn_wr1, cn_wr2, cn_wi_eq, cn_wl_eq, cb_0, cb_n0, cb_b, cm_okb0, cm_okb1, Classical.not_not, true_and, and_true, Nat.reduceAdd, Nat.reduceSub, Nat.reduceLT, Nat.reduceLeDiff, Int.reduceToNat, Int.reduceNatCast', Nat.zero_le, Nat.reduceEqDiff, false_or, or_false, or_true, true_or, Int.reduceNeg, reduceCtorEq, false_implies, implies_true, forall_const, true_implies, not_true_eq_false, not_false_eq_true, Nat.le_refl, ne_eq, if_true, if_false, ite_true, ite_false, List.cons_append, List.nil_append]
    simp (disch := omega) only [w3_le, w3_lt, w3_eq, w3_ix, w3_add, w3_sub, w3_mul, w3_toInt, w3_z]
    have fin : nl c ≤ i ∨ nl e ≤ j → Φ none T M1 := fun q => hS M1 hF (fun k hk => by
      rcases Nat.lt_or_ge k i with g | g
      · exact hd1 k g
      · rw [h9 k hk g, ← hr k g, PA_e q])
    refine ⟨fun h => fin (Or.inl (by omega)), fun h => ⟨fun h2 => fin (Or.inr (by omega)), fun h2 => ⟨c, e, i, i + 1, j, j + 1, hb1, hs1, rfl, rfl, rfl, rfl, by omega, by omega, by omega, by omega, ?_⟩⟩⟩
    have r2 : M.1 (x + 1) ((i : Int) * 41 + (j : Int) + 41) = w3 (LC (aln c e) (nl c) (nl e) (i + 1) j : Int) := Tab_get hT (i + 1) j _ (by omega) (by omega) (by omega) (by omega)
    have r3 : M.1 (x + 1) ((i : Int) * 41 + (j : Int)) = w3 (LC (aln c e) (nl c) (nl e) i j : Int) := Tab_get hT i j _ (by omega) (by omega) (by omega) rfl
    have b2 := LC_le (aln c e) (nl c) (nl e) (i + 1) j
    have b3 := LC_le (aln c e) (nl c) (nl e) i j
    simp only [jX2_pair, kX2_pair_0, kX2_pair_1, fl_2_15, fl_2_11, x1, x2, x3, x4, e2, y1, y2, tb, cn_iconst, cn_lconst0, cn_lconst1, cn_null, cn_iload, cn_aload, cn_lload, cn_lo1, cn_loa1, cn_loa2, cn_lol1, cn_get0, cn_gets, cn_put0, cn_puts, cn_istore, cn_astore, cn_astoreN, cn_lstore, cn_iinc, cn_in1, cn_iadd, cn_isub, cn_imul, cn_iand, cn_ior, cn_ixor, cn_ishl, cn_ishr, cn_iushr, cn_idiv, cn_irem, cn_ladd, cn_lmul, cn_ldiv, cn_lrem, cn_i2l, cn_l2i, cn_i2b, cn_lcmp, cn_dupi, cn_dupr, cn_dup2, cn_popi, cn_popr, cn_goto, cn_if_eq, cn_if_ne, cn_if_lt, cn_if_ge, cn_if_gt, cn_if_le, cn_ic_eq, cn_ic_ne, cn_ic_lt, cn_ic_ge, cn_ic_gt, cn_ic_le, cn_ifnullN, cn_ifnullR, cn_ifnonnullN, cn_ifnonnullR, cn_tswS, cn_tsw0, cn_tsw1, cn_lswS, cn_lsw0, cn_lsw1, cn_alen, cn_iaload, cn_laload, cn_rr1, cn_rr0, cn_aaload, cn_iastore, cn_lastore, cn_aastore, cn_getfield, cn_gf0, cn_gf1, cn_gf2, cn_gf3, cn_putfield, cn_pf0f, cn_pf1f, cn_pf2f, cn_pf3f, cn_pf0t, cn_pf1t, cn_pf2t, cn_pf3t, cn_new, cn_nw1, cn_newi, cn_newl, cn_anew, cn_an1, cn_inv_v, cn_inv_s, cn_inv_p, cn_ca1, cn_cb1, cn_pop0, cn_pops, cn_rk0, cn_rk1, cn_kcn, cn_kcs, cn_ireturn, cn_lreturn, cn_areturn, cn_return, cn_re0, cn_re1, cn_re2, cn_re3, cn_re4, cn_re5, cn_wp0, cn_wps, cn_m0, cn_m1, cn_e0, cn_en, cn_ei, cn_er, cn_eu, cn_el, cn_nl0, cn_nls, cn_nb0, cn_nb1, cn_nb2, cn_nb3, cn_bd0, cn_bds, cn_cwi, cn_cwr, cn_cwl, cn_cwn, cn_wi2, cn_wl1, cn_wl3, cn_wr1, cn_wr2, cn_wi_eq, cn_wl_eq, cb_0, cb_n0, cb_b, cm_okb0, cm_okb1, Classical.not_not, true_and, and_true, Nat.reduceAdd, Nat.reduceSub, Nat.reduceLT, Nat.reduceLeDiff, Int.reduceToNat, Int.reduceNatCast', Nat.zero_le, Nat.reduceEqDiff, false_or, or_false, or_true, true_or, Int.reduceNeg, reduceCtorEq, false_implies, implies_true, forall_const, true_implies, not_true_eq_false, not_false_eq_true, Nat.le_refl, ne_eq, if_true, if_false, ite_true, ite_false, List.cons_append, List.nil_append]
    simp (disch := omega) only [w3_add, w3_toInt, w3_ix, r2, r3, w3_eq]
    refine ⟨fun h5 => ⟨⟨by omega, by omega⟩, ⟨by omega, by omega⟩, fun h6 => ?_, fun h6 => ?_⟩, fun h5 => ⟨⟨by omega, by omega⟩, ?_⟩⟩
    · have h5 : ¬ aln c e i j := h5
      have hne : ¬ LC (aln c e) (nl c) (nl e) (i + 1) j = LC (aln c e) (nl c) (nl e) i j := by omega
      exact ih _ (show nl c - i + (nl e - (j + 1)) < fu by omega) i (j + 1) M1 _ rfl i1 (by omega) hF h9 hd1 (fun k hk => by rw [← hr k hk, PA_f (by omega) (by omega) h5, if_neg hne])
    · have h5 : ¬ aln c e i j := h5
      have heq : LC (aln c e) (nl c) (nl e) (i + 1) j = LC (aln c e) (nl c) (nl e) i j := by omega
      refine ih _ (show nl c - (i + 1) + (nl e - j) < fu by omega) (i + 1) j M1 _ rfl (by omega) j1 hF (fun k hk g => h9 k hk (by omega)) (fun k hk => ?_) (fun k hk => by rw [← hr k (by omega), PA_f (by omega) (by omega) h5, if_pos heq])
      by_cases g : k = i
      · subst g
        rw [h9 k (by omega) (Nat.le_refl _), ← hr k (Nat.le_refl _), PA_f (by omega) (by omega) h5, if_pos heq, PA_k (by omega) (by omega)]
      · exact hd1 k (by omega)
    · have h5 : aln c e i j := h5
      refine ih _ (show nl c - (i + 1) + (nl e - (j + 1)) < fu by omega) (i + 1) (j + 1) (cm_wi M1 w (i : Int) (w3 (j : Int))) _ rfl (by omega) (by omega) (hF.trans (Fr.wi (by omega) (by omega))) (fun k hk g => by rw [cn_wi_ne (Or.inr (by omega))]; exact h9 k hk (by omega)) (fun k hk => ?_) (fun k hk => by rw [← hr k (by omega), PA_t (by omega) (by omega) h5, if_neg (by omega)])
      by_cases g : k = i
      · subst g
        rw [cn_wi_eq, ← hr k (Nat.le_refl _), PA_t (by omega) (by omega) h5, if_pos rfl]
      · rw [cn_wi_ne (Or.inr (by omega))]
        exact hd1 k (by omega)
set_option maxHeartbeats 4000000 in
theorem mX2_pair (d : Nat) (hd : 1 ≤ d) : cm_Met d yX2_pair cX2_pair 9 none 0 0 SX2_pair := by
  refine cm_meets (J := JX2_pair) (by decide) rfl (fun h => by cases h) trivial ?_
  intro as T M Φ hS
  match as, hS with
  | [.ref x, .ref b, .ref s, .ref w], ⟨c, e, x1, x2, x3, x4, hb, hs, n1, n2, y1, y2, ha, hT, hS⟩ =>
    refine ⟨Nat.le_of_ble_eq_true rfl, ?_⟩
    have ha' : ap3w x b s w := ha
    unfold ap3w at ha'
    have F0 : Fr M (mFill M w 40 (w3 (-9))) w 1 := ⟨fun q hq => funext fun j => mFill_ne (Or.inl (by omega)), rfl⟩
    have hb1 := hb.frame F0 (by omega)
    have hs1 := hs.frame F0 (by omega)
    have bt := hb.1.1
    have st := hs.1.1
    have zb := hb1.sz
    have zs := hs1.sz
    have m1 : (if w3 40 < w3 (nl c : Int) then w3 40 else w3 (nl c : Int)) = w3 (nl c : Int) := if_neg (by rw [w3_lt (by omega) (by omega) (by omega) (by omega)]; omega)
    have m2 : (if w3 40 < w3 (nl e : Int) then w3 40 else w3 (nl e : Int)) = w3 (nl e : Int) := if_neg (by rw [w3_lt (by omega) (by omega) (by omega) (by omega)]; omega)
    have y3 : ((T.2.1 w : Nat) : Int) = 40 := by rw [y2]; rfl
    have y4 : T.2.1 w ≤ 100000 := by omega
    refine cm_go hX2_pair 200 oX2_pair (eX2_pair d hd) lX2_pair_0 ?_
    simp only [jX2_pair, kX2_pair_0, kX2_pair_1, fl_2_15, fl_2_11, x1, x2, x3, x4, bt, st, SJ7_fill_53178, y1, y3, y4, zb, zs, SJ9_min_7cf53, m1, m2, cn_iconst, cn_lconst0, cn_lconst1, cn_null, cn_iload, cn_aload, cn_lload, cn_lo1, cn_loa1, cn_loa2, cn_lol1, cn_get0, cn_gets, cn_put0, cn_puts, cn_istore, cn_astore, cn_astoreN, cn_lstore, cn_iinc, cn_in1, cn_iadd, cn_isub, cn_imul, cn_iand, cn_ior, cn_ixor, cn_ishl, cn_ishr, cn_iushr, cn_idiv, cn_irem, cn_ladd, cn_lmul, cn_ldiv, cn_lrem, cn_i2l, cn_l2i, cn_i2b, cn_lcmp, cn_dupi, cn_dupr, cn_dup2, cn_popi, cn_popr, cn_goto, cn_if_eq, cn_if_ne, cn_if_lt, cn_if_ge, cn_if_gt, cn_if_le, cn_ic_eq, cn_ic_ne, cn_ic_lt, cn_ic_ge, cn_ic_gt, cn_ic_le, cn_ifnullN, cn_ifnullR, cn_ifnonnullN, cn_ifnonnullR, cn_tswS, cn_tsw0, cn_tsw1, cn_lswS, cn_lsw0, cn_lsw1, cn_alen, cn_iaload, cn_laload, cn_rr1, cn_rr0, cn_aaload, cn_iastore, cn_lastore, cn_aastore, cn_getfield, cn_gf0, cn_gf1, cn_gf2, cn_gf3, cn_putfield, cn_pf0f, cn_pf1f, cn_pf2f, cn_pf3f, cn_pf0t, cn_pf1t, cn_pf2t, cn_pf3t, cn_new, cn_nw1, cn_newi, cn_newl, cn_anew, cn_an1, cn_inv_v, cn_inv_s, cn_inv_p, cn_ca1, cn_cb1, cn_pop0, cn_pops, cn_rk0, cn_rk1, cn_kcn, cn_kcs, cn_ireturn, cn_lreturn, cn_areturn, cn_return, cn_re0, cn_re1, cn_re2, cn_re3, cn_re4, cn_re5, cn_wp0, cn_wps, cn_m0, cn_m1, cn_e0, cn_en, cn_ei, cn_er, cn_eu, cn_el, cn_nl0, cn_nls, cn_nb0, cn_nb1, cn_nb2, cn_nb3, cn_bd0, cn_bds, cn_cwi, cn_cwr, cn_cwl, cn_cwn, cn_wi2, cn_wl1, cn_wl3, cn_wr1, cn_wr2, cn_wi_eq, cn_wl_eq, cb_0, cb_n0, cb_b, cm_okb0, cm_okb1, Classical.not_not, true_and, and_true, Nat.reduceAdd, Nat.reduceSub, Nat.reduceLT, Nat.reduceLeDiff, Int.reduceToNat, Int.reduceNatCast', Nat.zero_le, Nat.reduceEqDiff, false_or, or_false, or_true, true_or, Int.reduceNeg, reduceCtorEq, false_implies, implies_true, forall_const, true_implies, not_true_eq_false, not_false_eq_true, Nat.le_refl, ne_eq, if_true, if_false, ite_true, ite_false, List.cons_append, List.nil_append]
    exact lX2_pair d hd x1 x2 x3 x4 hb hs n1 n2 y1 y2 ha hT hS _ 0 0 _ none rfl (Nat.zero_le _) (Nat.zero_le _) F0 (fun k hk _ => mFill_in (by omega) (by omega)) (fun k hk => by omega) (fun k _ => rfl)

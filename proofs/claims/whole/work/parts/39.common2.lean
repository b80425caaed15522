theorem smv : ∀ v : Fin 16, ((w3 ((v.val : Nat) : Int) &&& 31).toBitVec.smod 32) = BitVec.ofNat 32 v.val := by decide
theorem btv : ∀ v : Fin 16, (bt v.val).toBitVec.toNat = 2 ^ v.val := by decide
theorem hb_bit {x : Int32} {v : Nat} (h : v < 16) : (x >>> (w3 (v : Int) &&& 31) &&& w3 1 = 0) ↔ x.toBitVec.getLsbD v = false := by
  rw [← Int32.toBitVec_inj, Int32.toBitVec_and, Int32.toBitVec_shiftRight]
  have e : ((w3 (v : Int) &&& 31).toBitVec.smod 32) = BitVec.ofNat 32 v := smv ⟨v, h⟩
  rw [e]
  have e1 : (w3 1).toBitVec = 1#32 := rfl
  have e0 : (0 : Int32).toBitVec = 0#32 := rfl
  rw [e1, e0, BitVec.and_one_eq_setWidth_ofBool_getLsbD, BitVec.sshiftRight_eq', BitVec.getLsbD_sshiftRight]
  have e2 : (BitVec.ofNat 32 v).toNat = v := by rw [BitVec.toNat_ofNat]; omega
  rw [e2, Nat.add_zero, if_pos (by omega)]
  cases x.toBitVec.getLsbD v <;> decide
theorem anc_lt (B : Bk) : ∀ u : Nat, u < 16 → (anc B u).toBitVec.toNat < 2 ^ (u + 1) := by
  intro u
  induction u using Nat.strongRecOn with
  | _ u ih =>
    intro h
    have key : ∀ f : Int, (ancOf B u f).toBitVec.toNat < 2 ^ (u + 1) := by
      intro f
      unfold ancOf
      by_cases q : 0 ≤ f ∧ f < (u : Int)
      · rw [if_pos q]
        exact Nat.lt_of_lt_of_le (ih f.toNat (by omega) (by omega)) (Nat.pow_le_pow_right (by decide) (by omega))
      · rw [if_neg q]
        exact Nat.two_pow_pos _
    have hb : (bt u).toBitVec.toNat < 2 ^ (u + 1) := by
      rw [show (bt u).toBitVec.toNat = 2 ^ u from btv ⟨u, h⟩]
      exact Nat.pow_lt_pow_right (by decide) (by omega)
    rw [anc_eq, Int32.toBitVec_or, Int32.toBitVec_or, BitVec.toNat_or, BitVec.toNat_or]
    exact Nat.or_lt_two_pow (Nat.or_lt_two_pow hb (key _)) (key _)
theorem nrB_lt {B : Bk} {a b : Int} (h : B.1 ≤ 16) : (nrB B a b).toBitVec.toNat < 2 ^ B.1 := by
  unfold nrB
  split
  · rename_i q
    rw [Int32.toBitVec_and, Int32.toBitVec_and, BitVec.toNat_and, BitVec.toNat_and]
    refine Nat.lt_of_le_of_lt Nat.and_le_left (Nat.lt_of_le_of_lt Nat.and_le_left ?_)
    exact Nat.lt_of_lt_of_le (anc_lt B a.toNat (by omega)) (Nat.pow_le_pow_right (by decide) (by omega))
  · exact Nat.two_pow_pos _
theorem nrB_no {B : Bk} {a b : Int} (h : B.1 ≤ 16) (v : Nat) (hv : B.1 ≤ v) (h16 : v < 16) : nrB B a b >>> (w3 (v : Int) &&& 31) &&& w3 1 = 0 := by
  rw [hb_bit h16]
  rw [← BitVec.testBit_toNat]
  exact Nat.testBit_lt_two_pow (Nat.lt_of_lt_of_le (nrB_lt h) (Nat.pow_le_pow_right (by decide) hv))
set_option maxHeartbeats 8000000 in
theorem mCom : ∀ (k d : Nat), k + 5 ≤ d → cm_Met d yX6_commonOf cX6_commonOf 10 (some (.object "CrissMerger$Tree")) 0 0 (SC k) := by
  intro k
  induction k with
  | zero =>
    intro d hd
    refine cm_meets (J := JC SF0) (by decide) rfl (fun h => by cases h) trivial ?_
    intro as T M Φ hS
    match as, hS with
    | [.ref β, .ref g, .int a, .int b, .int e], ⟨h16, hC, he, hS⟩ =>
      refine ⟨Nat.le_of_ble_eq_true rfl, ?_⟩
      subst he
      have hE := eC d (by omega) (mSF0 (d - 1))
      refine cm_go hX6_commonOf 200 oX6_commonOf hE lX6_commonOf_0 ?_
      simp only [jC, kX6_commonOf_0, kX6_commonOf_1, fl_6_154, fl_6_321, Int.sub_zero, cn_iconst, cn_lconst0, cn_lconst1, cn_null, cn_iload, cn_aload, cn_lload, cn_lo1, cn_loa1, cn_loa2, cn_lol1, cn_get0, cn_gets, cn_put0, cn_puts, cn_istore, cn_astore, cn_astoreN, cn_lstore, cn_iinc, cn_in1, cn_iadd, cn_isub, cn_imul, cn_iand, cn_ior, cn_ixor, cn_ishl, cn_ishr, cn_iushr, cn_idiv, cn_irem, cn_ladd, cn_lmul, cn_ldiv, cn_lrem, cn_i2l, cn_l2i, cn_i2b, cn_lcmp, cn_dupi, cn_dupr, cn_dup2, cn_popi, cn_popr, cn_goto, cn_if_eq, cn_if_ne, cn_if_lt, cn_if_ge, cn_if_gt, cn_if_le, cn_ic_eq, cn_ic_ne, cn_ic_lt, cn_ic_ge, cn_ic_gt, cn_ic_le, cn_ifnullN, cn_ifnullR, cn_ifnonnullN, cn_ifnonnullR, cn_tswS, cn_tsw0, cn_tsw1, cn_lswS, cn_lsw0, cn_lsw1, cn_alen, cn_iaload, cn_laload, cn_rr1, cn_rr0, cn_aaload, cn_iastore, cn_lastore, cn_aastore, cn_getfield, cn_gf0, cn_gf1, cn_gf2, cn_gf3, cn_putfield, cn_pf0f, cn_pf1f, cn_pf2f, cn_pf3f, cn_pf0t, cn_pf1t, cn_pf2t, cn_pf3t, cn_new, cn_nw1, cn_newi, cn_newl, cn_anew, cn_an1, cn_inv_v, cn_inv_s, cn_inv_p, cn_ca1, cn_cb1, cn_pop0, cn_pops, cn_rk0, cn_rk1, cn_kcn, cn_kcs, cn_ireturn, cn_lreturn, cn_areturn, cn_return, cn_re0, cn_re1, cn_re2, cn_re3, cn_re4, cn_re5, cn_wp0, cn_wps, cn_m0, cn_m1, cn_e0, cn_en, cn_ei, cn_er, cn_eu, cn_el, cn_nl0, cn_nls, cn_nb0, cn_nb1, cn_nb2, cn_nb3, cn_bd0, cn_bds, cn_cwi, cn_cwr, cn_cwl, cn_cwn, cn_wi2, cn_wl1, cn_wl3, cn_wr1, cn_wr2, cn_wi_eq, cn_wl_eq, cb_0, cb_n0, cb_b, cm_okb0, cm_okb1, Classical.not_not, true_and, and_true, Nat.reduceAdd, Nat.reduceSub, Nat.reduceLT, Nat.reduceLeDiff, Int.reduceToNat, Int.reduceNatCast', Nat.zero_le, Nat.reduceEqDiff, false_or, or_false, or_true, true_or, Int.reduceNeg, reduceCtorEq, false_implies, implies_true, forall_const, true_implies, not_true_eq_false, not_false_eq_true, Nat.le_refl, ne_eq, if_true, if_false, ite_true, ite_false, List.cons_append, List.nil_append]
      simp (disch := omega) only [w3_le, w3_lt, w3_eq, w3_ix, w3_add, w3_sub, w3_mul, w3_toInt, w3_z, Int.reduceEq, Int.reduceLT, Int.reduceLE, Int.reduceAdd, Int.reduceSub, Int.reduceMul, Int.le_refl, Int.lt_irrefl, not_true_eq_false, not_false_eq_true, true_implies, false_implies, implies_true, and_true, true_and, and_self, ne_eq, Classical.not_not]
      have := (hS M Fr.rf hC (fun _ _ => rfl)).1 rfl
      exact this
  | succ k ih =>
    intro d hd
    refine cm_meets (J := JC (SC k)) (by decide) rfl (fun h => by cases h) trivial ?_
    intro as T M Φ hS
    match as, hS with
    | [.ref β, .ref g, .int a, .int b, .int e], ⟨h16, hC, he, hS⟩ =>
      refine ⟨Nat.le_of_ble_eq_true rfl, ?_⟩
      subst he
      have hE := eC d (by omega) (ih (d - 1) (by omega))
      have hB := hC.2.1
      have K0 := hB.1.1
      have hn := hB.n
      refine cm_go hX6_commonOf 200 oX6_commonOf hE lX6_commonOf_0 ?_
      simp only [jC, kX6_commonOf_0, kX6_commonOf_1, fl_6_154, fl_6_321, SX0_nearestOf, hB, K0, cn_iconst, cn_lconst0, cn_lconst1, cn_null, cn_iload, cn_aload, cn_lload, cn_lo1, cn_loa1, cn_loa2, cn_lol1, cn_get0, cn_gets, cn_put0, cn_puts, cn_istore, cn_astore, cn_astoreN, cn_lstore, cn_iinc, cn_in1, cn_iadd, cn_isub, cn_imul, cn_iand, cn_ior, cn_ixor, cn_ishl, cn_ishr, cn_iushr, cn_idiv, cn_irem, cn_ladd, cn_lmul, cn_ldiv, cn_lrem, cn_i2l, cn_l2i, cn_i2b, cn_lcmp, cn_dupi, cn_dupr, cn_dup2, cn_popi, cn_popr, cn_goto, cn_if_eq, cn_if_ne, cn_if_lt, cn_if_ge, cn_if_gt, cn_if_le, cn_ic_eq, cn_ic_ne, cn_ic_lt, cn_ic_ge, cn_ic_gt, cn_ic_le, cn_ifnullN, cn_ifnullR, cn_ifnonnullN, cn_ifnonnullR, cn_tswS, cn_tsw0, cn_tsw1, cn_lswS, cn_lsw0, cn_lsw1, cn_alen, cn_iaload, cn_laload, cn_rr1, cn_rr0, cn_aaload, cn_iastore, cn_lastore, cn_aastore, cn_getfield, cn_gf0, cn_gf1, cn_gf2, cn_gf3, cn_putfield, cn_pf0f, cn_pf1f, cn_pf2f, cn_pf3f, cn_pf0t, cn_pf1t, cn_pf2t, cn_pf3t, cn_new, cn_nw1, cn_newi, cn_newl, cn_anew, cn_an1, cn_inv_v, cn_inv_s, cn_inv_p, cn_ca1, cn_cb1, cn_pop0, cn_pops, cn_rk0, cn_rk1, cn_kcn, cn_kcs, cn_ireturn, cn_lreturn, cn_areturn, cn_return, cn_re0, cn_re1, cn_re2, cn_re3, cn_re4, cn_re5, cn_wp0, cn_wps, cn_m0, cn_m1, cn_e0, cn_en, cn_ei, cn_er, cn_eu, cn_el, cn_nl0, cn_nls, cn_nb0, cn_nb1, cn_nb2, cn_nb3, cn_bd0, cn_bds, cn_cwi, cn_cwr, cn_cwl, cn_cwn, cn_wi2, cn_wl1, cn_wl3, cn_wr1, cn_wr2, cn_wi_eq, cn_wl_eq, cb_0, cb_n0, cb_b, cm_okb0, cm_okb1, Classical.not_not, true_and, and_true, Nat.reduceAdd, Nat.reduceSub, Nat.reduceLT, Nat.reduceLeDiff, Int.reduceToNat, Int.reduceNatCast', Nat.zero_le, Nat.reduceEqDiff, false_or, or_false, or_true, true_or, Int.reduceNeg, reduceCtorEq, false_implies, implies_true, forall_const, true_implies, not_true_eq_false, not_false_eq_true, Nat.le_refl, ne_eq, if_true, if_false, ite_true, ite_false, List.cons_append, List.nil_append]
      simp (disch := omega) only [w3_le, w3_lt, w3_eq, w3_ix, w3_add, w3_sub, w3_mul, w3_toInt, w3_z, Int.reduceEq, Int.reduceLT, Int.reduceLE, Int.reduceAdd, Int.reduceSub, Int.reduceMul, Int.le_refl, Int.lt_irrefl, not_true_eq_false, not_false_eq_true, true_implies, false_implies, implies_true, and_true, true_and, and_self, ne_eq, Classical.not_not]
      refine ⟨fun q => by omega, fun _ => ⟨fun _ => ?_, fun q => by omega⟩⟩
      refine lC k d h16 hE rfl hC (fun v h1 h2 => nrB_no hn.2 v h1 h2) (fun M1 F1 C1 l1 => ⟨fun c la hc t t1 t2 t3 t4 => ?_, fun hno => ?_⟩) 16 0 M (w3 (-9)) .null none none rfl Fr.rf hC (fun _ _ => rfl) (by rw [show (w3 (-9)).toInt = -9 by decide, cmL]) (fun _ => rfl) (fun X hX => by cases hX)
      · refine (hS M1 F1 C1 l1).2 c t ?_ t1 t2 t3 (by omega) t4
        unfold cmn
        rw [hc]
      · refine (hS M1 F1 C1 l1).1 ?_
        unfold cmn
        split
        · rename_i X la h
          exact absurd h (hno X la)
        · rfl

theorem kL_18x : cm_cd tL_18 [] 1474 = none := rfl
theorem lL_1474 : tL_1468.lookup 1474 = some (.iconst 1, 1) := rfl
set_option maxHeartbeats 4000000 in
theorem aL_1468 (d : Nat) (hd : 40 ≤ d) {T : cm_T} {M : cm_M} {ρ : Option Value → cm_T → cm_M → Prop} {b x m i : Nat} {B : Nat × Nat} (hK : cm_Go d cL_law 4 600000 7302250 JL ρ 18 [some (.ref b), some (.ref x), some (.ref m), some (.int (w3 ((i + 6 : Nat) : Int)))] [] B T M) : cm_Go d cL_law 4 600000 7302250 JL ρ 1468 [some (.ref b), some (.ref x), some (.ref m), some (.int (w3 (i : Int)))] [] B T M := by
  have e : ((i + 6 : Nat) : Int) = (i : Int) + 6 := by omega
  rw [e] at hK
  refine cm_go [] 100 oL_1468 (eL d hd) lL_1468 ?_
  simp (disch := omega) only [jL0, kL_1468, cn_iconst, cn_lconst0, cn_lconst1, cn_null, cn_iload, cn_aload, cn_lload, cn_lo1, cn_loa1, cn_loa2, cn_lol1, cn_get0, cn_gets, cn_put0, cn_puts, cn_istore, cn_astore, cn_astoreN, cn_lstore, cn_iinc, cn_in1, cn_iadd, cn_isub, cn_imul, cn_iand, cn_ior, cn_ixor, cn_ishl, cn_ishr, cn_iushr, cn_idiv, cn_irem, cn_ladd, cn_lmul, cn_ldiv, cn_lrem, cn_i2l, cn_l2i, cn_i2b, cn_lcmp, cn_dupi, cn_dupr, cn_dup2, cn_popi, cn_popr, cn_goto, cn_if_eq, cn_if_ne, cn_if_lt, cn_if_ge, cn_if_gt, cn_if_le, cn_ic_eq, cn_ic_ne, cn_ic_lt, cn_ic_ge, cn_ic_gt, cn_ic_le, cn_ifnullN, cn_ifnullR, cn_ifnonnullN, cn_ifnonnullR, cn_tswS, cn_tsw0, cn_tsw1, cn_lswS, cn_lsw0, cn_lsw1, cn_alen, cn_iaload, cn_laload, cn_rr1, cn_rr0, cn_aaload, cn_iastore, cn_lastore, cn_aastore, cn_getfield, cn_gf0, cn_gf1, cn_gf2, cn_gf3, cn_putfield, cn_pf0f, cn_pf1f, cn_pf2f, cn_pf3f, cn_pf0t, cn_pf1t, cn_pf2t, cn_pf3t, cn_new, cn_nw1, cn_newi, cn_newl, cn_anew, cn_an1, cn_inv_v, cn_inv_s, cn_inv_p, cn_ca1, cn_cb1, cn_pop0, cn_pops, cn_rk0, cn_rk1, cn_kcn, cn_kcs, cn_ireturn, cn_lreturn, cn_areturn, cn_return, cn_re0, cn_re1, cn_re2, cn_re3, cn_re4, cn_re5, cn_wp0, cn_wps, cn_m0, cn_m1, cn_e0, cn_en, cn_ei, cn_er, cn_eu, cn_el, cn_nl0, cn_nls, cn_nb0, cn_nb1, cn_nb2, cn_nb3, cn_bd0, cn_bds, cn_cwi, cn_cwr, cn_cwl, cn_cwn, cn_wi2, cn_wl1, cn_wl3, cn_wr1, cn_wr2, cn_wi_eq, cn_wl_eq, cb_0, cb_n0, cb_b, cm_okb0, cm_okb1, Classical.not_not, true_and, and_true, Nat.reduceAdd, Nat.reduceSub, Nat.reduceLT, Nat.reduceLeDiff, Int.reduceToNat, Int.reduceNatCast', Nat.zero_le, Nat.reduceEqDiff, false_or, or_false, or_true, true_or, Int.reduceNeg, reduceCtorEq, false_implies, implies_true, forall_const, true_implies, not_true_eq_false, not_false_eq_true, Nat.le_refl, ne_eq, if_true, if_false, ite_true, ite_false, List.cons_append, List.nil_append, w3_add]
  exact hK
set_option maxHeartbeats 4000000 in
theorem aL_1474 (d : Nat) (hd : 40 ≤ d) {T : cm_T} {M : cm_M} {ρ : Option Value → cm_T → cm_M → Prop} {b x m i : Nat} {B : Nat × Nat} (hρ : ∀ T M, ρ (some (.int (w3 1))) T M) : cm_Go d cL_law 4 600000 7302250 JL ρ 1474 [some (.ref b), some (.ref x), some (.ref m), some (.int (w3 (i : Int)))] [] B T M := by
  refine cm_go [] 100 oL_1468 (eL d hd) lL_1474 ?_
  simp only [jL0, kL_1468, cn_iconst, cn_lconst0, cn_lconst1, cn_null, cn_iload, cn_aload, cn_lload, cn_lo1, cn_loa1, cn_loa2, cn_lol1, cn_get0, cn_gets, cn_put0, cn_puts, cn_istore, cn_astore, cn_astoreN, cn_lstore, cn_iinc, cn_in1, cn_iadd, cn_isub, cn_imul, cn_iand, cn_ior, cn_ixor, cn_ishl, cn_ishr, cn_iushr, cn_idiv, cn_irem, cn_ladd, cn_lmul, cn_ldiv, cn_lrem, cn_i2l, cn_l2i, cn_i2b, cn_lcmp, cn_dupi, cn_dupr, cn_dup2, cn_popi, cn_popr, cn_goto, cn_if_eq, cn_if_ne, cn_if_lt, cn_if_ge, cn_if_gt, cn_if_le, cn_ic_eq, cn_ic_ne, cn_ic_lt, cn_ic_ge, cn_ic_gt, cn_ic_le, cn_ifnullN, cn_ifnullR, cn_ifnonnullN, cn_ifnonnullR, cn_tswS, cn_tsw0, cn_tsw1, cn_lswS, cn_lsw0, cn_lsw1, cn_alen, cn_iaload, cn_laload, cn_rr1, cn_rr0, cn_aaload, cn_iastore, cn_lastore, cn_aastore, cn_getfield, cn_gf0, cn_gf1, cn_gf2, cn_gf3, cn_putfield, cn_pf0f, cn_pf1f, cn_pf2f, cn_pf3f, cn_pf0t, cn_pf1t, cn_pf2t, cn_pf3t, cn_new, cn_nw1, cn_newi, cn_newl, cn_anew, cn_an1, cn_inv_v, cn_inv_s, cn_inv_p, cn_ca1, cn_cb1, cn_pop0, cn_pops, cn_rk0, cn_rk1, cn_kcn, cn_kcs, cn_ireturn, cn_lreturn, cn_areturn, cn_return, cn_re0, cn_re1, cn_re2, cn_re3, cn_re4, cn_re5, cn_wp0, cn_wps, cn_m0, cn_m1, cn_e0, cn_en, cn_ei, cn_er, cn_eu, cn_el, cn_nl0, cn_nls, cn_nb0, cn_nb1, cn_nb2, cn_nb3, cn_bd0, cn_bds, cn_cwi, cn_cwr, cn_cwl, cn_cwn, cn_wi2, cn_wl1, cn_wl3, cn_wr1, cn_wr2, cn_wi_eq, cn_wl_eq, cb_0, cb_n0, cb_b, cm_okb0, cm_okb1, Classical.not_not, true_and, and_true, Nat.reduceAdd, Nat.reduceSub, Nat.reduceLT, Nat.reduceLeDiff, Int.reduceToNat, Int.reduceNatCast', Nat.zero_le, Nat.reduceEqDiff, false_or, or_false, or_true, true_or, Int.reduceNeg, reduceCtorEq, false_implies, implies_true, forall_const, true_implies, not_true_eq_false, not_false_eq_true, Nat.le_refl, ne_eq, if_true, if_false, ite_true, ite_false, List.cons_append, List.nil_append]
  exact hρ T M
set_option maxRecDepth 100000 in
set_option maxHeartbeats 8000000 in
theorem lL (d : Nat) (hd : 40 ≤ d) {ρ : Option Value → cm_T → cm_M → Prop} (hρ : ∀ T M, ρ (some (.int (w3 1))) T M) {b x m L N : Nat} (hN : N ≤ 3072) :
    ∀ (k i : Nat) (T : cm_T) (M : cm_M) (B : Nat × Nat), N - i ≤ k → i ≤ N → LI T M b x m L N → 134 * (N - i) ≤ 6 * B.1 ∧ 3142 * (N - i) ≤ 6 * B.2 → cm_Go d cL_law 4 600000 7302250 JL ρ 18 [some (.ref b), some (.ref x), some (.ref m), some (.int (w3 (i : Int)))] [] B T M := by
  intro k
  induction k with
  | zero =>
    intro i T M B hk hi hI hB0
    obtain ⟨i1, i2, i3, i4, i5, hC, hD, he⟩ := id hI
    refine cm_go [] 100 oL_18 (eL d hd) lL_18 ?_
    have g1 : ((N : Int) - 6 < (i : Int)) = True := eq_true (by omega)
    simp (disch := omega) only [jL0, kL_18, kL_18x, g1, i1, i2, cn_iconst, cn_lconst0, cn_lconst1, cn_null, cn_iload, cn_aload, cn_lload, cn_lo1, cn_loa1, cn_loa2, cn_lol1, cn_get0, cn_gets, cn_put0, cn_puts, cn_istore, cn_astore, cn_astoreN, cn_lstore, cn_iinc, cn_in1, cn_iadd, cn_isub, cn_imul, cn_iand, cn_ior, cn_ixor, cn_ishl, cn_ishr, cn_iushr, cn_idiv, cn_irem, cn_ladd, cn_lmul, cn_ldiv, cn_lrem, cn_i2l, cn_l2i, cn_i2b, cn_lcmp, cn_dupi, cn_dupr, cn_dup2, cn_popi, cn_popr, cn_goto, cn_if_eq, cn_if_ne, cn_if_lt, cn_if_ge, cn_if_gt, cn_if_le, cn_ic_eq, cn_ic_ne, cn_ic_lt, cn_ic_ge, cn_ic_gt, cn_ic_le, cn_ifnullN, cn_ifnullR, cn_ifnonnullN, cn_ifnonnullR, cn_tswS, cn_tsw0, cn_tsw1, cn_lswS, cn_lsw0, cn_lsw1, cn_alen, cn_iaload, cn_laload, cn_rr1, cn_rr0, cn_aaload, cn_iastore, cn_lastore, cn_aastore, cn_getfield, cn_gf0, cn_gf1, cn_gf2, cn_gf3, cn_putfield, cn_pf0f, cn_pf1f, cn_pf2f, cn_pf3f, cn_pf0t, cn_pf1t, cn_pf2t, cn_pf3t, cn_new, cn_nw1, cn_newi, cn_newl, cn_anew, cn_an1, cn_inv_v, cn_inv_s, cn_inv_p, cn_ca1, cn_cb1, cn_pop0, cn_pops, cn_rk0, cn_rk1, cn_kcn, cn_kcs, cn_ireturn, cn_lreturn, cn_areturn, cn_return, cn_re0, cn_re1, cn_re2, cn_re3, cn_re4, cn_re5, cn_wp0, cn_wps, cn_m0, cn_m1, cn_e0, cn_en, cn_ei, cn_er, cn_eu, cn_el, cn_nl0, cn_nls, cn_nb0, cn_nb1, cn_nb2, cn_nb3, cn_bd0, cn_bds, cn_cwi, cn_cwr, cn_cwl, cn_cwn, cn_wi2, cn_wl1, cn_wl3, cn_wr1, cn_wr2, cn_wi_eq, cn_wl_eq, cb_0, cb_n0, cb_b, cm_okb0, cm_okb1, Classical.not_not, true_and, and_true, Nat.reduceAdd, Nat.reduceSub, Nat.reduceLT, Nat.reduceLeDiff, Int.reduceToNat, Int.reduceNatCast', Nat.zero_le, Nat.reduceEqDiff, false_or, or_false, or_true, true_or, Int.reduceNeg, reduceCtorEq, false_implies, implies_true, forall_const, true_implies, not_true_eq_false, not_false_eq_true, Nat.le_refl, ne_eq, if_true, if_false, ite_true, ite_false, List.cons_append, List.nil_append, cn_tswS, cn_tsw0, cn_tsw1, w3_sub, w3_toInt, w3_ix, w3_lt, w3_le, List.toList_toArray, Int.reduceAdd]
    exact aL_1474 d hd hρ
  | succ k ih =>
    intro i T M B hk hi hI hB0
    obtain ⟨i1, i2, i3, i4, i5, hC, hD, he⟩ := id hI
    refine cm_go [] 100 oL_18 (eL d hd) lL_18 ?_
    by_cases h6 : i + 6 ≤ N
    · have g0 : (0 ≤ (i : Int) ∧ (i : Int) < (N : Int)) = True := eq_true ⟨by omega, by omega⟩
      have g1 : ((N : Int) - 6 < (i : Int)) = False := eq_false (by omega)
      simp (disch := omega) only [jL0, kL_18, kL_18x, g0, g1, i1, i2, cn_iconst, cn_lconst0, cn_lconst1, cn_null, cn_iload, cn_aload, cn_lload, cn_lo1, cn_loa1, cn_loa2, cn_lol1, cn_get0, cn_gets, cn_put0, cn_puts, cn_istore, cn_astore, cn_astoreN, cn_lstore, cn_iinc, cn_in1, cn_iadd, cn_isub, cn_imul, cn_iand, cn_ior, cn_ixor, cn_ishl, cn_ishr, cn_iushr, cn_idiv, cn_irem, cn_ladd, cn_lmul, cn_ldiv, cn_lrem, cn_i2l, cn_l2i, cn_i2b, cn_lcmp, cn_dupi, cn_dupr, cn_dup2, cn_popi, cn_popr, cn_goto, cn_if_eq, cn_if_ne, cn_if_lt, cn_if_ge, cn_if_gt, cn_if_le, cn_ic_eq, cn_ic_ne, cn_ic_lt, cn_ic_ge, cn_ic_gt, cn_ic_le, cn_ifnullN, cn_ifnullR, cn_ifnonnullN, cn_ifnonnullR, cn_tswS, cn_tsw0, cn_tsw1, cn_lswS, cn_lsw0, cn_lsw1, cn_alen, cn_iaload, cn_laload, cn_rr1, cn_rr0, cn_aaload, cn_iastore, cn_lastore, cn_aastore, cn_getfield, cn_gf0, cn_gf1, cn_gf2, cn_gf3, cn_putfield, cn_pf0f, cn_pf1f, cn_pf2f, cn_pf3f, cn_pf0t, cn_pf1t, cn_pf2t, cn_pf3t, cn_new, cn_nw1, cn_newi, cn_newl, cn_anew, cn_an1, cn_inv_v, cn_inv_s, cn_inv_p, cn_ca1, cn_cb1, cn_pop0, cn_pops, cn_rk0, cn_rk1, cn_kcn, cn_kcs, cn_ireturn, cn_lreturn, cn_areturn, cn_return, cn_re0, cn_re1, cn_re2, cn_re3, cn_re4, cn_re5, cn_wp0, cn_wps, cn_m0, cn_m1, cn_e0, cn_en, cn_ei, cn_er, cn_eu, cn_el, cn_nl0, cn_nls, cn_nb0, cn_nb1, cn_nb2, cn_nb3, cn_bd0, cn_bds, cn_cwi, cn_cwr, cn_cwl, cn_cwn, cn_wi2, cn_wl1, cn_wl3, cn_wr1, cn_wr2, cn_wi_eq, cn_wl_eq, cb_0, cb_n0, cb_b, cm_okb0, cm_okb1, Classical.not_not, true_and, and_true, Nat.reduceAdd, Nat.reduceSub, Nat.reduceLT, Nat.reduceLeDiff, Int.reduceToNat, Int.reduceNatCast', Nat.zero_le, Nat.reduceEqDiff, false_or, or_false, or_true, true_or, Int.reduceNeg, reduceCtorEq, false_implies, implies_true, forall_const, true_implies, not_true_eq_false, not_false_eq_true, Nat.le_refl, ne_eq, if_true, if_false, ite_true, ite_false, List.cons_append, List.nil_append, cn_tswS, cn_tsw0, cn_tsw1, w3_sub, w3_toInt, w3_ix, w3_lt, w3_le, List.toList_toArray, Int.reduceAdd]
      have hB : 134 ≤ B.1 ∧ 3142 ≤ B.2 := by omega
      have hB2 : 134 * (N - (i + 6)) ≤ 6 * B.1 ∧ 3142 * (N - (i + 6)) ≤ 6 * B.2 := by omega
      have kk : ∀ (T1 : cm_T) (M1 : cm_M) (B1 : Nat × Nat), LI T1 M1 b x m L N → (134 * (N - (i + 6)) ≤ 6 * B1.1 ∧ 3142 * (N - (i + 6)) ≤ 6 * B1.2) → cm_Go d cL_law 4 600000 7302250 JL ρ 1468 [some (.ref b), some (.ref x), some (.ref m), some (.int (w3 (i : Int)))] [] B1 T1 M1 := fun T1 M1 B1 h r => aL_1468 d hd (ih (i + 6) T1 M1 B1 (by omega) (by omega) h r)
      refine ⟨fun _ => kk T M B hI hB2, fun _ => ?_⟩
      refine And.intro (fun _ => aL_212 d hd hI h6 hN (fun M1 h => kk T M1 B h hB2)) ?_
      refine And.intro (fun _ => aL_245 d hd hI h6 hN (fun M1 h => kk T M1 B h hB2)) ?_
      refine And.intro (fun _ => aL_288 d hd hI h6 hN (fun M1 h => kk T M1 B h hB2)) ?_
      refine And.intro (fun _ => aL_321 d hd hI h6 hN (fun M1 h => kk T M1 B h hB2)) ?_
      refine And.intro (fun _ => aL_344 d hd hI h6 hN (fun M1 h => kk T M1 B h hB2)) ?_
      refine And.intro (fun _ => aL_407 d hd hI h6 hN (fun M1 h => kk T M1 B h hB2)) ?_
      refine And.intro (fun _ => aL_430 d hd hI h6 hN (fun M1 h => kk T M1 B h hB2)) ?_
      refine And.intro (fun _ => aL_463 d hd hI h6 hN (fun M1 h => kk T M1 B h hB2)) ?_
      refine And.intro (fun _ => aL_506 d hd hI h6 hN (fun M1 h => kk T M1 B h hB2)) ?_
      refine And.intro (fun _ => aL_529 d hd hI h6 hN (fun M1 h => kk T M1 B h hB2)) ?_
      refine And.intro (fun _ => aL_552 d hd hI h6 hN (fun M1 h => kk T M1 B h hB2)) ?_
      refine And.intro (fun _ => aL_585 d hd hI h6 hN (fun M1 h => kk T M1 B h hB2)) ?_
      refine And.intro (fun _ => aL_618 d hd hI h6 hN (fun M1 h => kk T M1 B h hB2)) ?_
      refine And.intro (fun _ => aL_661 d hd hI h6 hN (fun M1 h => kk T M1 B h hB2)) ?_
      refine And.intro (fun _ => aL_694 d hd hI h6 hN (fun M1 h => kk T M1 B h hB2)) ?_
      refine And.intro (fun _ => aL_717 d hd hI h6 hN (fun M1 h => kk T M1 B h hB2)) ?_
      refine And.intro (fun _ => aL_750 d hd hI h6 hN (fun M1 h => kk T M1 B h hB2)) ?_
      refine And.intro (fun _ => aL_803 d hd hI h6 hN (fun M1 h => kk T M1 B h hB2)) ?_
      refine And.intro (fun _ => aL_836 d hd hI h6 hN (fun M1 h => kk T M1 B h hB2)) ?_
      refine And.intro (fun _ => aL_869 d hd hI h6 hN (fun M1 h => kk T M1 B h hB2)) ?_
      refine And.intro (fun _ => aL_912 d hd hI h6 hN (fun M1 h => kk T M1 B h hB2)) ?_
      refine And.intro (fun _ => aL_945 d hd hI h6 hN (fun M1 h => kk T M1 B h hB2)) ?_
      refine And.intro (fun _ => aL_988 d hd hI h6 hN (fun M1 h => kk T M1 B h hB2)) ?_
      refine And.intro (fun _ => aL_1021 d hd hI h6 hN (fun M1 h => kk T M1 B h hB2)) ?_
      refine And.intro (fun _ => aL_1044 d hd hI h6 hN hB (fun T1 M1 h => kk T1 M1 _ h (by show 134 * (N - (i + 6)) ≤ 6 * (B.1 - 134) ∧ 3142 * (N - (i + 6)) ≤ 6 * (B.2 - 3142); omega))) ?_
      refine And.intro (fun _ => aL_1067 d hd hI h6 hN (fun M1 h => kk T M1 B h hB2)) ?_
      refine And.intro (fun _ => aL_1090 d hd hI h6 hN (fun M1 h => kk T M1 B h hB2)) ?_
      refine And.intro (fun _ => aL_1123 d hd hI h6 hN (fun M1 h => kk T M1 B h hB2)) ?_
      refine And.intro (fun _ => aL_1146 d hd hI h6 hN (fun M1 h => kk T M1 B h hB2)) ?_
      refine And.intro (fun _ => aL_1179 d hd hI h6 hN (fun M1 h => kk T M1 B h hB2)) ?_
      refine And.intro (fun _ => aL_1222 d hd hI h6 hN (fun M1 h => kk T M1 B h hB2)) ?_
      refine And.intro (fun _ => aL_1265 d hd hI h6 hN (fun M1 h => kk T M1 B h hB2)) ?_
      refine And.intro (fun _ => aL_1298 d hd hI h6 hN (fun M1 h => kk T M1 B h hB2)) ?_
      refine And.intro (fun _ => aL_1321 d hd hI h6 hN (fun M1 h => kk T M1 B h hB2)) ?_
      refine And.intro (fun _ => aL_1354 d hd hI h6 hN (fun M1 h => kk T M1 B h hB2)) ?_
      refine And.intro (fun _ => aL_1367 d hd hI h6 hN (fun M1 h => kk T M1 B h hB2)) ?_
      refine And.intro (fun _ => aL_1381 d hd hI h6 hN (fun M1 h => kk T M1 B h hB2)) ?_
      refine And.intro (fun _ => aL_1395 d hd hI h6 hN (fun M1 h => kk T M1 B h hB2)) ?_
      refine And.intro (fun _ => aL_1418 d hd hI h6 hN (fun M1 h => kk T M1 B h hB2)) ?_
      refine And.intro (fun _ => aL_1431 d hd hI h6 hN (fun M1 h => kk T M1 B h hB2)) ?_
      exact fun _ => aL_1454 d hd hI h6 hN (fun M1 h => kk T M1 B h hB2)
    · have g1 : ((N : Int) - 6 < (i : Int)) = True := eq_true (by omega)
      simp (disch := omega) only [jL0, kL_18, kL_18x, g1, i1, i2, cn_iconst, cn_lconst0, cn_lconst1, cn_null, cn_iload, cn_aload, cn_lload, cn_lo1, cn_loa1, cn_loa2, cn_lol1, cn_get0, cn_gets, cn_put0, cn_puts, cn_istore, cn_astore, cn_astoreN, cn_lstore, cn_iinc, cn_in1, cn_iadd, cn_isub, cn_imul, cn_iand, cn_ior, cn_ixor, cn_ishl, cn_ishr, cn_iushr, cn_idiv, cn_irem, cn_ladd, cn_lmul, cn_ldiv, cn_lrem, cn_i2l, cn_l2i, cn_i2b, cn_lcmp, cn_dupi, cn_dupr, cn_dup2, cn_popi, cn_popr, cn_goto, cn_if_eq, cn_if_ne, cn_if_lt, cn_if_ge, cn_if_gt, cn_if_le, cn_ic_eq, cn_ic_ne, cn_ic_lt, cn_ic_ge, cn_ic_gt, cn_ic_le, cn_ifnullN, cn_ifnullR, cn_ifnonnullN, cn_ifnonnullR, cn_tswS, cn_tsw0, cn_tsw1, cn_lswS, cn_lsw0, cn_lsw1, cn_alen, cn_iaload, cn_laload, cn_rr1, cn_rr0, cn_aaload, cn_iastore, cn_lastore, cn_aastore, cn_getfield, cn_gf0, cn_gf1, cn_gf2, cn_gf3, cn_putfield, cn_pf0f, cn_pf1f, cn_pf2f, cn_pf3f, cn_pf0t, cn_pf1t, cn_pf2t, cn_pf3t, cn_new, cn_nw1, cn_newi, cn_newl, cn_anew, cn_an1, cn_inv_v, cn_inv_s, cn_inv_p, cn_ca1, cn_cb1, cn_pop0, cn_pops, cn_rk0, cn_rk1, cn_kcn, cn_kcs, cn_ireturn, cn_lreturn, cn_areturn, cn_return, cn_re0, cn_re1, cn_re2, cn_re3, cn_re4, cn_re5, cn_wp0, cn_wps, cn_m0, cn_m1, cn_e0, cn_en, cn_ei, cn_er, cn_eu, cn_el, cn_nl0, cn_nls, cn_nb0, cn_nb1, cn_nb2, cn_nb3, cn_bd0, cn_bds, cn_cwi, cn_cwr, cn_cwl, cn_cwn, cn_wi2, cn_wl1, cn_wl3, cn_wr1, cn_wr2, cn_wi_eq, cn_wl_eq, cb_0, cb_n0, cb_b, cm_okb0, cm_okb1, Classical.not_not, true_and, and_true, Nat.reduceAdd, Nat.reduceSub, Nat.reduceLT, Nat.reduceLeDiff, Int.reduceToNat, Int.reduceNatCast', Nat.zero_le, Nat.reduceEqDiff, false_or, or_false, or_true, true_or, Int.reduceNeg, reduceCtorEq, false_implies, implies_true, forall_const, true_implies, not_true_eq_false, not_false_eq_true, Nat.le_refl, ne_eq, if_true, if_false, ite_true, ite_false, List.cons_append, List.nil_append, cn_tswS, cn_tsw0, cn_tsw1, w3_sub, w3_toInt, w3_ix, w3_lt, w3_le, List.toList_toArray, Int.reduceAdd]
      exact aL_1474 d hd hρ
set_option maxHeartbeats 8000000 in
theorem aL_0 (d : Nat) (hd : 40 ≤ d) {T : cm_T} {M : cm_M} {ρ : Option Value → cm_T → cm_M → Prop} (hρ : ∀ T M, ρ (some (.int (w3 1))) T M) {b N : Nat} (hN : N ≤ 3072) (k1 : T.1 b = 40) (k2 : T.2.1 b = N) (hb : b < T.2.2) : cm_Go d cL_law 4 600000 7302250 JL ρ 0 [some (.ref b), none, none, none] [] (600000, 7302250) T M := by
  obtain ⟨x, hx⟩ : ∃ x : Nat, x = T.2.2 := ⟨_, rfl⟩
  have q1 : (cm_tn T 7 0).1 x = 7 := tn_ke hx
  refine cm_go [] 100 oL_0 (eL d hd) lL_0 ?_
  simp only [jL0, jL_9, jL_12, kL_0, kl_8_7, kl_8_10, nf6, nf7, ← hx, q1, SX6_init, cn_iconst, cn_lconst0, cn_lconst1, cn_null, cn_iload, cn_aload, cn_lload, cn_lo1, cn_loa1, cn_loa2, cn_lol1, cn_get0, cn_gets, cn_put0, cn_puts, cn_istore, cn_astore, cn_astoreN, cn_lstore, cn_iinc, cn_in1, cn_iadd, cn_isub, cn_imul, cn_iand, cn_ior, cn_ixor, cn_ishl, cn_ishr, cn_iushr, cn_idiv, cn_irem, cn_ladd, cn_lmul, cn_ldiv, cn_lrem, cn_i2l, cn_l2i, cn_i2b, cn_lcmp, cn_dupi, cn_dupr, cn_dup2, cn_popi, cn_popr, cn_goto, cn_if_eq, cn_if_ne, cn_if_lt, cn_if_ge, cn_if_gt, cn_if_le, cn_ic_eq, cn_ic_ne, cn_ic_lt, cn_ic_ge, cn_ic_gt, cn_ic_le, cn_ifnullN, cn_ifnullR, cn_ifnonnullN, cn_ifnonnullR, cn_tswS, cn_tsw0, cn_tsw1, cn_lswS, cn_lsw0, cn_lsw1, cn_alen, cn_iaload, cn_laload, cn_rr1, cn_rr0, cn_aaload, cn_iastore, cn_lastore, cn_aastore, cn_getfield, cn_gf0, cn_gf1, cn_gf2, cn_gf3, cn_putfield, cn_pf0f, cn_pf1f, cn_pf2f, cn_pf3f, cn_pf0t, cn_pf1t, cn_pf2t, cn_pf3t, cn_new, cn_nw1, cn_newi, cn_newl, cn_anew, cn_an1, cn_inv_v, cn_inv_s, cn_inv_p, cn_ca1, cn_cb1, cn_pop0, cn_pops, cn_rk0, cn_rk1, cn_kcn, cn_kcs, cn_ireturn, cn_lreturn, cn_areturn, cn_return, cn_re0, cn_re1, cn_re2, cn_re3, cn_re4, cn_re5, cn_wp0, cn_wps, cn_m0, cn_m1, cn_e0, cn_en, cn_ei, cn_er, cn_eu, cn_el, cn_nl0, cn_nls, cn_nb0, cn_nb1, cn_nb2, cn_nb3, cn_bd0, cn_bds, cn_cwi, cn_cwr, cn_cwl, cn_cwn, cn_wi2, cn_wl1, cn_wl3, cn_wr1, cn_wr2, cn_wi_eq, cn_wl_eq, cb_0, cb_n0, cb_b, cm_okb0, cm_okb1, Classical.not_not, true_and, and_true, Nat.reduceAdd, Nat.reduceSub, Nat.reduceLT, Nat.reduceLeDiff, Int.reduceToNat, Int.reduceNatCast', Nat.zero_le, Nat.reduceEqDiff, false_or, or_false, or_true, true_or, Int.reduceNeg, reduceCtorEq, false_implies, implies_true, forall_const, true_implies, not_true_eq_false, not_false_eq_true, Nat.le_refl, ne_eq, if_true, if_false, ite_true, ite_false, List.cons_append, List.nil_append]
  refine ⟨?_, fun T1 M1 z1 ag1 G1 e1 => ?_⟩
  · rw [tn_z, hx]
  have q2 : (cm_tn T1 8 0).1 T1.2.2 = 8 := tn_ke rfl
  simp only [jL0, jL_9, jL_12, kL_0, kl_8_7, kl_8_10, nf6, nf7, q2, SX7_init, cn_iconst, cn_lconst0, cn_lconst1, cn_null, cn_iload, cn_aload, cn_lload, cn_lo1, cn_loa1, cn_loa2, cn_lol1, cn_get0, cn_gets, cn_put0, cn_puts, cn_istore, cn_astore, cn_astoreN, cn_lstore, cn_iinc, cn_in1, cn_iadd, cn_isub, cn_imul, cn_iand, cn_ior, cn_ixor, cn_ishl, cn_ishr, cn_iushr, cn_idiv, cn_irem, cn_ladd, cn_lmul, cn_ldiv, cn_lrem, cn_i2l, cn_l2i, cn_i2b, cn_lcmp, cn_dupi, cn_dupr, cn_dup2, cn_popi, cn_popr, cn_goto, cn_if_eq, cn_if_ne, cn_if_lt, cn_if_ge, cn_if_gt, cn_if_le, cn_ic_eq, cn_ic_ne, cn_ic_lt, cn_ic_ge, cn_ic_gt, cn_ic_le, cn_ifnullN, cn_ifnullR, cn_ifnonnullN, cn_ifnonnullR, cn_tswS, cn_tsw0, cn_tsw1, cn_lswS, cn_lsw0, cn_lsw1, cn_alen, cn_iaload, cn_laload, cn_rr1, cn_rr0, cn_aaload, cn_iastore, cn_lastore, cn_aastore, cn_getfield, cn_gf0, cn_gf1, cn_gf2, cn_gf3, cn_putfield, cn_pf0f, cn_pf1f, cn_pf2f, cn_pf3f, cn_pf0t, cn_pf1t, cn_pf2t, cn_pf3t, cn_new, cn_nw1, cn_newi, cn_newl, cn_anew, cn_an1, cn_inv_v, cn_inv_s, cn_inv_p, cn_ca1, cn_cb1, cn_pop0, cn_pops, cn_rk0, cn_rk1, cn_kcn, cn_kcs, cn_ireturn, cn_lreturn, cn_areturn, cn_return, cn_re0, cn_re1, cn_re2, cn_re3, cn_re4, cn_re5, cn_wp0, cn_wps, cn_m0, cn_m1, cn_e0, cn_en, cn_ei, cn_er, cn_eu, cn_el, cn_nl0, cn_nls, cn_nb0, cn_nb1, cn_nb2, cn_nb3, cn_bd0, cn_bds, cn_cwi, cn_cwr, cn_cwl, cn_cwn, cn_wi2, cn_wl1, cn_wl3, cn_wr1, cn_wr2, cn_wi_eq, cn_wl_eq, cb_0, cb_n0, cb_b, cm_okb0, cm_okb1, Classical.not_not, true_and, and_true, Nat.reduceAdd, Nat.reduceSub, Nat.reduceLT, Nat.reduceLeDiff, Int.reduceToNat, Int.reduceNatCast', Nat.zero_le, Nat.reduceEqDiff, false_or, or_false, or_true, true_or, Int.reduceNeg, reduceCtorEq, false_implies, implies_true, forall_const, true_implies, not_true_eq_false, not_false_eq_true, Nat.le_refl, ne_eq, if_true, if_false, ite_true, ite_false, List.cons_append, List.nil_append]
  refine ⟨by rw [tn_z], zm_1e rfl, zm_2e rfl, fun T2 M2 z2 ag2 D2 e2 => ?_⟩
  have y1 : @Eq Nat T1.2.2 (x + 326) := z1
  have y2 : @Eq Nat T2.2.2 (T1.2.2 + 20) := z2
  have ag3 : Ag (T1.2.2 + 1) T1.2.2 (cm_tn T1 8 0) (cm_zm M1 T1.2.2) T2 M2 := ag2
  have ag4 : Ag (x + 1) x (cm_tn T 7 0) (cm_zm M x) T1 M1 := ag1
  have G1 : CMG T1 M1 x (x + 326) := G1
  obtain ⟨a1, a2, a3, a4, a5⟩ := ag3
  obtain ⟨b1, b2, b3, b4, b5⟩ := ag4
  have hn := G1.no (by omega)
  have w5 : M2.2.2 (x + 137) = M1.2.2 (x + 137) := by rw [a5 (x + 137) (by omega) (by omega), zm_3n (by omega)]
  have hn2 : ∀ k : Nat, k < 3 → M2.2.2 (x + 137) (k : Int) = none := fun k hk => by rw [w5, hn k hk]
  obtain ⟨g1, g2⟩ := G1.ag (T' := T2) (M' := M2) (by omega) (fun q u v => by rw [a1 q (by omega), tn_kn (by omega)]) (fun q u v => by rw [a2 q (by omega), tn_ln (by omega)]) (fun q u v => by rw [a3 q (by omega) (by omega), zm_1n (by omega)]) (fun q u v => by rw [a4 q (by omega) (by omega), zm_2n (by omega)]) (fun q u v w => by rw [a5 q (by omega) (by omega), zm_3n (by omega)]) ⟨fun k hk a ha => (by rw [hn2 k hk] at ha; cases ha), fun k l hk hl hne a c ha hc => (by rw [hn2 k hk] at ha; cases ha)⟩ (funext fun k => by
    unfold cKq
    by_cases q : k < 3
    · rw [if_pos q, if_pos q]
      unfold cKp
      rw [hn2 k q, hn k q]
    · rw [if_neg q, if_neg q])
  have hI : LI T2 M2 b x T1.2.2 T2.2.2 N := ⟨by rw [a1 b (by omega), tn_kn (by omega), b1 b (by omega), tn_kn (by omega), k1], by rw [a2 b (by omega), tn_ln (by omega), b2 b (by omega), tn_ln (by omega), k2], by omega, by omega, by omega, g1.up hn2 (by omega) (Nat.le_refl _), D2, (g2.trans e1).trans e2.symm⟩
  exact lL d hd hρ hN N 0 T2 M2 (599654, 7265946) (by omega) (by omega) hI ⟨by show 134 * (N - 0) ≤ 6 * 599654; omega, by show 3142 * (N - 0) ≤ 6 * 7265946; omega⟩

def kSz (B : Bk) : Int := if B.1 = 0 then -1 else (B.1 : Int)
def SX6_keptSize : cm_CT := fun as T M Φ => match as with
  | [.ref x, .int k] => ∃ (L κ : Nat), CMG T M x L ∧ k = w3 κ ∧ κ < 3 ∧ Φ (some (.int (w3 (kSz (cKp M x κ))))) T M
  | _ => False
def JX6_keptSize : cm_J := (6, false, 1, [], [], [])
theorem jX6_keptSize : JX6_keptSize.1 = 6 ∧ JX6_keptSize.2.1 = false ∧ JX6_keptSize.2.2.1 = 1 := ⟨rfl, rfl, rfl⟩
theorem eX6_keptSize (d : Nat) (hd : 0 ≤ d) : cm_Cok d JX6_keptSize := ⟨(fun q h => by cases h), (fun q h => by cases h), (fun q h => by cases h)⟩
set_option maxHeartbeats 4000000 in
theorem mX6_keptSize (d : Nat) (hd : 0 ≤ d) : cm_Met d yX6_keptSize cX6_keptSize 2 (some .int) 0 0 SX6_keptSize := by
  refine cm_meets (J := JX6_keptSize) (by decide) rfl (fun h => by cases h) trivial ?_
  intro as T M Φ hS
  match as, hS with
  | [.ref x, .int k], ⟨L, κ, hC, hk, h3, hS⟩ =>
    refine ⟨Nat.le_of_ble_eq_true rfl, ?_⟩
    subst hk
    obtain ⟨k0, ⟨r0, r1, r2, r3, r4, r5, r6, r7, r8, r13⟩, ⟨k1, k2, k137, k305⟩, ⟨l1, l2, l137, l305⟩, hr, ht⟩ := id hC.2.1
    have hB := hC.2.2.1
    obtain ⟨⟨K0, ⟨R1, R2, R3, R4, R5⟩, ⟨KK1, K2, K3, K4, K5⟩, ⟨L1, L2, L3, L4, L5⟩, RV⟩, HZ, HT, HW, HA⟩ := id hB
    obtain ⟨hn, hn16⟩ := hB.n
    have hz0 : M.1 (x + 3) 0 = w3 ((bkv M (x + 3)).1 : Int) := i3_of hn

    have ek : (w3 (κ : Int)).toInt = (κ : Int) := w3_toInt (by omega) (by omega)
    have ix : cm_ix (w3 (κ : Int)) 3 := by rw [w3_ix (by omega) (by omega)]; exact ⟨by omega, by omega⟩
    have hK := hC.2.2.2.1.1 κ h3
    unfold cKp kSz at hS
    cases e : M.2.2 (x + 137) (κ : Int) with
    | none =>
      rw [e] at hS
      refine cm_go hX6_keptSize 200 oX6_keptSize (eX6_keptSize d hd) lX6_keptSize_0 ?_
      simp only [jX6_keptSize, kX6_keptSize_0, fl_6_25, fl_6_130, ek, ix, e, k0, r0, r1, r2, r3, r4, r5, r6, r7, r8, r13, k1, k2, k137, k305, l1, l2, l137, l305, K0, R1, R2, R3, R4, R5, KK1, K2, K3, K4, K5, L1, L2, L3, L4, L5, cn_iconst, cn_lconst0, cn_lconst1, cn_null, cn_iload, cn_aload, cn_lload, cn_lo1, cn_loa1, cn_loa2, cn_lol1, cn_get0, cn_gets, cn_put0, cn_puts, cn_istore, cn_astore, cn_astoreN, cn_lstore, cn_iinc, cn_in1, cn_iadd, cn_isub, cn_imul, cn_iand, cn_ior, cn_ixor, cn_ishl, cn_ishr, cn_iushr, cn_idiv, cn_irem, cn_ladd, cn_lmul, cn_ldiv, cn_lrem, cn_i2l, cn_l2i, cn_i2b, cn_lcmp, cn_dupi, cn_dupr, cn_dup2, cn_popi, cn_popr, cn_goto, cn_if_eq, cn_if_ne, cn_if_lt, cn_if_ge, cn_if_gt, cn_if_le, cn_ic_eq, cn_ic_ne, cn_ic_lt, cn_ic_ge, cn_ic_gt, cn_ic_le, cn_ifnullN, cn_ifnullR, cn_ifnonnullN, cn_ifnonnullR, cn_tswS, cn_tsw0, cn_tsw1, cn_lswS, cn_lsw0, cn_lsw1, cn_alen, cn_iaload, cn_laload, cn_rr1, cn_rr0, cn_aaload, cn_iastore, cn_lastore, cn_aastore, cn_getfield, cn_gf0, cn_gf1, cn_gf2, cn_gf3, cn_putfield, cn_pf0f, cn_pf1f, cn_pf2f, cn_pf3f, cn_pf0t, cn_pf1t, cn_pf2t, cn_pf3t, cn_new, cn_nw1, cn_newi, cn_newl, cn_anew, cn_an1, cn_inv_v, cn_inv_s, cn_inv_p, cn_ca1, cn_cb1, cn_pop0, cn_pops, cn_rk0, cn_rk1, cn_kcn, cn_kcs, cn_ireturn, cn_lreturn, cn_areturn, cn_return, cn_re0, cn_re1, cn_re2, cn_re3, cn_re4, cn_re5, cn_wp0, cn_wps, cn_m0, cn_m1, cn_e0, cn_en, cn_ei, cn_er, cn_eu, cn_el, cn_nl0, cn_nls, cn_nb0, cn_nb1, cn_nb2, cn_nb3, cn_bd0, cn_bds, cn_cwi, cn_cwr, cn_cwl, cn_cwn, cn_wi2, cn_wl1, cn_wl3, cn_wr1, cn_wr2, cn_wi_eq, cn_wl_eq, cb_0, cb_n0, cb_b, cm_okb0, cm_okb1, Classical.not_not, true_and, and_true, Nat.reduceAdd, Nat.reduceSub, Nat.reduceLT, Nat.reduceLeDiff, Int.reduceToNat, Int.reduceNatCast', Nat.zero_le, Nat.reduceEqDiff, false_or, or_false, or_true, true_or, Int.reduceNeg, reduceCtorEq, false_implies, implies_true, forall_const, true_implies, not_true_eq_false, not_false_eq_true, Nat.le_refl, ne_eq, if_true, if_false, ite_true, ite_false, List.cons_append, List.nil_append]
      exact hS
    | some a =>
      rw [e] at hS
      obtain ⟨b1, b2, b3⟩ := hK a e
      have ka := b3.1.1
      obtain ⟨n1, n2⟩ := b3.n
      have za : M.1 a 0 = w3 ((bkv M a).1 : Int) := i3_of n1
      refine cm_go hX6_keptSize 200 oX6_keptSize (eX6_keptSize d hd) lX6_keptSize_0 ?_
      simp only [jX6_keptSize, kX6_keptSize_0, fl_6_25, fl_6_130, ek, ix, e, ka, za, k0, r0, r1, r2, r3, r4, r5, r6, r7, r8, r13, k1, k2, k137, k305, l1, l2, l137, l305, K0, R1, R2, R3, R4, R5, KK1, K2, K3, K4, K5, L1, L2, L3, L4, L5, cn_iconst, cn_lconst0, cn_lconst1, cn_null, cn_iload, cn_aload, cn_lload, cn_lo1, cn_loa1, cn_loa2, cn_lol1, cn_get0, cn_gets, cn_put0, cn_puts, cn_istore, cn_astore, cn_astoreN, cn_lstore, cn_iinc, cn_in1, cn_iadd, cn_isub, cn_imul, cn_iand, cn_ior, cn_ixor, cn_ishl, cn_ishr, cn_iushr, cn_idiv, cn_irem, cn_ladd, cn_lmul, cn_ldiv, cn_lrem, cn_i2l, cn_l2i, cn_i2b, cn_lcmp, cn_dupi, cn_dupr, cn_dup2, cn_popi, cn_popr, cn_goto, cn_if_eq, cn_if_ne, cn_if_lt, cn_if_ge, cn_if_gt, cn_if_le, cn_ic_eq, cn_ic_ne, cn_ic_lt, cn_ic_ge, cn_ic_gt, cn_ic_le, cn_ifnullN, cn_ifnullR, cn_ifnonnullN, cn_ifnonnullR, cn_tswS, cn_tsw0, cn_tsw1, cn_lswS, cn_lsw0, cn_lsw1, cn_alen, cn_iaload, cn_laload, cn_rr1, cn_rr0, cn_aaload, cn_iastore, cn_lastore, cn_aastore, cn_getfield, cn_gf0, cn_gf1, cn_gf2, cn_gf3, cn_putfield, cn_pf0f, cn_pf1f, cn_pf2f, cn_pf3f, cn_pf0t, cn_pf1t, cn_pf2t, cn_pf3t, cn_new, cn_nw1, cn_newi, cn_newl, cn_anew, cn_an1, cn_inv_v, cn_inv_s, cn_inv_p, cn_ca1, cn_cb1, cn_pop0, cn_pops, cn_rk0, cn_rk1, cn_kcn, cn_kcs, cn_ireturn, cn_lreturn, cn_areturn, cn_return, cn_re0, cn_re1, cn_re2, cn_re3, cn_re4, cn_re5, cn_wp0, cn_wps, cn_m0, cn_m1, cn_e0, cn_en, cn_ei, cn_er, cn_eu, cn_el, cn_nl0, cn_nls, cn_nb0, cn_nb1, cn_nb2, cn_nb3, cn_bd0, cn_bds, cn_cwi, cn_cwr, cn_cwl, cn_cwn, cn_wi2, cn_wl1, cn_wl3, cn_wr1, cn_wr2, cn_wi_eq, cn_wl_eq, cb_0, cb_n0, cb_b, cm_okb0, cm_okb1, Classical.not_not, true_and, and_true, Nat.reduceAdd, Nat.reduceSub, Nat.reduceLT, Nat.reduceLeDiff, Int.reduceToNat, Int.reduceNatCast', Nat.zero_le, Nat.reduceEqDiff, false_or, or_false, or_true, true_or, Int.reduceNeg, reduceCtorEq, false_implies, implies_true, forall_const, true_implies, not_true_eq_false, not_false_eq_true, Nat.le_refl, ne_eq, if_true, if_false, ite_true, ite_false, List.cons_append, List.nil_append]
      simp (disch := omega) only [w3_le, w3_lt, w3_eq, w3_ix, w3_add, w3_sub, w3_mul, w3_toInt, w3_z, Int.reduceEq, Int.reduceLT, Int.reduceLE, Int.reduceAdd, Int.reduceSub, Int.reduceMul, Int.le_refl, Int.lt_irrefl, not_true_eq_false, not_false_eq_true, true_implies, false_implies, implies_true, and_true, true_and, and_self, ne_eq, Classical.not_not]
      dsimp only at hS
      refine ⟨fun q => ?_, fun q => ?_⟩
      · rw [if_neg (by omega)] at hS; exact hS
      · rw [if_pos (by omega)] at hS; exact hS

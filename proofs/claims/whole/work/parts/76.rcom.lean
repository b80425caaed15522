set_option maxHeartbeats 4000000 in
theorem mX7_laysPair (d : Nat) (hd : 8 ≤ d) : cm_Met d yX7_laysPair cX7_laysPair 7 none 0 0 SX7_laysPair := by
  refine cm_meets (J := JX7_laysPair) (by decide) rfl (fun h => by cases h) trivial ?_
  intro as T M Φ hS
  match as, hS with
  | [.ref m0, .int a, .int b], ⟨l, h, hD, ea, eb, hlh, hh, hlo, hS⟩ =>
    refine ⟨Nat.le_of_ble_eq_true rfl, ?_⟩
    obtain ⟨m, hm⟩ : ∃ m : Nat, m = m0 := ⟨m0, rfl⟩
    subst hm
    subst ea eb
    have hT := hD.1
    obtain ⟨k0, ⟨r0, r2, r3, r6, r9, r10, r11, r12, r13, r14, r15, r16, r17, r18, r19, r22, r25, r26, r27⟩, ⟨c1, c2, c3, c4, c5, c6, c7, c8, c9, c10, c11, c12, c13, c14, c15, c16, c17, c18, c19⟩, ⟨l1, l2, l3, l4, l5, l6, l7, l8, l9, l10, l11, l12, l13, l14, l15, l16, l17, l18, l19⟩⟩ := id hT
    obtain ⟨hn, h16⟩ := hD.n
    have hW : WB (mbk M m) := hD.2.1.2.1.1
    obtain ⟨p1, p2, p3⟩ := prI_rg hlh (show h < 16 by omega)
    obtain ⟨κ, hκ⟩ : ∃ κ : Nat, prI l h = (κ : Int) := ⟨(prI l h).toNat, by omega⟩
    refine cm_go hX7_laysPair 200 oX7_laysPair (eX7_laysPair d hd) lX7_laysPair_0 ?_
    simp (disch := omega) only [jX7_laysPair, kX7_laysPair_0, fl_7_13, fl_7_155, fl_7_16, k0, r0, r2, r3, r6, r9, r10, r11, r12, r13, r14, r15, r16, r17, r18, r19, r22, r25, r26, r27, c1, c2, c3, c4, c5, c6, c7, c8, c9, c10, c11, c12, c13, c14, c15, c16, c17, c18, c19, l1, l2, l3, l4, l5, l6, l7, l8, l9, l10, l11, l12, l13, l14, l15, l16, l17, l18, l19, cn_iconst, cn_lconst0, cn_lconst1, cn_null, cn_iload, cn_aload, cn_lload, cn_lo1, cn_loa1, cn_loa2, cn_lol1, cn_get0, cn_gets, cn_put0, cn_puts, cn_istore, cn_astore, cn_astoreN, cn_lstore, cn_iinc, cn_in1, cn_iadd, cn_isub, cn_imul, cn_iand, cn_ior, cn_ixor, cn_ishl, cn_ishr, cn_iushr, cn_idiv, cn_irem, cn_ladd, cn_lmul, cn_ldiv, cn_lrem, cn_i2l, cn_l2i, cn_i2b, cn_lcmp, cn_dupi, cn_dupr, cn_dup2, cn_popi, cn_popr, cn_goto, cn_if_eq, cn_if_ne, cn_if_lt, cn_if_ge, cn_if_gt, cn_if_le, cn_ic_eq, cn_ic_ne, cn_ic_lt, cn_ic_ge, cn_ic_gt, cn_ic_le, cn_ifnullN, cn_ifnullR, cn_ifnonnullN, cn_ifnonnullR, cn_tswS, cn_tsw0, cn_tsw1, cn_lswS, cn_lsw0, cn_lsw1, cn_alen, cn_iaload, cn_laload, cn_rr1, cn_rr0, cn_aaload, cn_iastore, cn_lastore, cn_aastore, cn_getfield, cn_gf0, cn_gf1, cn_gf2, cn_gf3, cn_putfield, cn_pf0f, cn_pf1f, cn_pf2f, cn_pf3f, cn_pf0t, cn_pf1t, cn_pf2t, cn_pf3t, cn_new, cn_nw1, cn_newi, cn_newl, cn_anew, cn_an1, cn_inv_v, cn_inv_s, cn_inv_p, cn_ca1, cn_cb1, cn_pop0, cn_pops, cn_rk0, cn_rk1, cn_kcn, cn_kcs, cn_ireturn, cn_lreturn, cn_areturn, cn_return, cn_re0, cn_re1, cn_re2, cn_re3, cn_re4, cn_re5, cn_wp0, cn_wps, cn_m0, cn_m1, cn_e0, cn_en, cn_ei, cn_er, cn_eu, cn_el, cn_nl0, cn_nls, cn_nb0, cn_nb1, cn_nb2, cn_nb3, cn_bd0, cn_bds, cn_cwi, cn_cwr, cn_cwl, cn_cwn, cn_wi2, cn_wl1, cn_wl3, cn_wr1, cn_wr2, cn_wi_eq, cn_wl_eq, cb_0, cb_n0, cb_b, cm_okb0, cm_okb1, Classical.not_not, true_and, and_true, Nat.reduceAdd, Nat.reduceSub, Nat.reduceLT, Nat.reduceLeDiff, Int.reduceToNat, Int.reduceNatCast', Nat.zero_le, Nat.reduceEqDiff, false_or, or_false, or_true, true_or, Int.reduceNeg, reduceCtorEq, false_implies, implies_true, forall_const, true_implies, not_true_eq_false, not_false_eq_true, Nat.le_refl, ne_eq, if_true, if_false, ite_true, ite_false, List.cons_append, List.nil_append, w3_add, w3_sub, w3_mul, w3_le, w3_lt, w3_eq, w3_toInt, w3_ix, w3_00, w3_10, i0_le, i0_lt, i0_ge, i0_gt, i0_eq, Int.reduceLE, Int.reduceLT, Int.reduceAdd, Int.reduceSub, Int.reduceMul, Int.reduceEq, Int.le_refl, Int.lt_irrefl]
    refine ⟨l, h, hlh, by omega, Or.inl ⟨rfl, rfl⟩, ?_⟩
    rw [hκ]
    simp (disch := omega) only [jX7_laysPair, kX7_laysPair_0, fl_7_13, fl_7_155, fl_7_16, k0, r0, r2, r3, r6, r9, r10, r11, r12, r13, r14, r15, r16, r17, r18, r19, r22, r25, r26, r27, c1, c2, c3, c4, c5, c6, c7, c8, c9, c10, c11, c12, c13, c14, c15, c16, c17, c18, c19, l1, l2, l3, l4, l5, l6, l7, l8, l9, l10, l11, l12, l13, l14, l15, l16, l17, l18, l19, cn_iconst, cn_lconst0, cn_lconst1, cn_null, cn_iload, cn_aload, cn_lload, cn_lo1, cn_loa1, cn_loa2, cn_lol1, cn_get0, cn_gets, cn_put0, cn_puts, cn_istore, cn_astore, cn_astoreN, cn_lstore, cn_iinc, cn_in1, cn_iadd, cn_isub, cn_imul, cn_iand, cn_ior, cn_ixor, cn_ishl, cn_ishr, cn_iushr, cn_idiv, cn_irem, cn_ladd, cn_lmul, cn_ldiv, cn_lrem, cn_i2l, cn_l2i, cn_i2b, cn_lcmp, cn_dupi, cn_dupr, cn_dup2, cn_popi, cn_popr, cn_goto, cn_if_eq, cn_if_ne, cn_if_lt, cn_if_ge, cn_if_gt, cn_if_le, cn_ic_eq, cn_ic_ne, cn_ic_lt, cn_ic_ge, cn_ic_gt, cn_ic_le, cn_ifnullN, cn_ifnullR, cn_ifnonnullN, cn_ifnonnullR, cn_tswS, cn_tsw0, cn_tsw1, cn_lswS, cn_lsw0, cn_lsw1, cn_alen, cn_iaload, cn_laload, cn_rr1, cn_rr0, cn_aaload, cn_iastore, cn_lastore, cn_aastore, cn_getfield, cn_gf0, cn_gf1, cn_gf2, cn_gf3, cn_putfield, cn_pf0f, cn_pf1f, cn_pf2f, cn_pf3f, cn_pf0t, cn_pf1t, cn_pf2t, cn_pf3t, cn_new, cn_nw1, cn_newi, cn_newl, cn_anew, cn_an1, cn_inv_v, cn_inv_s, cn_inv_p, cn_ca1, cn_cb1, cn_pop0, cn_pops, cn_rk0, cn_rk1, cn_kcn, cn_kcs, cn_ireturn, cn_lreturn, cn_areturn, cn_return, cn_re0, cn_re1, cn_re2, cn_re3, cn_re4, cn_re5, cn_wp0, cn_wps, cn_m0, cn_m1, cn_e0, cn_en, cn_ei, cn_er, cn_eu, cn_el, cn_nl0, cn_nls, cn_nb0, cn_nb1, cn_nb2, cn_nb3, cn_bd0, cn_bds, cn_cwi, cn_cwr, cn_cwl, cn_cwn, cn_wi2, cn_wl1, cn_wl3, cn_wr1, cn_wr2, cn_wi_eq, cn_wl_eq, cb_0, cb_n0, cb_b, cm_okb0, cm_okb1, Classical.not_not, true_and, and_true, Nat.reduceAdd, Nat.reduceSub, Nat.reduceLT, Nat.reduceLeDiff, Int.reduceToNat, Int.reduceNatCast', Nat.zero_le, Nat.reduceEqDiff, false_or, or_false, or_true, true_or, Int.reduceNeg, reduceCtorEq, false_implies, implies_true, forall_const, true_implies, not_true_eq_false, not_false_eq_true, Nat.le_refl, ne_eq, if_true, if_false, ite_true, ite_false, List.cons_append, List.nil_append, w3_add, w3_sub, w3_mul, w3_le, w3_lt, w3_eq, w3_toInt, w3_ix, w3_00, w3_10, i0_le, i0_lt, i0_ge, i0_gt, i0_eq, Int.reduceLE, Int.reduceLT, Int.reduceAdd, Int.reduceSub, Int.reduceMul, Int.reduceEq, Int.le_refl, Int.lt_irrefl]
    refine ⟨l, h, hD, rfl, rfl, by omega, hh, fun M1 F1 => ?_⟩
    have e1 := F1.2
    simp (disch := omega) only [jX7_laysPair, kX7_laysPair_0, fl_7_13, fl_7_155, fl_7_16, e1, k0, r0, r2, r3, r6, r9, r10, r11, r12, r13, r14, r15, r16, r17, r18, r19, r22, r25, r26, r27, c1, c2, c3, c4, c5, c6, c7, c8, c9, c10, c11, c12, c13, c14, c15, c16, c17, c18, c19, l1, l2, l3, l4, l5, l6, l7, l8, l9, l10, l11, l12, l13, l14, l15, l16, l17, l18, l19, cn_iconst, cn_lconst0, cn_lconst1, cn_null, cn_iload, cn_aload, cn_lload, cn_lo1, cn_loa1, cn_loa2, cn_lol1, cn_get0, cn_gets, cn_put0, cn_puts, cn_istore, cn_astore, cn_astoreN, cn_lstore, cn_iinc, cn_in1, cn_iadd, cn_isub, cn_imul, cn_iand, cn_ior, cn_ixor, cn_ishl, cn_ishr, cn_iushr, cn_idiv, cn_irem, cn_ladd, cn_lmul, cn_ldiv, cn_lrem, cn_i2l, cn_l2i, cn_i2b, cn_lcmp, cn_dupi, cn_dupr, cn_dup2, cn_popi, cn_popr, cn_goto, cn_if_eq, cn_if_ne, cn_if_lt, cn_if_ge, cn_if_gt, cn_if_le, cn_ic_eq, cn_ic_ne, cn_ic_lt, cn_ic_ge, cn_ic_gt, cn_ic_le, cn_ifnullN, cn_ifnullR, cn_ifnonnullN, cn_ifnonnullR, cn_tswS, cn_tsw0, cn_tsw1, cn_lswS, cn_lsw0, cn_lsw1, cn_alen, cn_iaload, cn_laload, cn_rr1, cn_rr0, cn_aaload, cn_iastore, cn_lastore, cn_aastore, cn_getfield, cn_gf0, cn_gf1, cn_gf2, cn_gf3, cn_putfield, cn_pf0f, cn_pf1f, cn_pf2f, cn_pf3f, cn_pf0t, cn_pf1t, cn_pf2t, cn_pf3t, cn_new, cn_nw1, cn_newi, cn_newl, cn_anew, cn_an1, cn_inv_v, cn_inv_s, cn_inv_p, cn_ca1, cn_cb1, cn_pop0, cn_pops, cn_rk0, cn_rk1, cn_kcn, cn_kcs, cn_ireturn, cn_lreturn, cn_areturn, cn_return, cn_re0, cn_re1, cn_re2, cn_re3, cn_re4, cn_re5, cn_wp0, cn_wps, cn_m0, cn_m1, cn_e0, cn_en, cn_ei, cn_er, cn_eu, cn_el, cn_nl0, cn_nls, cn_nb0, cn_nb1, cn_nb2, cn_nb3, cn_bd0, cn_bds, cn_cwi, cn_cwr, cn_cwl, cn_cwn, cn_wi2, cn_wl1, cn_wl3, cn_wr1, cn_wr2, cn_wi_eq, cn_wl_eq, cb_0, cb_n0, cb_b, cm_okb0, cm_okb1, Classical.not_not, true_and, and_true, Nat.reduceAdd, Nat.reduceSub, Nat.reduceLT, Nat.reduceLeDiff, Int.reduceToNat, Int.reduceNatCast', Nat.zero_le, Nat.reduceEqDiff, false_or, or_false, or_true, true_or, Int.reduceNeg, reduceCtorEq, false_implies, implies_true, forall_const, true_implies, not_true_eq_false, not_false_eq_true, Nat.le_refl, ne_eq, if_true, if_false, ite_true, ite_false, List.cons_append, List.nil_append, w3_add, w3_sub, w3_mul, w3_le, w3_lt, w3_eq, w3_toInt, w3_ix, w3_00, w3_10, i0_le, i0_lt, i0_ge, i0_gt, i0_eq, Int.reduceLE, Int.reduceLT, Int.reduceAdd, Int.reduceSub, Int.reduceMul, Int.reduceEq, Int.le_refl, Int.lt_irrefl]
    repeat (with_reducible refine And.intro (by omega) ?_)
    have F2 : Fz (lpP m κ) M (cm_wi M1 (m + 2) (κ : Int) (w3 1)) := (F1.mono (fun q k w => Or.inr (Or.inl w))).trans (Fz.wi (Or.inl (by unfold joP; omega)))
    refine lX7_laysPair d hd hD hlh hh hκ.symm hlo (fun M2 F hL => ?_) (mbk M m).1 0 _ (-9) (by omega) F2 (by omega) (by omega) ?_
    · have hL : ∃ la, LPs M M2 m κ h (mbk M m).1 (cmL (mbk M m) (cmn (mbk M m) 16) (nrB (mbk M m) (l : Int) (h : Int)) (mbk M m).1) la := hL.elim (fun w => ⟨0, w⟩) id
      obtain ⟨la, hL⟩ := hL
      have rmem : ∀ z : Int, z < 2032 → M2.1 (m + 1) z = M.1 (m + 1) z := fun z hz => F.1 _ _ (by unfold lpP joP; omega)
      have fnd : CAk (M2.1 (m + 1)) (M2.1 (m + 3)) (M2.1 (m + 2)) (mbk M m) l h ∧ ¬ M2.1 (m + 2) (prI l h) = w3 0 := by
        have hcm := cmn_16 h16 hlh hh
        unfold CAk
        rw [hκ]
        cases hc : cmL (mbk M m) (cmn (mbk M m) 16) (nrB (mbk M m) (l : Int) (h : Int)) (mbk M m).1 with
        | none =>
          rw [hc] at hL hcm
          have hL : M2.1 (m + 2) (κ : Int) = w3 3 := hL
          exact ⟨Or.inr (Or.inr ⟨hL, hcm⟩), by rw [hL]; decide⟩
        | some cl =>
          obtain ⟨c, lb⟩ := cl
          rw [hc] at hL hcm
          cases c with
          | none =>
            obtain ⟨v, v1, v2⟩ := nrB_ex hW (show l < (mbk M m).1 by omega) hh
            exact absurd v2 ((cmL_no _ _ hc).2 v v1)
          | some t =>
            have hcm : cmn (mbk M m) 16 (l : Int) (h : Int) = some t := hcm
            obtain ⟨-, -, -, hCF⟩ := hL
            rcases hCF with ⟨b1, u, u1, u2, u3, u4⟩ | ⟨b1, b2, b3⟩
            · refine ⟨Or.inl ⟨b1, u, u1, u2, t.1, ?_⟩, by rw [b1]; decide⟩
              obtain ⟨gf1, gf2⟩ := hD.2.1.2.1.fil (Nat.lt_trans u1 hh)
              have gf1 : ((mbk M m).2 u).1.2 = tA (M.1 (m + 1)) (127 * (u : Int) + 4) := gf1
              have tacu : tA (M2.1 (m + 1)) (127 * (u : Int) + 4) = tA (M.1 (m + 1)) (127 * (u : Int) + 4) := (tA_cong (fun φ hφ => (gf2 φ hφ).2) (fun k a b => (rmem _ (by omega)).symm)).symm
              rw [hcm, gf1, ← tacu, ← u3]
            · refine ⟨Or.inr (Or.inl ⟨b1, ⟨t.1, ?_⟩, b3⟩), by rw [b1]; decide⟩
              rw [hcm, ← b2]
      have Fc : Fz (coP m) M M2 := F.mono (fun q k w => by unfold lpP joP at w; unfold coP scr; omega)
      have hCA : CA (M2.1 (m + 1)) (M2.1 (m + 3)) (M2.1 (m + 2)) (mbk M m) := by
        intro l2 h2 hl2 hh2
        by_cases e : l2 = l ∧ h2 = h
        · rw [e.1, e.2]; exact Or.inr ⟨hh, fnd.1⟩
        · obtain ⟨r1, r2, r3'⟩ := prI_rg hl2 hh2
          have hne : prI l2 h2 ≠ (κ : Int) := fun w => e (by rw [← hκ] at w; exact prI_inj hl2 hh2 hlh (by omega) w)
          obtain ⟨κ2, hκ2⟩ : ∃ κ2 : Nat, prI l2 h2 = (κ2 : Int) := ⟨(prI l2 h2).toNat, by omega⟩
          have rp : M2.1 (m + 2) (prI l2 h2) = M.1 (m + 2) (prI l2 h2) := F.1 _ _ (by unfold lpP joP; omega)
          have rg : M2.1 (m + 3) (prI l2 h2) = M.1 (m + 3) (prI l2 h2) := F.1 _ _ (by unfold lpP joP; omega)
          have rc : ∀ z : Int, 2032 + 123 * prI l2 h2 ≤ z → z < 2032 + 123 * prI l2 h2 + 123 → M2.1 (m + 1) z = M.1 (m + 1) z := fun z z1 z2 => F.1 _ _ (by rw [hκ2] at z1 z2 hne r2; unfold lpP joP; omega)
          rw [rp]
          rcases hD.2.1.2.2.2 l2 h2 hl2 hh2 with q | ⟨q, w⟩
          · exact Or.inl q
          · refine Or.inr ⟨q, ?_⟩
            unfold CAk
            rw [rp, rg]
            rcases w with w | ⟨w1, ⟨t, w2⟩, w3'⟩ | w
            · exact Or.inl w
            · refine Or.inr (Or.inl ⟨w1, ⟨t, ?_⟩, fun φ hφ => ?_⟩)
              · rw [w2, tA_cong (g := M2.1 (m + 1)) (b := 2032 + 123 * prI l2 h2) (fun φ hφ => (w3' φ hφ).2) (fun k a b => (rc _ (by omega) (by omega)).symm)]
              · rw [rc _ (by omega) (by omega)]; exact w3' φ hφ
            · exact Or.inr (Or.inr w)
      obtain ⟨c1', c2', c3'⟩ := md_com hD Fc hCA
      exact hS M2 c3' c1' c2' fnd.2 (fun z hz => F.1 _ _ (by unfold lpP joP; omega))
    · refine ⟨rfl, rfl, cn_wi_eq⟩

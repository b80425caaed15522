def coQ (m n : Nat) : Nat → Int → Prop := fun q k => (q = m ∧ k = 1) ∨ (q = m + 1 ∧ 127 * (n : Int) ≤ k ∧ k < 127 * (n : Int) + 127)
def SX7_comes : cm_CT := fun as T M Φ => match as with
  | [.ref m, .int kd, .int f, .int s, .int t, .int a] => ∃ n A : Nat, TMd T M.2.2 m ∧ M.1 m 1 = w3 (n : Int) ∧ n < 16 ∧ a = w3 (A : Int) ∧ 2032 ≤ A ∧ A + 123 ≤ 17038 ∧ ∀ M1, Fz (coQ m n) M M1 → M1.1 m 1 = w3 ((n : Int) + 1) → (M1.1 (m + 1) (127 * (n : Int)) = kd ∧ M1.1 (m + 1) (127 * (n : Int) + 1) = f ∧ M1.1 (m + 1) (127 * (n : Int) + 2) = s ∧ M1.1 (m + 1) (127 * (n : Int) + 3) = t) → (∀ k : Int, 0 ≤ k → k < 123 → M1.1 (m + 1) (127 * (n : Int) + 4 + k) = M.1 (m + 1) ((A : Int) + k)) → Φ none T M1
  | _ => False
def JX7_comes : cm_J := (7, false, 0, [], [], [])
theorem jX7_comes : JX7_comes.1 = 7 ∧ JX7_comes.2.1 = false ∧ JX7_comes.2.2.1 = 0 := ⟨rfl, rfl, rfl⟩
theorem eX7_comes (d : Nat) (hd : 0 ≤ d) : cm_Cok d JX7_comes := ⟨(fun q h => by cases h), (fun q h => by cases h), (fun q h => by cases h)⟩
set_option maxHeartbeats 8000000 in
theorem lX7_comes (d : Nat) (hd : 0 ≤ d) {T : cm_T} {M : cm_M} {Φ : Option Value → cm_T → cm_M → Prop} {m n A : Nat} {kd f s t : Int32} (hT : TMd T M.2.2 m) (hn : M.1 m 1 = w3 (n : Int)) (h16 : n < 16) (hA : 2032 ≤ A) (hA2 : A + 123 ≤ 17038) (hS : ∀ M1, Fz (coQ m n) M M1 → M1.1 m 1 = w3 ((n : Int) + 1) → (M1.1 (m + 1) (127 * (n : Int)) = kd ∧ M1.1 (m + 1) (127 * (n : Int) + 1) = f ∧ M1.1 (m + 1) (127 * (n : Int) + 2) = s ∧ M1.1 (m + 1) (127 * (n : Int) + 3) = t) → (∀ k : Int, 0 ≤ k → k < 123 → M1.1 (m + 1) (127 * (n : Int) + 4 + k) = M.1 (m + 1) ((A : Int) + k)) → Φ none T M1) :
    ∀ (g c : Nat) (M1 : cm_M), g + c = 123 → Fz (coQ m n) M M1 → M1.1 m 1 = w3 (n : Int) → (M1.1 (m + 1) (127 * (n : Int)) = kd ∧ M1.1 (m + 1) (127 * (n : Int) + 1) = f ∧ M1.1 (m + 1) (127 * (n : Int) + 2) = s ∧ M1.1 (m + 1) (127 * (n : Int) + 3) = t) → (∀ k : Int, 0 ≤ k → k < (c : Int) → M1.1 (m + 1) (127 * (n : Int) + 4 + k) = M.1 (m + 1) ((A : Int) + k)) → cm_Go d cX7_comes 8 0 0 JX7_comes Φ 53 [some (.ref m), some (.int kd), some (.int f), some (.int s), some (.int t), some (.int (w3 (A : Int))), some (.int (w3 (127 * (n : Int)))), some (.int (w3 (c : Int)))] [] (0, 0) T M1 := by
  obtain ⟨k0, ⟨r0, r2, r3, r6, r9, r10, r11, r12, r13, r14, r15, r16, r17, r18, r19, r22, r25, r26, r27⟩, ⟨c1, c2, c3, c4, c5, c6, c7, c8, c9, c10, c11, c12, c13, c14, c15, c16, c17, c18, c19⟩, ⟨l1, l2, l3, l4, l5, l6, l7, l8, l9, l10, l11, l12, l13, l14, l15, l16, l17, l18, l19⟩⟩ := id hT
  intro g
  induction g with
  | zero =>
    intro c M1 hc F h1 hh hk
    have ec : c = 123 := by omega
    subst ec
    have e2 := F.2
    have q0 : ((123 : Int) ≤ ((123 : Nat) : Int)) = True := eq_true (by omega)
    refine cm_go hX7_comes 100 oX7_comes (eX7_comes d hd) lX7_comes_53 ?_
    simp (disch := omega) only [jX7_comes, kX7_comes_0, kX7_comes_1, fl_7_155, fl_7_7, e2, h1, q0, k0, r0, r2, r3, r6, r9, r10, r11, r12, r13, r14, r15, r16, r17, r18, r19, r22, r25, r26, r27, c1, c2, c3, c4, c5, c6, c7, c8, c9, c10, c11, c12, c13, c14, c15, c16, c17, c18, c19, l1, l2, l3, l4, l5, l6, l7, l8, l9, l10, l11, l12, l13, l14, l15, l16, l17, l18, l19, cn_iconst, cn_lconst0, cn_lconst1, cn_null, cn_iload, cn_aload, cn_lload, cn_lo1, cn_loa1, cn_loa2, cn_lol1, cn_get0, cn_gets, cn_put0, cn_puts, cn_istore, cn_astore, cn_astoreN, cn_lstore, cn_iinc, cn_in1, cn_iadd, cn_isub, cn_imul, cn_iand, cn_ior, cn_ixor, cn_ishl, cn_ishr, cn_iushr, cn_idiv, cn_irem, cn_ladd, cn_lmul, cn_ldiv, cn_lrem, cn_i2l, cn_l2i, cn_i2b, cn_lcmp, cn_dupi, cn_dupr, cn_dup2, cn_popi, cn_popr, cn_goto, cn_if_eq, cn_if_ne, cn_if_lt, cn_if_ge, cn_if_gt, cn_if_le, cn_ic_eq, cn_ic_ne, cn_ic_lt, cn_ic_ge, cn_ic_gt, cn_ic_le, cn_ifnullN, cn_ifnullR, cn_ifnonnullN, cn_ifnonnullR, cn_tswS, cn_tsw0, cn_tsw1, cn_lswS, cn_lsw0, cn_lsw1, cn_alen, cn_iaload, cn_laload, cn_rr1, cn_rr0, cn_aaload, cn_iastore, cn_lastore, cn_aastore, cn_getfield, cn_gf0, cn_gf1, cn_gf2, cn_gf3, cn_putfield, cn_pf0f, cn_pf1f, cn_pf2f, cn_pf3f, cn_pf0t, cn_pf1t, cn_pf2t, cn_pf3t, cn_new, cn_nw1, cn_newi, cn_newl, cn_anew, cn_an1, cn_inv_v, cn_inv_s, cn_inv_p, cn_ca1, cn_cb1, cn_pop0, cn_pops, cn_rk0, cn_rk1, cn_kcn, cn_kcs, cn_ireturn, cn_lreturn, cn_areturn, cn_return, cn_re0, cn_re1, cn_re2, cn_re3, cn_re4, cn_re5, cn_wp0, cn_wps, cn_m0, cn_m1, cn_e0, cn_en, cn_ei, cn_er, cn_eu, cn_el, cn_nl0, cn_nls, cn_nb0, cn_nb1, cn_nb2, cn_nb3, cn_bd0, cn_bds, cn_cwi, cn_cwr, cn_cwl, cn_cwn, cn_wi2, cn_wl1, cn_wl3, cn_wr1, cn_wr2, cn_wi_eq, cn_wl_eq, cb_0, cb_n0, cb_b, cm_okb0, cm_okb1, Classical.not_not, true_and, and_true, Nat.reduceAdd, Nat.reduceSub, Nat.reduceLT, Nat.reduceLeDiff, Int.reduceToNat, Int.reduceNatCast', Nat.zero_le, Nat.reduceEqDiff, false_or, or_false, or_true, true_or, Int.reduceNeg, reduceCtorEq, false_implies, implies_true, forall_const, true_implies, not_true_eq_false, not_false_eq_true, Nat.le_refl, ne_eq, if_true, if_false, ite_true, ite_false, List.cons_append, List.nil_append, w3_add, w3_sub, w3_mul, w3_le, w3_lt, w3_eq, w3_toInt, w3_ix, w3_00, w3_10, i0_le, i0_lt, i0_ge, i0_gt, i0_eq, Int.reduceLE, Int.reduceLT, Int.reduceAdd, Int.reduceSub, Int.reduceMul, Int.reduceEq, Int.le_refl, Int.lt_irrefl]
    have er : (cm_wi M1 m 1 (w3 ((n : Int) + 1))).1 (m + 1) = M1.1 (m + 1) := wi_r (by omega)
    refine hS _ (F.trans (Fz.wi (Or.inl ⟨rfl, rfl⟩))) cn_wi_eq (by rw [er]; exact hh) (fun k a b => by rw [er]; exact hk k a (by omega))
  | succ g ih =>
    intro c M1 hc F h1 hh hk
    have e2 := F.2
    have q0 : ((123 : Int) ≤ (c : Int)) = False := eq_false (by omega)
    have rd : M1.1 (m + 1) ((A : Int) + (c : Int)) = M.1 (m + 1) ((A : Int) + (c : Int)) := F.1 _ _ (by unfold coQ; omega)
    refine cm_go hX7_comes 100 oX7_comes (eX7_comes d hd) lX7_comes_53 ?_
    simp (disch := omega) only [jX7_comes, kX7_comes_0, kX7_comes_1, fl_7_155, fl_7_7, e2, h1, q0, rd, k0, r0, r2, r3, r6, r9, r10, r11, r12, r13, r14, r15, r16, r17, r18, r19, r22, r25, r26, r27, c1, c2, c3, c4, c5, c6, c7, c8, c9, c10, c11, c12, c13, c14, c15, c16, c17, c18, c19, l1, l2, l3, l4, l5, l6, l7, l8, l9, l10, l11, l12, l13, l14, l15, l16, l17, l18, l19, cn_iconst, cn_lconst0, cn_lconst1, cn_null, cn_iload, cn_aload, cn_lload, cn_lo1, cn_loa1, cn_loa2, cn_lol1, cn_get0, cn_gets, cn_put0, cn_puts, cn_istore, cn_astore, cn_astoreN, cn_lstore, cn_iinc, cn_in1, cn_iadd, cn_isub, cn_imul, cn_iand, cn_ior, cn_ixor, cn_ishl, cn_ishr, cn_iushr, cn_idiv, cn_irem, cn_ladd, cn_lmul, cn_ldiv, cn_lrem, cn_i2l, cn_l2i, cn_i2b, cn_lcmp, cn_dupi, cn_dupr, cn_dup2, cn_popi, cn_popr, cn_goto, cn_if_eq, cn_if_ne, cn_if_lt, cn_if_ge, cn_if_gt, cn_if_le, cn_ic_eq, cn_ic_ne, cn_ic_lt, cn_ic_ge, cn_ic_gt, cn_ic_le, cn_ifnullN, cn_ifnullR, cn_ifnonnullN, cn_ifnonnullR, cn_tswS, cn_tsw0, cn_tsw1, cn_lswS, cn_lsw0, cn_lsw1, cn_alen, cn_iaload, cn_laload, cn_rr1, cn_rr0, cn_aaload, cn_iastore, cn_lastore, cn_aastore, cn_getfield, cn_gf0, cn_gf1, cn_gf2, cn_gf3, cn_putfield, cn_pf0f, cn_pf1f, cn_pf2f, cn_pf3f, cn_pf0t, cn_pf1t, cn_pf2t, cn_pf3t, cn_new, cn_nw1, cn_newi, cn_newl, cn_anew, cn_an1, cn_inv_v, cn_inv_s, cn_inv_p, cn_ca1, cn_cb1, cn_pop0, cn_pops, cn_rk0, cn_rk1, cn_kcn, cn_kcs, cn_ireturn, cn_lreturn, cn_areturn, cn_return, cn_re0, cn_re1, cn_re2, cn_re3, cn_re4, cn_re5, cn_wp0, cn_wps, cn_m0, cn_m1, cn_e0, cn_en, cn_ei, cn_er, cn_eu, cn_el, cn_nl0, cn_nls, cn_nb0, cn_nb1, cn_nb2, cn_nb3, cn_bd0, cn_bds, cn_cwi, cn_cwr, cn_cwl, cn_cwn, cn_wi2, cn_wl1, cn_wl3, cn_wr1, cn_wr2, cn_wi_eq, cn_wl_eq, cb_0, cb_n0, cb_b, cm_okb0, cm_okb1, Classical.not_not, true_and, and_true, Nat.reduceAdd, Nat.reduceSub, Nat.reduceLT, Nat.reduceLeDiff, Int.reduceToNat, Int.reduceNatCast', Nat.zero_le, Nat.reduceEqDiff, false_or, or_false, or_true, true_or, Int.reduceNeg, reduceCtorEq, false_implies, implies_true, forall_const, true_implies, not_true_eq_false, not_false_eq_true, Nat.le_refl, ne_eq, if_true, if_false, ite_true, ite_false, List.cons_append, List.nil_append, w3_add, w3_sub, w3_mul, w3_le, w3_lt, w3_eq, w3_toInt, w3_ix, w3_00, w3_10, i0_le, i0_lt, i0_ge, i0_gt, i0_eq, Int.reduceLE, Int.reduceLT, Int.reduceAdd, Int.reduceSub, Int.reduceMul, Int.reduceEq, Int.le_refl, Int.lt_irrefl]
    repeat (with_reducible refine And.intro (by omega) ?_)
    obtain ⟨a1, a2, a3, a4⟩ := hh
    refine ih (c + 1) _ (by omega) (F.trans (Fz.wi (Or.inr ⟨rfl, by omega, by omega⟩))) (by rw [cn_wi_ne (Or.inl (by omega))]; exact h1) ⟨?_, ?_, ?_, ?_⟩ (fun k u1 u2 => ?_)
    · rw [cn_wi_ne (Or.inr (by omega))]; exact a1
    · rw [cn_wi_ne (Or.inr (by omega))]; exact a2
    · rw [cn_wi_ne (Or.inr (by omega))]; exact a3
    · rw [cn_wi_ne (Or.inr (by omega))]; exact a4
    · by_cases e : k = (c : Int)
      · subst e; exact cn_wi_eq
      · rw [cn_wi_ne (Or.inr (by omega))]; exact hk k u1 (by omega)
set_option maxHeartbeats 4000000 in
theorem mX7_comes (d : Nat) (hd : 0 ≤ d) : cm_Met d yX7_comes cX7_comes 8 none 0 0 SX7_comes := by
  refine cm_meets (J := JX7_comes) (by decide) rfl (fun h => by cases h) trivial ?_
  intro as T M Φ hS
  match as, hS with
  | [.ref m0, .int kd, .int f, .int s, .int t, .int a], ⟨n, A, hT, hn, h16, ea, hA, hA2, hS⟩ =>
    refine ⟨Nat.le_of_ble_eq_true rfl, ?_⟩
    obtain ⟨m, hm⟩ : ∃ m : Nat, m = m0 := ⟨m0, rfl⟩
    subst hm
    subst ea
    obtain ⟨k0, ⟨r0, r2, r3, r6, r9, r10, r11, r12, r13, r14, r15, r16, r17, r18, r19, r22, r25, r26, r27⟩, ⟨c1, c2, c3, c4, c5, c6, c7, c8, c9, c10, c11, c12, c13, c14, c15, c16, c17, c18, c19⟩, ⟨l1, l2, l3, l4, l5, l6, l7, l8, l9, l10, l11, l12, l13, l14, l15, l16, l17, l18, l19⟩⟩ := id hT
    refine cm_go hX7_comes 100 oX7_comes (eX7_comes d hd) lX7_comes_0 ?_
    simp (disch := omega) only [jX7_comes, kX7_comes_0, kX7_comes_1, fl_7_155, fl_7_7, hn, Int.add_zero, k0, r0, r2, r3, r6, r9, r10, r11, r12, r13, r14, r15, r16, r17, r18, r19, r22, r25, r26, r27, c1, c2, c3, c4, c5, c6, c7, c8, c9, c10, c11, c12, c13, c14, c15, c16, c17, c18, c19, l1, l2, l3, l4, l5, l6, l7, l8, l9, l10, l11, l12, l13, l14, l15, l16, l17, l18, l19, cn_iconst, cn_lconst0, cn_lconst1, cn_null, cn_iload, cn_aload, cn_lload, cn_lo1, cn_loa1, cn_loa2, cn_lol1, cn_get0, cn_gets, cn_put0, cn_puts, cn_istore, cn_astore, cn_astoreN, cn_lstore, cn_iinc, cn_in1, cn_iadd, cn_isub, cn_imul, cn_iand, cn_ior, cn_ixor, cn_ishl, cn_ishr, cn_iushr, cn_idiv, cn_irem, cn_ladd, cn_lmul, cn_ldiv, cn_lrem, cn_i2l, cn_l2i, cn_i2b, cn_lcmp, cn_dupi, cn_dupr, cn_dup2, cn_popi, cn_popr, cn_goto, cn_if_eq, cn_if_ne, cn_if_lt, cn_if_ge, cn_if_gt, cn_if_le, cn_ic_eq, cn_ic_ne, cn_ic_lt, cn_ic_ge, cn_ic_gt, cn_ic_le, cn_ifnullN, cn_ifnullR, cn_ifnonnullN, cn_ifnonnullR, cn_tswS, cn_tsw0, cn_tsw1, cn_lswS, cn_lsw0, cn_lsw1, cn_alen, cn_iaload, cn_laload, cn_rr1, cn_rr0, cn_aaload, cn_iastore, cn_lastore, cn_aastore, cn_getfield, cn_gf0, cn_gf1, cn_gf2, cn_gf3, cn_putfield, cn_pf0f, cn_pf1f, cn_pf2f, cn_pf3f, cn_pf0t, cn_pf1t, cn_pf2t, cn_pf3t, cn_new, cn_nw1, cn_newi, cn_newl, cn_anew, cn_an1, cn_inv_v, cn_inv_s, cn_inv_p, cn_ca1, cn_cb1, cn_pop0, cn_pops, cn_rk0, cn_rk1, cn_kcn, cn_kcs, cn_ireturn, cn_lreturn, cn_areturn, cn_return, cn_re0, cn_re1, cn_re2, cn_re3, cn_re4, cn_re5, cn_wp0, cn_wps, cn_m0, cn_m1, cn_e0, cn_en, cn_ei, cn_er, cn_eu, cn_el, cn_nl0, cn_nls, cn_nb0, cn_nb1, cn_nb2, cn_nb3, cn_bd0, cn_bds, cn_cwi, cn_cwr, cn_cwl, cn_cwn, cn_wi2, cn_wl1, cn_wl3, cn_wr1, cn_wr2, cn_wi_eq, cn_wl_eq, cb_0, cb_n0, cb_b, cm_okb0, cm_okb1, Classical.not_not, true_and, and_true, Nat.reduceAdd, Nat.reduceSub, Nat.reduceLT, Nat.reduceLeDiff, Int.reduceToNat, Int.reduceNatCast', Nat.zero_le, Nat.reduceEqDiff, false_or, or_false, or_true, true_or, Int.reduceNeg, reduceCtorEq, false_implies, implies_true, forall_const, true_implies, not_true_eq_false, not_false_eq_true, Nat.le_refl, ne_eq, if_true, if_false, ite_true, ite_false, List.cons_append, List.nil_append, w3_add, w3_sub, w3_mul, w3_le, w3_lt, w3_eq, w3_toInt, w3_ix, w3_00, w3_10, i0_le, i0_lt, i0_ge, i0_gt, i0_eq, Int.reduceLE, Int.reduceLT, Int.reduceAdd, Int.reduceSub, Int.reduceMul, Int.reduceEq, Int.le_refl, Int.lt_irrefl]
    repeat (with_reducible refine And.intro (by omega) ?_)
    refine lX7_comes d hd hT hn h16 hA hA2 hS 123 0 _ (by omega) ((((Fz.wi (Or.inr ⟨rfl, by omega, by omega⟩)).trans (Fz.wi (Or.inr ⟨rfl, by omega, by omega⟩))).trans (Fz.wi (Or.inr ⟨rfl, by omega, by omega⟩))).trans (Fz.wi (Or.inr ⟨rfl, by omega, by omega⟩))) ?_ ⟨?_, ?_, ?_, cn_wi_eq⟩ (fun k u1 u2 => by omega)
    · rw [cn_wi_ne (Or.inl (by omega)), cn_wi_ne (Or.inl (by omega)), cn_wi_ne (Or.inl (by omega)), cn_wi_ne (Or.inl (by omega))]; exact hn
    · rw [cn_wi_ne (Or.inr (by omega)), cn_wi_ne (Or.inr (by omega)), cn_wi_ne (Or.inr (by omega)), cn_wi_eq]
    · rw [cn_wi_ne (Or.inr (by omega)), cn_wi_ne (Or.inr (by omega)), cn_wi_eq]
    · rw [cn_wi_ne (Or.inr (by omega)), cn_wi_eq]
theorem knd_chg {B : Bk} {x : Tv} {v : Nat} (h : v < B.1) : knd (bAdd B (x, (v : Int), -9)) B.1 = w3 2 := by
  have e : (bAdd B (x, (v : Int), -9)).2 B.1 = (x, (v : Int), -9) := if_pos rfl
  have e1 : (bAdd B (x, (v : Int), -9)).1 = B.1 + 1 := rfl
  unfold knd
  rw [e, e1]
  dsimp only
  rw [if_neg (by omega), if_pos (by omega)]
theorem set_tA {X : Tv} {φ : Nat} {F : Fl} {f : Int → Int32} {a : Int} (h : ∀ ψ : Nat, ψ < 3 → fA f (a + 41 * (ψ : Int)) = if ψ = φ then F else pk X ψ) : tA f a = (setF X φ F).2 := by
  have h0 : fA f a = if 0 = φ then F else X.2.1 := by
    have := h 0 (by omega)
    rw [show a + 41 * ((0 : Nat) : Int) = a by omega] at this
    exact this
  have h1 : fA f (a + 41) = if 1 = φ then F else X.2.2.1 := by
    have := h 1 (by omega)
    rw [show a + 41 * ((1 : Nat) : Int) = a + 41 by omega] at this
    exact this
  have h2 : fA f (a + 82) = if 2 = φ then F else X.2.2.2 := by
    have := h 2 (by omega)
    rw [show a + 41 * ((2 : Nat) : Int) = a + 82 by omega] at this
    exact this
  show (fA f a, fA f (a + 41), fA f (a + 82)) = ((if φ = 0 then F else X.2.1), (if φ = 1 then F else X.2.2.1), (if φ = 2 then F else X.2.2.2))
  rw [h0, h1, h2]
  refine Prod.ext ?_ (Prod.ext ?_ ?_)
  · show (if 0 = φ then F else X.2.1) = if φ = 0 then F else X.2.1
    by_cases e : φ = 0
    · rw [if_pos e, if_pos e.symm]
    · rw [if_neg e, if_neg (fun w => e w.symm)]
  · show (if 1 = φ then F else X.2.2.1) = if φ = 1 then F else X.2.2.1
    by_cases e : φ = 1
    · rw [if_pos e, if_pos e.symm]
    · rw [if_neg e, if_neg (fun w => e w.symm)]
  · show (if 2 = φ then F else X.2.2.2) = if φ = 2 then F else X.2.2.2
    by_cases e : φ = 2
    · rw [if_pos e, if_pos e.symm]
    · rw [if_neg e, if_neg (fun w => e w.symm)]
def otP (m : Nat) : Nat → Int → Prop := fun q k => q = m + 1 ∧ 16915 ≤ k
def SX7_changes : cm_CT := fun as T M Φ => match as with
  | [.ref m, .int v, .int f] => ∃ (ν φ n : Nat) (F : Fl), MD T M m ∧ v = w3 (ν : Int) ∧ f = w3 (φ : Int) ∧ (mbk M m).1 = n ∧ ν < n ∧ n < 16 ∧ φ < 3 ∧ (-1 ≤ (M.1 (m + 1) (16915 + 41 * (φ : Int))).toInt ∧ (M.1 (m + 1) (16915 + 41 * (φ : Int))).toInt ≤ 40) ∧ fA (M.1 (m + 1)) (16915 + 41 * (φ : Int)) = F ∧ Bal (cnt F) ∧ ∀ M1, FrM M M1 m → MD T M1 m → mst M1 m = stB (mst M m) (bAdd (mbk M m) (setF (clr ((mbk M m).2 ν).1 (w3 (φ : Int))) φ F, (ν : Int), -9)) → Φ (some (.int (w3 (n : Int)))) T M1
  | _ => False
def JX7_changes : cm_J := (7, false, 1, [(201, 6, 8, 0, 0, SX7_comes)], [], [])
theorem jX7_changes : JX7_changes.1 = 7 ∧ JX7_changes.2.1 = false ∧ JX7_changes.2.2.1 = 1 ∧ cm_gv JX7_changes 201 = some (6, 8, 0, 0, SX7_comes) := ⟨rfl, rfl, rfl, rfl⟩
theorem eX7_changes (d : Nat) (hd : 1 ≤ d) : cm_Cok d JX7_changes := ⟨(List.forall_mem_cons.mpr ⟨q7_201 (mX7_comes (d - 1) (by omega)) (by omega), (fun q h => by cases h)⟩), (fun q h => by cases h), (fun q h => by cases h)⟩
theorem lX7_changes_68 : tX7_changes.lookup 68 = some (.aload 0, 1) := by decide +kernel
set_option maxHeartbeats 8000000 in
theorem lX7_changes (d : Nat) (hd : 1 ≤ d) {T : cm_T} {M : cm_M} {Φ : Option Value → cm_T → cm_M → Prop} {m ν φ : Nat} {t : Int32} (hT : TMd T M.2.2 m) (hν : ν < 16) (hφ : φ < 3) (hS : ∀ M1, Fz (otP m) M M1 → (∀ k : Int, 0 ≤ k → k < (123 : Int) → ¬ k / 41 = (φ : Int) → M1.1 (m + 1) (16915 + k) = M.1 (m + 1) (127 * (ν : Int) + 4 + k)) → (∀ k : Int, 0 ≤ k → k < 123 → k / 41 = (φ : Int) → M1.1 (m + 1) (16915 + k) = M.1 (m + 1) (16915 + k)) → cm_Go d cX7_changes 5 0 0 JX7_changes Φ 68 [some (.ref m), some (.int (w3 (ν : Int))), some (.int (w3 (φ : Int))), some (.int t), some (.int (w3 123))] [] (0, 0) T M1) :
    ∀ (g c : Nat) (M1 : cm_M), g + c = 123 → Fz (otP m) M M1 → (∀ k : Int, 0 ≤ k → k < (c : Int) → ¬ k / 41 = (φ : Int) → M1.1 (m + 1) (16915 + k) = M.1 (m + 1) (127 * (ν : Int) + 4 + k)) → (∀ k : Int, 0 ≤ k → k < 123 → k / 41 = (φ : Int) → M1.1 (m + 1) (16915 + k) = M.1 (m + 1) (16915 + k)) → cm_Go d cX7_changes 5 0 0 JX7_changes Φ 21 [some (.ref m), some (.int (w3 (ν : Int))), some (.int (w3 (φ : Int))), some (.int t), some (.int (w3 (c : Int)))] [] (0, 0) T M1 := by
  obtain ⟨k0, ⟨r0, r2, r3, r6, r9, r10, r11, r12, r13, r14, r15, r16, r17, r18, r19, r22, r25, r26, r27⟩, ⟨c1, c2, c3, c4, c5, c6, c7, c8, c9, c10, c11, c12, c13, c14, c15, c16, c17, c18, c19⟩, ⟨l1, l2, l3, l4, l5, l6, l7, l8, l9, l10, l11, l12, l13, l14, l15, l16, l17, l18, l19⟩⟩ := id hT
  have c41 : (w3 41 = 0) = False := eq_false (by decide)
  intro g
  induction g with
  | zero =>
    intro c M1 hc F i1 i2
    have ec : c = 123 := by omega
    subst ec
    have q0 : ((123 : Int) ≤ ((123 : Nat) : Int)) = True := eq_true (by omega)
    refine cm_go hX7_changes 2 oX7_changes (eX7_changes d hd) lX7_changes_21 ?_
    simp (disch := omega) only [jX7_changes, kX7_changes_0, fl_7_7, fl_7_155, q0, k0, r0, r2, r3, r6, r9, r10, r11, r12, r13, r14, r15, r16, r17, r18, r19, r22, r25, r26, r27, c1, c2, c3, c4, c5, c6, c7, c8, c9, c10, c11, c12, c13, c14, c15, c16, c17, c18, c19, l1, l2, l3, l4, l5, l6, l7, l8, l9, l10, l11, l12, l13, l14, l15, l16, l17, l18, l19, cn_iconst, cn_lconst0, cn_lconst1, cn_null, cn_iload, cn_aload, cn_lload, cn_lo1, cn_loa1, cn_loa2, cn_lol1, cn_get0, cn_gets, cn_put0, cn_puts, cn_istore, cn_astore, cn_astoreN, cn_lstore, cn_iinc, cn_in1, cn_iadd, cn_isub, cn_imul, cn_iand, cn_ior, cn_ixor, cn_ishl, cn_ishr, cn_iushr, cn_idiv, cn_irem, cn_ladd, cn_lmul, cn_ldiv, cn_lrem, cn_i2l, cn_l2i, cn_i2b, cn_lcmp, cn_dupi, cn_dupr, cn_dup2, cn_popi, cn_popr, cn_goto, cn_if_eq, cn_if_ne, cn_if_lt, cn_if_ge, cn_if_gt, cn_if_le, cn_ic_eq, cn_ic_ne, cn_ic_lt, cn_ic_ge, cn_ic_gt, cn_ic_le, cn_ifnullN, cn_ifnullR, cn_ifnonnullN, cn_ifnonnullR, cn_tswS, cn_tsw0, cn_tsw1, cn_lswS, cn_lsw0, cn_lsw1, cn_alen, cn_iaload, cn_laload, cn_rr1, cn_rr0, cn_aaload, cn_iastore, cn_lastore, cn_aastore, cn_getfield, cn_gf0, cn_gf1, cn_gf2, cn_gf3, cn_putfield, cn_pf0f, cn_pf1f, cn_pf2f, cn_pf3f, cn_pf0t, cn_pf1t, cn_pf2t, cn_pf3t, cn_new, cn_nw1, cn_newi, cn_newl, cn_anew, cn_an1, cn_inv_v, cn_inv_s, cn_inv_p, cn_ca1, cn_cb1, cn_pop0, cn_pops, cn_rk0, cn_rk1, cn_kcn, cn_kcs, cn_ireturn, cn_lreturn, cn_areturn, cn_return, cn_re0, cn_re1, cn_re2, cn_re3, cn_re4, cn_re5, cn_wp0, cn_wps, cn_m0, cn_m1, cn_e0, cn_en, cn_ei, cn_er, cn_eu, cn_el, cn_nl0, cn_nls, cn_nb0, cn_nb1, cn_nb2, cn_nb3, cn_bd0, cn_bds, cn_cwi, cn_cwr, cn_cwl, cn_cwn, cn_wi2, cn_wl1, cn_wl3, cn_wr1, cn_wr2, cn_wi_eq, cn_wl_eq, cb_0, cb_n0, cb_b, cm_okb0, cm_okb1, Classical.not_not, true_and, and_true, Nat.reduceAdd, Nat.reduceSub, Nat.reduceLT, Nat.reduceLeDiff, Int.reduceToNat, Int.reduceNatCast', Nat.zero_le, Nat.reduceEqDiff, false_or, or_false, or_true, true_or, Int.reduceNeg, reduceCtorEq, false_implies, implies_true, forall_const, true_implies, not_true_eq_false, not_false_eq_true, Nat.le_refl, ne_eq, if_true, if_false, ite_true, ite_false, List.cons_append, List.nil_append, w3_add, w3_sub, w3_mul, w3_le, w3_lt, w3_eq, w3_toInt, w3_ix, w3_00, w3_10, i0_le, i0_lt, i0_ge, i0_gt, i0_eq, Int.reduceLE, Int.reduceLT, Int.reduceAdd, Int.reduceSub, Int.reduceMul, Int.reduceEq, Int.le_refl, Int.lt_irrefl]
    exact hS M1 F (fun k a b => i1 k a (by omega)) i2
  | succ g ih =>
    intro c M1 hc F i1 i2
    have e2 := F.2
    have q0 : ((123 : Int) ≤ (c : Int)) = False := eq_false (by omega)
    have D : w3 (c : Int) / w3 41 = w3 ((c : Int) / 41) := w3_dv (by omega) (by omega) (by omega) (by omega)
    have rd : M1.1 (m + 1) (127 * (ν : Int) + 4 + (c : Int)) = M.1 (m + 1) (127 * (ν : Int) + 4 + (c : Int)) := F.1 _ _ (by unfold otP; omega)
    by_cases hq : (c : Int) / 41 = (φ : Int)
    · have q1 : ((c : Int) / 41 = (φ : Int)) = True := eq_true hq
      refine cm_go hX7_changes 100 oX7_changes (eX7_changes d hd) lX7_changes_21 ?_
      simp (disch := omega) only [jX7_changes, kX7_changes_0, fl_7_7, fl_7_155, e2, q0, D, c41, q1, k0, r0, r2, r3, r6, r9, r10, r11, r12, r13, r14, r15, r16, r17, r18, r19, r22, r25, r26, r27, c1, c2, c3, c4, c5, c6, c7, c8, c9, c10, c11, c12, c13, c14, c15, c16, c17, c18, c19, l1, l2, l3, l4, l5, l6, l7, l8, l9, l10, l11, l12, l13, l14, l15, l16, l17, l18, l19, cn_iconst, cn_lconst0, cn_lconst1, cn_null, cn_iload, cn_aload, cn_lload, cn_lo1, cn_loa1, cn_loa2, cn_lol1, cn_get0, cn_gets, cn_put0, cn_puts, cn_istore, cn_astore, cn_astoreN, cn_lstore, cn_iinc, cn_in1, cn_iadd, cn_isub, cn_imul, cn_iand, cn_ior, cn_ixor, cn_ishl, cn_ishr, cn_iushr, cn_idiv, cn_irem, cn_ladd, cn_lmul, cn_ldiv, cn_lrem, cn_i2l, cn_l2i, cn_i2b, cn_lcmp, cn_dupi, cn_dupr, cn_dup2, cn_popi, cn_popr, cn_goto, cn_if_eq, cn_if_ne, cn_if_lt, cn_if_ge, cn_if_gt, cn_if_le, cn_ic_eq, cn_ic_ne, cn_ic_lt, cn_ic_ge, cn_ic_gt, cn_ic_le, cn_ifnullN, cn_ifnullR, cn_ifnonnullN, cn_ifnonnullR, cn_tswS, cn_tsw0, cn_tsw1, cn_lswS, cn_lsw0, cn_lsw1, cn_alen, cn_iaload, cn_laload, cn_rr1, cn_rr0, cn_aaload, cn_iastore, cn_lastore, cn_aastore, cn_getfield, cn_gf0, cn_gf1, cn_gf2, cn_gf3, cn_putfield, cn_pf0f, cn_pf1f, cn_pf2f, cn_pf3f, cn_pf0t, cn_pf1t, cn_pf2t, cn_pf3t, cn_new, cn_nw1, cn_newi, cn_newl, cn_anew, cn_an1, cn_inv_v, cn_inv_s, cn_inv_p, cn_ca1, cn_cb1, cn_pop0, cn_pops, cn_rk0, cn_rk1, cn_kcn, cn_kcs, cn_ireturn, cn_lreturn, cn_areturn, cn_return, cn_re0, cn_re1, cn_re2, cn_re3, cn_re4, cn_re5, cn_wp0, cn_wps, cn_m0, cn_m1, cn_e0, cn_en, cn_ei, cn_er, cn_eu, cn_el, cn_nl0, cn_nls, cn_nb0, cn_nb1, cn_nb2, cn_nb3, cn_bd0, cn_bds, cn_cwi, cn_cwr, cn_cwl, cn_cwn, cn_wi2, cn_wl1, cn_wl3, cn_wr1, cn_wr2, cn_wi_eq, cn_wl_eq, cb_0, cb_n0, cb_b, cm_okb0, cm_okb1, Classical.not_not, true_and, and_true, Nat.reduceAdd, Nat.reduceSub, Nat.reduceLT, Nat.reduceLeDiff, Int.reduceToNat, Int.reduceNatCast', Nat.zero_le, Nat.reduceEqDiff, false_or, or_false, or_true, true_or, Int.reduceNeg, reduceCtorEq, false_implies, implies_true, forall_const, true_implies, not_true_eq_false, not_false_eq_true, Nat.le_refl, ne_eq, if_true, if_false, ite_true, ite_false, List.cons_append, List.nil_append, w3_add, w3_sub, w3_mul, w3_le, w3_lt, w3_eq, w3_toInt, w3_ix, w3_00, w3_10, i0_le, i0_lt, i0_ge, i0_gt, i0_eq, Int.reduceLE, Int.reduceLT, Int.reduceAdd, Int.reduceSub, Int.reduceMul, Int.reduceEq, Int.le_refl, Int.lt_irrefl]
      exact ih (c + 1) M1 (by omega) F (fun k a b w => i1 k a (by omega) w) i2
    · have q1 : ((c : Int) / 41 = (φ : Int)) = False := eq_false hq
      refine cm_go hX7_changes 100 oX7_changes (eX7_changes d hd) lX7_changes_21 ?_
      simp (disch := omega) only [jX7_changes, kX7_changes_0, fl_7_7, fl_7_155, e2, q0, D, c41, q1, rd, k0, r0, r2, r3, r6, r9, r10, r11, r12, r13, r14, r15, r16, r17, r18, r19, r22, r25, r26, r27, c1, c2, c3, c4, c5, c6, c7, c8, c9, c10, c11, c12, c13, c14, c15, c16, c17, c18, c19, l1, l2, l3, l4, l5, l6, l7, l8, l9, l10, l11, l12, l13, l14, l15, l16, l17, l18, l19, cn_iconst, cn_lconst0, cn_lconst1, cn_null, cn_iload, cn_aload, cn_lload, cn_lo1, cn_loa1, cn_loa2, cn_lol1, cn_get0, cn_gets, cn_put0, cn_puts, cn_istore, cn_astore, cn_astoreN, cn_lstore, cn_iinc, cn_in1, cn_iadd, cn_isub, cn_imul, cn_iand, cn_ior, cn_ixor, cn_ishl, cn_ishr, cn_iushr, cn_idiv, cn_irem, cn_ladd, cn_lmul, cn_ldiv, cn_lrem, cn_i2l, cn_l2i, cn_i2b, cn_lcmp, cn_dupi, cn_dupr, cn_dup2, cn_popi, cn_popr, cn_goto, cn_if_eq, cn_if_ne, cn_if_lt, cn_if_ge, cn_if_gt, cn_if_le, cn_ic_eq, cn_ic_ne, cn_ic_lt, cn_ic_ge, cn_ic_gt, cn_ic_le, cn_ifnullN, cn_ifnullR, cn_ifnonnullN, cn_ifnonnullR, cn_tswS, cn_tsw0, cn_tsw1, cn_lswS, cn_lsw0, cn_lsw1, cn_alen, cn_iaload, cn_laload, cn_rr1, cn_rr0, cn_aaload, cn_iastore, cn_lastore, cn_aastore, cn_getfield, cn_gf0, cn_gf1, cn_gf2, cn_gf3, cn_putfield, cn_pf0f, cn_pf1f, cn_pf2f, cn_pf3f, cn_pf0t, cn_pf1t, cn_pf2t, cn_pf3t, cn_new, cn_nw1, cn_newi, cn_newl, cn_anew, cn_an1, cn_inv_v, cn_inv_s, cn_inv_p, cn_ca1, cn_cb1, cn_pop0, cn_pops, cn_rk0, cn_rk1, cn_kcn, cn_kcs, cn_ireturn, cn_lreturn, cn_areturn, cn_return, cn_re0, cn_re1, cn_re2, cn_re3, cn_re4, cn_re5, cn_wp0, cn_wps, cn_m0, cn_m1, cn_e0, cn_en, cn_ei, cn_er, cn_eu, cn_el, cn_nl0, cn_nls, cn_nb0, cn_nb1, cn_nb2, cn_nb3, cn_bd0, cn_bds, cn_cwi, cn_cwr, cn_cwl, cn_cwn, cn_wi2, cn_wl1, cn_wl3, cn_wr1, cn_wr2, cn_wi_eq, cn_wl_eq, cb_0, cb_n0, cb_b, cm_okb0, cm_okb1, Classical.not_not, true_and, and_true, Nat.reduceAdd, Nat.reduceSub, Nat.reduceLT, Nat.reduceLeDiff, Int.reduceToNat, Int.reduceNatCast', Nat.zero_le, Nat.reduceEqDiff, false_or, or_false, or_true, true_or, Int.reduceNeg, reduceCtorEq, false_implies, implies_true, forall_const, true_implies, not_true_eq_false, not_false_eq_true, Nat.le_refl, ne_eq, if_true, if_false, ite_true, ite_false, List.cons_append, List.nil_append, w3_add, w3_sub, w3_mul, w3_le, w3_lt, w3_eq, w3_toInt, w3_ix, w3_00, w3_10, i0_le, i0_lt, i0_ge, i0_gt, i0_eq, Int.reduceLE, Int.reduceLT, Int.reduceAdd, Int.reduceSub, Int.reduceMul, Int.reduceEq, Int.le_refl, Int.lt_irrefl]
      repeat (with_reducible refine And.intro (by omega) ?_)
      refine ih (c + 1) _ (by omega) (F.trans (Fz.wi ⟨rfl, by omega⟩)) (fun k a b w => ?_) (fun k a b w => ?_)
      · by_cases e : k = (c : Int)
        · subst e; exact cn_wi_eq
        · rw [cn_wi_ne (Or.inr (by omega))]; exact i1 k a (by omega) w
      · by_cases e : k = (c : Int)
        · subst e; exact absurd w hq
        · rw [cn_wi_ne (Or.inr (by omega))]; exact i2 k a b w
set_option maxHeartbeats 4000000 in
theorem mX7_changes (d : Nat) (hd : 1 ≤ d) : cm_Met d yX7_changes cX7_changes 5 (some .int) 0 0 SX7_changes := by
  refine cm_meets (J := JX7_changes) (by decide) rfl (fun h => by cases h) trivial ?_
  intro as T M Φ hS
  match as, hS with
  | [.ref m0, .int v, .int f], ⟨ν, φ, n, F, hD, ev, ef, hn, hν, h16, hφ, hz, hF, hBF, hS⟩ =>
    refine ⟨Nat.le_of_ble_eq_true rfl, ?_⟩
    obtain ⟨m, hm⟩ : ∃ m : Nat, m = m0 := ⟨m0, rfl⟩
    subst hm
    subst ev ef
    have hT := hD.1
    obtain ⟨k0, ⟨r0, r2, r3, r6, r9, r10, r11, r12, r13, r14, r15, r16, r17, r18, r19, r22, r25, r26, r27⟩, ⟨c1, c2, c3, c4, c5, c6, c7, c8, c9, c10, c11, c12, c13, c14, c15, c16, c17, c18, c19⟩, ⟨l1, l2, l3, l4, l5, l6, l7, l8, l9, l10, l11, l12, l13, l14, l15, l16, l17, l18, l19⟩⟩ := id hT
    have hn1 : M.1 m 1 = w3 (n : Int) := by rw [← hn]; exact hD.n.1
    have hB : BW (M.1 (m + 1)) 0 (mbk M m).1 := hD.2.1.2.1
    have hνn : ν < (mbk M m).1 := by rw [hn]; exact hν
    have v4 : M.1 (m + 1) (127 * (ν : Int) + 3) = ((mbk M m).2 ν).1.1 := by
      have e : (mbk M m).2 ν = vA (M.1 (m + 1)) 0 ν := if_pos hνn
      rw [e]
      show _ = M.1 (m + 1) (0 + 127 * (ν : Int) + 3)
      rw [Int.zero_add]
    have hX := (hB.1.2.1 ν hνn).1
    have hX : TvG ((mbk M m).2 ν).1 := hX
    refine cm_go hX7_changes 100 oX7_changes (eX7_changes d hd) lX7_changes_0 ?_
    simp (disch := omega) only [jX7_changes, kX7_changes_0, fl_7_7, fl_7_155, v4, k0, r0, r2, r3, r6, r9, r10, r11, r12, r13, r14, r15, r16, r17, r18, r19, r22, r25, r26, r27, c1, c2, c3, c4, c5, c6, c7, c8, c9, c10, c11, c12, c13, c14, c15, c16, c17, c18, c19, l1, l2, l3, l4, l5, l6, l7, l8, l9, l10, l11, l12, l13, l14, l15, l16, l17, l18, l19, cn_iconst, cn_lconst0, cn_lconst1, cn_null, cn_iload, cn_aload, cn_lload, cn_lo1, cn_loa1, cn_loa2, cn_lol1, cn_get0, cn_gets, cn_put0, cn_puts, cn_istore, cn_astore, cn_astoreN, cn_lstore, cn_iinc, cn_in1, cn_iadd, cn_isub, cn_imul, cn_iand, cn_ior, cn_ixor, cn_ishl, cn_ishr, cn_iushr, cn_idiv, cn_irem, cn_ladd, cn_lmul, cn_ldiv, cn_lrem, cn_i2l, cn_l2i, cn_i2b, cn_lcmp, cn_dupi, cn_dupr, cn_dup2, cn_popi, cn_popr, cn_goto, cn_if_eq, cn_if_ne, cn_if_lt, cn_if_ge, cn_if_gt, cn_if_le, cn_ic_eq, cn_ic_ne, cn_ic_lt, cn_ic_ge, cn_ic_gt, cn_ic_le, cn_ifnullN, cn_ifnullR, cn_ifnonnullN, cn_ifnonnullR, cn_tswS, cn_tsw0, cn_tsw1, cn_lswS, cn_lsw0, cn_lsw1, cn_alen, cn_iaload, cn_laload, cn_rr1, cn_rr0, cn_aaload, cn_iastore, cn_lastore, cn_aastore, cn_getfield, cn_gf0, cn_gf1, cn_gf2, cn_gf3, cn_putfield, cn_pf0f, cn_pf1f, cn_pf2f, cn_pf3f, cn_pf0t, cn_pf1t, cn_pf2t, cn_pf3t, cn_new, cn_nw1, cn_newi, cn_newl, cn_anew, cn_an1, cn_inv_v, cn_inv_s, cn_inv_p, cn_ca1, cn_cb1, cn_pop0, cn_pops, cn_rk0, cn_rk1, cn_kcn, cn_kcs, cn_ireturn, cn_lreturn, cn_areturn, cn_return, cn_re0, cn_re1, cn_re2, cn_re3, cn_re4, cn_re5, cn_wp0, cn_wps, cn_m0, cn_m1, cn_e0, cn_en, cn_ei, cn_er, cn_eu, cn_el, cn_nl0, cn_nls, cn_nb0, cn_nb1, cn_nb2, cn_nb3, cn_bd0, cn_bds, cn_cwi, cn_cwr, cn_cwl, cn_cwn, cn_wi2, cn_wl1, cn_wl3, cn_wr1, cn_wr2, cn_wi_eq, cn_wl_eq, cb_0, cb_n0, cb_b, cm_okb0, cm_okb1, Classical.not_not, true_and, and_true, Nat.reduceAdd, Nat.reduceSub, Nat.reduceLT, Nat.reduceLeDiff, Int.reduceToNat, Int.reduceNatCast', Nat.zero_le, Nat.reduceEqDiff, false_or, or_false, or_true, true_or, Int.reduceNeg, reduceCtorEq, false_implies, implies_true, forall_const, true_implies, not_true_eq_false, not_false_eq_true, Nat.le_refl, ne_eq, if_true, if_false, ite_true, ite_false, List.cons_append, List.nil_append, w3_add, w3_sub, w3_mul, w3_le, w3_lt, w3_eq, w3_toInt, w3_ix, w3_00, w3_10, i0_le, i0_lt, i0_ge, i0_gt, i0_eq, Int.reduceLE, Int.reduceLT, Int.reduceAdd, Int.reduceSub, Int.reduceMul, Int.reduceEq, Int.le_refl, Int.lt_irrefl]
    repeat (with_reducible refine And.intro (by omega) ?_)
    refine lX7_changes d hd hT (by omega) hφ (fun M1 F1 i1 i2 => ?_) 123 0 M rfl Fz.rf (fun k a b => by omega) (fun k _ _ _ => rfl)
    have e2 := F1.2
    have r1 : M1.1 m 1 = w3 (n : Int) := by rw [F1.1 _ _ (by unfold otP; omega)]; exact hn1
    have fz : ∀ ψ : Nat, ψ < 3 → (-1 ≤ (M1.1 (m + 1) (16915 + 41 * (ψ : Int))).toInt ∧ (M1.1 (m + 1) (16915 + 41 * (ψ : Int))).toInt ≤ 40) ∧ fA (M1.1 (m + 1)) (16915 + 41 * (ψ : Int)) = if ψ = φ then F else pk (clr ((mbk M m).2 ν).1 (w3 (φ : Int))) ψ := by
      intro ψ hψ
      by_cases e : ψ = φ
      · subst e
        have e0 := i2 (41 * (ψ : Int)) (by omega) (by omega) (by omega)
        rw [if_pos rfl, e0]
        refine ⟨hz, ?_⟩
        rw [← hF]
        refine fA_cong e0 (by rw [e0]; exact hz.2) (fun k a b => ?_)
        have := i2 (41 * (ψ : Int) + 1 + k) (by omega) (by omega) (by omega)
        rw [← Int.add_assoc, ← Int.add_assoc] at this
        exact this
      · obtain ⟨⟨g1, g2, -⟩, g3⟩ := md_fi hD hνn hψ
        have ej : ((127 * ν + 4 + 41 * ψ : Nat) : Int) = 127 * (ν : Int) + 4 + 41 * (ψ : Int) := by omega
        rw [ej] at g1 g2 g3
        have e0 := i1 (41 * (ψ : Int)) (by omega) (by omega) (by omega)
        rw [if_neg e, e0]
        refine ⟨⟨g1, g2⟩, ?_⟩
        have g3 : fA (M.1 (m + 1)) (127 * (ν : Int) + 4 + 41 * (ψ : Int)) = pk (clr ((mbk M m).2 ν).1 (w3 (φ : Int))) ψ := g3
        rw [← g3]
        refine fA_cong e0 (by rw [e0]; exact g2) (fun k a b => ?_)
        have := i1 (41 * (ψ : Int) + 1 + k) (by omega) (by omega) (by omega)
        rw [← Int.add_assoc, ← Int.add_assoc, ← Int.add_assoc, ← Int.add_assoc] at this
        exact this
    refine cm_go hX7_changes 100 oX7_changes (eX7_changes d hd) lX7_changes_68 ?_
    simp (disch := omega) only [jX7_changes, kX7_changes_0, fl_7_7, fl_7_155, e2, k0, r0, r2, r3, r6, r9, r10, r11, r12, r13, r14, r15, r16, r17, r18, r19, r22, r25, r26, r27, c1, c2, c3, c4, c5, c6, c7, c8, c9, c10, c11, c12, c13, c14, c15, c16, c17, c18, c19, l1, l2, l3, l4, l5, l6, l7, l8, l9, l10, l11, l12, l13, l14, l15, l16, l17, l18, l19, cn_iconst, cn_lconst0, cn_lconst1, cn_null, cn_iload, cn_aload, cn_lload, cn_lo1, cn_loa1, cn_loa2, cn_lol1, cn_get0, cn_gets, cn_put0, cn_puts, cn_istore, cn_astore, cn_astoreN, cn_lstore, cn_iinc, cn_in1, cn_iadd, cn_isub, cn_imul, cn_iand, cn_ior, cn_ixor, cn_ishl, cn_ishr, cn_iushr, cn_idiv, cn_irem, cn_ladd, cn_lmul, cn_ldiv, cn_lrem, cn_i2l, cn_l2i, cn_i2b, cn_lcmp, cn_dupi, cn_dupr, cn_dup2, cn_popi, cn_popr, cn_goto, cn_if_eq, cn_if_ne, cn_if_lt, cn_if_ge, cn_if_gt, cn_if_le, cn_ic_eq, cn_ic_ne, cn_ic_lt, cn_ic_ge, cn_ic_gt, cn_ic_le, cn_ifnullN, cn_ifnullR, cn_ifnonnullN, cn_ifnonnullR, cn_tswS, cn_tsw0, cn_tsw1, cn_lswS, cn_lsw0, cn_lsw1, cn_alen, cn_iaload, cn_laload, cn_rr1, cn_rr0, cn_aaload, cn_iastore, cn_lastore, cn_aastore, cn_getfield, cn_gf0, cn_gf1, cn_gf2, cn_gf3, cn_putfield, cn_pf0f, cn_pf1f, cn_pf2f, cn_pf3f, cn_pf0t, cn_pf1t, cn_pf2t, cn_pf3t, cn_new, cn_nw1, cn_newi, cn_newl, cn_anew, cn_an1, cn_inv_v, cn_inv_s, cn_inv_p, cn_ca1, cn_cb1, cn_pop0, cn_pops, cn_rk0, cn_rk1, cn_kcn, cn_kcs, cn_ireturn, cn_lreturn, cn_areturn, cn_return, cn_re0, cn_re1, cn_re2, cn_re3, cn_re4, cn_re5, cn_wp0, cn_wps, cn_m0, cn_m1, cn_e0, cn_en, cn_ei, cn_er, cn_eu, cn_el, cn_nl0, cn_nls, cn_nb0, cn_nb1, cn_nb2, cn_nb3, cn_bd0, cn_bds, cn_cwi, cn_cwr, cn_cwl, cn_cwn, cn_wi2, cn_wl1, cn_wl3, cn_wr1, cn_wr2, cn_wi_eq, cn_wl_eq, cb_0, cb_n0, cb_b, cm_okb0, cm_okb1, Classical.not_not, true_and, and_true, Nat.reduceAdd, Nat.reduceSub, Nat.reduceLT, Nat.reduceLeDiff, Int.reduceToNat, Int.reduceNatCast', Nat.zero_le, Nat.reduceEqDiff, false_or, or_false, or_true, true_or, Int.reduceNeg, reduceCtorEq, false_implies, implies_true, forall_const, true_implies, not_true_eq_false, not_false_eq_true, Nat.le_refl, ne_eq, if_true, if_false, ite_true, ite_false, List.cons_append, List.nil_append, w3_add, w3_sub, w3_mul, w3_le, w3_lt, w3_eq, w3_toInt, w3_ix, w3_00, w3_10, i0_le, i0_lt, i0_ge, i0_gt, i0_eq, Int.reduceLE, Int.reduceLT, Int.reduceAdd, Int.reduceSub, Int.reduceMul, Int.reduceEq, Int.le_refl, Int.lt_irrefl]
    refine ⟨n, 16915, by rw [e2]; exact hT, r1, h16, rfl, by omega, by omega, fun M2 F2 n2 hh hk => ?_⟩
    obtain ⟨a1, a2, a3, a4⟩ := hh
    have e3 := F2.2
    have ta : tA (M2.1 (m + 1)) (127 * (n : Int) + 4) = tA (M1.1 (m + 1)) 16915 := tA_cong (fun ψ hψ => by rw [hk _ (by omega) (by omega)]; exact (fz ψ hψ).1.2) (fun k u1 u2 => hk k u1 u2)
    have hkd := knd_chg (B := mbk M m) (x := setF (clr ((mbk M m).2 ν).1 (w3 (φ : Int))) φ F) hνn
    rw [hn] at hkd
    obtain ⟨d1, d2, d3⟩ := md_add (r := (setF (clr ((mbk M m).2 ν).1 (w3 (φ : Int))) φ F, (ν : Int), -9)) hD hn h16 ((F1.mono (fun q k w => by unfold otP at w; unfold adP scr; omega)).trans (F2.mono (fun q k w => Or.inr w))) n2 (by rw [a1]; exact hkd.symm) (by
      unfold vA
      rw [Int.zero_add, a2, a3, a4, ta, set_tA (fun ψ hψ => (fz ψ hψ).2), w3_toInt (by omega) (by omega), w3_toInt (by omega) (by omega)]
      exact rfl) (fun ψ hψ => by rw [hk _ (by omega) (by omega)]; exact (fz ψ hψ).1) (setF_g (clr_g hX) hBF) ⟨fun w => by omega, fun _ => ⟨by show (0 : Int) ≤ (ν : Int); omega, by show (ν : Int) < (n : Int); omega, Or.inl rfl⟩⟩
    have hQ := hS M2 d3 d1 d2
    have en : (n : Int) + 1 - 1 = (n : Int) := by omega
    simp (disch := omega) only [jX7_changes, kX7_changes_0, fl_7_7, fl_7_155, e3, e2, n2, en, k0, r0, r2, r3, r6, r9, r10, r11, r12, r13, r14, r15, r16, r17, r18, r19, r22, r25, r26, r27, c1, c2, c3, c4, c5, c6, c7, c8, c9, c10, c11, c12, c13, c14, c15, c16, c17, c18, c19, l1, l2, l3, l4, l5, l6, l7, l8, l9, l10, l11, l12, l13, l14, l15, l16, l17, l18, l19, cn_iconst, cn_lconst0, cn_lconst1, cn_null, cn_iload, cn_aload, cn_lload, cn_lo1, cn_loa1, cn_loa2, cn_lol1, cn_get0, cn_gets, cn_put0, cn_puts, cn_istore, cn_astore, cn_astoreN, cn_lstore, cn_iinc, cn_in1, cn_iadd, cn_isub, cn_imul, cn_iand, cn_ior, cn_ixor, cn_ishl, cn_ishr, cn_iushr, cn_idiv, cn_irem, cn_ladd, cn_lmul, cn_ldiv, cn_lrem, cn_i2l, cn_l2i, cn_i2b, cn_lcmp, cn_dupi, cn_dupr, cn_dup2, cn_popi, cn_popr, cn_goto, cn_if_eq, cn_if_ne, cn_if_lt, cn_if_ge, cn_if_gt, cn_if_le, cn_ic_eq, cn_ic_ne, cn_ic_lt, cn_ic_ge, cn_ic_gt, cn_ic_le, cn_ifnullN, cn_ifnullR, cn_ifnonnullN, cn_ifnonnullR, cn_tswS, cn_tsw0, cn_tsw1, cn_lswS, cn_lsw0, cn_lsw1, cn_alen, cn_iaload, cn_laload, cn_rr1, cn_rr0, cn_aaload, cn_iastore, cn_lastore, cn_aastore, cn_getfield, cn_gf0, cn_gf1, cn_gf2, cn_gf3, cn_putfield, cn_pf0f, cn_pf1f, cn_pf2f, cn_pf3f, cn_pf0t, cn_pf1t, cn_pf2t, cn_pf3t, cn_new, cn_nw1, cn_newi, cn_newl, cn_anew, cn_an1, cn_inv_v, cn_inv_s, cn_inv_p, cn_ca1, cn_cb1, cn_pop0, cn_pops, cn_rk0, cn_rk1, cn_kcn, cn_kcs, cn_ireturn, cn_lreturn, cn_areturn, cn_return, cn_re0, cn_re1, cn_re2, cn_re3, cn_re4, cn_re5, cn_wp0, cn_wps, cn_m0, cn_m1, cn_e0, cn_en, cn_ei, cn_er, cn_eu, cn_el, cn_nl0, cn_nls, cn_nb0, cn_nb1, cn_nb2, cn_nb3, cn_bd0, cn_bds, cn_cwi, cn_cwr, cn_cwl, cn_cwn, cn_wi2, cn_wl1, cn_wl3, cn_wr1, cn_wr2, cn_wi_eq, cn_wl_eq, cb_0, cb_n0, cb_b, cm_okb0, cm_okb1, Classical.not_not, true_and, and_true, Nat.reduceAdd, Nat.reduceSub, Nat.reduceLT, Nat.reduceLeDiff, Int.reduceToNat, Int.reduceNatCast', Nat.zero_le, Nat.reduceEqDiff, false_or, or_false, or_true, true_or, Int.reduceNeg, reduceCtorEq, false_implies, implies_true, forall_const, true_implies, not_true_eq_false, not_false_eq_true, Nat.le_refl, ne_eq, if_true, if_false, ite_true, ite_false, List.cons_append, List.nil_append, w3_add, w3_sub, w3_mul, w3_le, w3_lt, w3_eq, w3_toInt, w3_ix, w3_00, w3_10, i0_le, i0_lt, i0_ge, i0_gt, i0_eq, Int.reduceLE, Int.reduceLT, Int.reduceAdd, Int.reduceSub, Int.reduceMul, Int.reduceEq, Int.le_refl, Int.lt_irrefl]
    exact hQ

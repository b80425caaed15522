/-- places where a conflict opens at depth 0 -/
def cfO (L : List Int32) : Nat → Nat
  | 0 => 0
  | k + 1 => cfO L k + (if dp L k = 0 ∧ gt L k = w3 10 then 1 else 0)
/-- lines that open with a conflict -/
def cfC (L : List Int32) : Nat → Nat
  | 0 => 0
  | i + 1 => cfC L i + (if gt L (stt L i) = w3 10 then 1 else 0)
theorem cfO_m {L : List Int32} (hB : Bal L) : ∀ k : Nat, k ≤ L.length → (cfO L k : Int) = mC L k + (if dp L k = 0 then 0 else 1) := by
  intro k
  induction k with
  | zero => intro _; simp [cfO, mC, dp]
  | succ k ih =>
    intro hk
    have h0 := hB.1 k (by omega)
    have h1 := hB.1 (k + 1) hk
    have ih := ih (by omega)
    have e1 : cfO L (k + 1) = cfO L k + (if dp L k = 0 ∧ gt L k = w3 10 then 1 else 0) := rfl
    have e2 : mC L (k + 1) = mC L k + (if gt L k = w3 13 ∧ dp L (k + 1) = 0 then 1 else 0) := rfl
    have e3 : dp L (k + 1) = dp L k + dstep (gt L k) := rfl
    have n1 : ¬ (w3 13 = w3 10) := by decide
    have n2 : ¬ (w3 10 = w3 13) := by decide
    by_cases q : gt L k = w3 10
    · have ed : dstep (gt L k) = 1 := by unfold dstep; rw [if_pos q]
      rw [ed] at e3
      rw [if_neg (fun w => n2 (q.symm.trans w.1))] at e2
      rw [if_neg (show ¬ dp L (k + 1) = 0 by omega)]
      by_cases z : dp L k = 0
      · rw [if_pos ⟨z, q⟩] at e1
        rw [if_pos z] at ih
        omega
      · rw [if_neg (fun w => z w.1)] at e1
        rw [if_neg z] at ih
        omega
    · rw [if_neg (fun w => q w.2)] at e1
      by_cases q2 : gt L k = w3 13
      · have ed : dstep (gt L k) = -1 := by unfold dstep; rw [if_neg q, if_pos q2]
        rw [ed] at e3
        have z : ¬ dp L k = 0 := by omega
        rw [if_neg z] at ih
        by_cases z2 : dp L (k + 1) = 0
        · rw [if_pos ⟨q2, z2⟩] at e2
          rw [if_pos z2]
          omega
        · rw [if_neg (fun w => z2 w.2)] at e2
          rw [if_neg z2]
          omega
      · have ed : dstep (gt L k) = 0 := by unfold dstep; rw [if_neg q, if_neg q2]
        rw [ed, Int.add_zero] at e3
        rw [if_neg (fun w => q2 w.1)] at e2
        rw [e3]
        omega
theorem cfC_O {L : List Int32} : ∀ k : Nat, k ≤ L.length → cfC L (zc L k) = cfO L k := by
  intro k
  induction k with
  | zero => intro _; rfl
  | succ k ih =>
    intro hk
    have ih := ih (by omega)
    have e1 : cfO L (k + 1) = cfO L k + (if dp L k = 0 ∧ gt L k = w3 10 then 1 else 0) := rfl
    have e2 : zc L (k + 1) = zc L k + (if dp L k = 0 then 1 else 0) := rfl
    rw [e1, e2]
    by_cases z : dp L k = 0
    · have e3 : cfC L (zc L k + 1) = cfC L (zc L k) + (if gt L (stt L (zc L k)) = w3 10 then 1 else 0) := rfl
      rw [if_pos z, e3, stt_at (by omega) z, ih]
      by_cases q : gt L k = w3 10
      · rw [if_pos q, if_pos ⟨z, q⟩]
      · rw [if_neg q, if_neg (fun w => q w.2)]
    · rw [if_neg z, if_neg (fun w => z w.1), Nat.add_zero, ih, Nat.add_zero]
theorem cfC_me {F : Fl} (h : Bal (cnt F)) : (cfC (cnt F) (nl (cnt F)) : Int) = meas F 1 := by
  cases F with
  | none => rfl
  | some L =>
    have h : Bal L := h
    show (cfC L (zc L L.length) : Int) = mC L L.length
    rw [cfC_O L.length (Nat.le_refl _), cfO_m h L.length (Nat.le_refl _), if_pos h.2, Int.add_zero]
theorem cfC_le (L : List Int32) : ∀ i : Nat, cfC L i ≤ i := by
  intro i
  induction i with
  | zero => exact Nat.le_refl _
  | succ i ih =>
    show cfC L i + (if gt L (stt L i) = w3 10 then 1 else 0) ≤ i + 1
    split <;> omega
def SX7_conflictsOf : cm_CT := fun as T M Φ => match as with
  | [.ref m, .int a] => ∃ (A : Nat), TMd T M.2.2 m ∧ a = w3 (A : Int) ∧ FiG (M.1 (m + 1)) A ∧ Bal (cnt (fA (M.1 (m + 1)) (A : Int))) ∧ ∀ M1, Fz (ptP m 0) M M1 → Φ (some (.int (w3 (meas (fA (M.1 (m + 1)) (A : Int)) 1)))) T M1
  | _ => False
def JX7_conflictsOf : cm_J := (7, false, 1, [(133, 3, 8, 0, 0, SX7_parts), (104, 3, 8, 0, 0, SX7_start)], [], [])
theorem jX7_conflictsOf : JX7_conflictsOf.1 = 7 ∧ JX7_conflictsOf.2.1 = false ∧ JX7_conflictsOf.2.2.1 = 1 ∧ cm_gv JX7_conflictsOf 133 = some (3, 8, 0, 0, SX7_parts) ∧ cm_gv JX7_conflictsOf 104 = some (3, 8, 0, 0, SX7_start) := ⟨rfl, rfl, rfl, rfl, rfl⟩
theorem eX7_conflictsOf (d : Nat) (hd : 1 ≤ d) : cm_Cok d JX7_conflictsOf := ⟨(List.forall_mem_cons.mpr ⟨q7_133 (mX7_parts (d - 1) (by omega)) (by omega), (List.forall_mem_cons.mpr ⟨q7_104 (mX7_start (d - 1) (by omega)) (by omega), (fun q h => by cases h)⟩)⟩), (fun q h => by cases h), (fun q h => by cases h)⟩
set_option maxHeartbeats 4000000 in
theorem lX7_conflictsOf (d : Nat) (hd : 1 ≤ d) {T : cm_T} {M : cm_M} {Φ : Option Value → cm_T → cm_M → Prop} {m A : Nat} {L : List Int32} (hT : TMd T M.2.2 m) (hA : A + 41 ≤ 17038) (hL : LSl M m 0 L) (hr : ∀ k : Nat, k < L.length → M.1 (m + 1) ((A : Int) + 1 + (k : Int)) = gt L k) (hS : Φ (some (.int (w3 (cfC L (nl L) : Int)))) T M) :
    ∀ (g i : Nat), g + i = nl L → cm_Go d cX7_conflictsOf 4 0 0 JX7_conflictsOf Φ 10 [some (.ref m), some (.int (w3 (A : Int))), some (.int (w3 (cfC L i : Int))), some (.int (w3 (i : Int)))] [] (0, 0) T M := by
  obtain ⟨k0, ⟨r0, r2, r3, r6, r9, r10, r11, r12, r13, r14, r15, r16, r17, r18, r19, r22, r25, r26, r27⟩, ⟨c1, c2, c3, c4, c5, c6, c7, c8, c9, c10, c11, c12, c13, c14, c15, c16, c17, c18, c19⟩, ⟨l1, l2, l3, l4, l5, l6, l7, l8, l9, l10, l11, l12, l13, l14, l15, l16, l17, l18, l19⟩⟩ := id hT
  have g3 : M.1 (m + 12) 0 = w3 (nl L : Int) := by obtain ⟨b, -, -, g3, -⟩ := id hL; exact g3
  have hBL : Bal L ∧ L.length ≤ 40 := by obtain ⟨b, -, -, -, -, -, g6, g7⟩ := id hL; exact ⟨g6, g7⟩
  have n40 : nl L ≤ L.length := nl_le L L.length
  obtain ⟨hB, h40⟩ := hBL
  intro g
  induction g with
  | zero =>
    intro i hi
    have ei : i = nl L := by omega
    subst ei
    refine cm_go hX7_conflictsOf 100 oX7_conflictsOf (eX7_conflictsOf d hd) lX7_conflictsOf_10 ?_
    simp (disch := omega) only [jX7_conflictsOf, kX7_conflictsOf_0, fl_7_47, fl_7_7, g3, k0, r0, r2, r3, r6, r9, r10, r11, r12, r13, r14, r15, r16, r17, r18, r19, r22, r25, r26, r27, c1, c2, c3, c4, c5, c6, c7, c8, c9, c10, c11, c12, c13, c14, c15, c16, c17, c18, c19, l1, l2, l3, l4, l5, l6, l7, l8, l9, l10, l11, l12, l13, l14, l15, l16, l17, l18, l19, cn_iconst, cn_lconst0, cn_lconst1, cn_null, cn_iload, cn_aload, cn_lload, cn_lo1, cn_loa1, cn_loa2, cn_lol1, cn_get0, cn_gets, cn_put0, cn_puts, cn_istore, cn_astore, cn_astoreN, cn_lstore, cn_iinc, cn_in1, cn_iadd, cn_isub, cn_imul, cn_iand, cn_ior, cn_ixor, cn_ishl, cn_ishr, cn_iushr, cn_idiv, cn_irem, cn_ladd, cn_lmul, cn_ldiv, cn_lrem, cn_i2l, cn_l2i, cn_i2b, cn_lcmp, cn_dupi, cn_dupr, cn_dup2, cn_popi, cn_popr, cn_goto, cn_if_eq, cn_if_ne, cn_if_lt, cn_if_ge, cn_if_gt, cn_if_le, cn_ic_eq, cn_ic_ne, cn_ic_lt, cn_ic_ge, cn_ic_gt, cn_ic_le, cn_ifnullN, cn_ifnullR, cn_ifnonnullN, cn_ifnonnullR, cn_tswS, cn_tsw0, cn_tsw1, cn_lswS, cn_lsw0, cn_lsw1, cn_alen, cn_iaload, cn_laload, cn_rr1, cn_rr0, cn_aaload, cn_iastore, cn_lastore, cn_aastore, cn_getfield, cn_gf0, cn_gf1, cn_gf2, cn_gf3, cn_putfield, cn_pf0f, cn_pf1f, cn_pf2f, cn_pf3f, cn_pf0t, cn_pf1t, cn_pf2t, cn_pf3t, cn_new, cn_nw1, cn_newi, cn_newl, cn_anew, cn_an1, cn_inv_v, cn_inv_s, cn_inv_p, cn_ca1, cn_cb1, cn_pop0, cn_pops, cn_rk0, cn_rk1, cn_kcn, cn_kcs, cn_ireturn, cn_lreturn, cn_areturn, cn_return, cn_re0, cn_re1, cn_re2, cn_re3, cn_re4, cn_re5, cn_wp0, cn_wps, cn_m0, cn_m1, cn_e0, cn_en, cn_ei, cn_er, cn_eu, cn_el, cn_nl0, cn_nls, cn_nb0, cn_nb1, cn_nb2, cn_nb3, cn_bd0, cn_bds, cn_cwi, cn_cwr, cn_cwl, cn_cwn, cn_wi2, cn_wl1, cn_wl3, cn_wr1, cn_wr2, cn_wi_eq, cn_wl_eq, cb_0, cb_n0, cb_b, cm_okb0, cm_okb1, Classical.not_not, true_and, and_true, Nat.reduceAdd, Nat.reduceSub, Nat.reduceLT, Nat.reduceLeDiff, Int.reduceToNat, Int.reduceNatCast', Nat.zero_le, Nat.reduceEqDiff, false_or, or_false, or_true, true_or, Int.reduceNeg, reduceCtorEq, false_implies, implies_true, forall_const, true_implies, not_true_eq_false, not_false_eq_true, Nat.le_refl, ne_eq, if_true, if_false, ite_true, ite_false, List.cons_append, List.nil_append, w3_add, w3_sub, w3_mul, w3_le, w3_lt, w3_eq, w3_toInt, w3_ix, w3_00, w3_10, i0_le, i0_lt, i0_ge, i0_gt, i0_eq, Int.reduceLE, Int.reduceLT, Int.reduceAdd, Int.reduceSub, Int.reduceMul, Int.reduceEq, Int.le_refl, Int.lt_irrefl]
    exact hS
  | succ g ih =>
    intro i hi
    have q0 : ((nl L : Int) ≤ (i : Int)) = False := eq_false (by omega)
    have hst : stt L i < L.length := by
      have := stt_lt hB (show i < nl L by omega) (Nat.le_refl _)
      rw [stt_n hB] at this
      exact this
    have hrd := hr _ hst
    have cl := cfC_le L i
    have nx := ih (i + 1) (by omega)
    have e1 : cfC L (i + 1) = cfC L i + (if gt L (stt L i) = w3 10 then 1 else 0) := rfl
    rw [e1] at nx
    refine cm_go hX7_conflictsOf 100 oX7_conflictsOf (eX7_conflictsOf d hd) lX7_conflictsOf_10 ?_
    simp (disch := omega) only [jX7_conflictsOf, kX7_conflictsOf_0, fl_7_47, fl_7_7, g3, q0, k0, r0, r2, r3, r6, r9, r10, r11, r12, r13, r14, r15, r16, r17, r18, r19, r22, r25, r26, r27, c1, c2, c3, c4, c5, c6, c7, c8, c9, c10, c11, c12, c13, c14, c15, c16, c17, c18, c19, l1, l2, l3, l4, l5, l6, l7, l8, l9, l10, l11, l12, l13, l14, l15, l16, l17, l18, l19, cn_iconst, cn_lconst0, cn_lconst1, cn_null, cn_iload, cn_aload, cn_lload, cn_lo1, cn_loa1, cn_loa2, cn_lol1, cn_get0, cn_gets, cn_put0, cn_puts, cn_istore, cn_astore, cn_astoreN, cn_lstore, cn_iinc, cn_in1, cn_iadd, cn_isub, cn_imul, cn_iand, cn_ior, cn_ixor, cn_ishl, cn_ishr, cn_iushr, cn_idiv, cn_irem, cn_ladd, cn_lmul, cn_ldiv, cn_lrem, cn_i2l, cn_l2i, cn_i2b, cn_lcmp, cn_dupi, cn_dupr, cn_dup2, cn_popi, cn_popr, cn_goto, cn_if_eq, cn_if_ne, cn_if_lt, cn_if_ge, cn_if_gt, cn_if_le, cn_ic_eq, cn_ic_ne, cn_ic_lt, cn_ic_ge, cn_ic_gt, cn_ic_le, cn_ifnullN, cn_ifnullR, cn_ifnonnullN, cn_ifnonnullR, cn_tswS, cn_tsw0, cn_tsw1, cn_lswS, cn_lsw0, cn_lsw1, cn_alen, cn_iaload, cn_laload, cn_rr1, cn_rr0, cn_aaload, cn_iastore, cn_lastore, cn_aastore, cn_getfield, cn_gf0, cn_gf1, cn_gf2, cn_gf3, cn_putfield, cn_pf0f, cn_pf1f, cn_pf2f, cn_pf3f, cn_pf0t, cn_pf1t, cn_pf2t, cn_pf3t, cn_new, cn_nw1, cn_newi, cn_newl, cn_anew, cn_an1, cn_inv_v, cn_inv_s, cn_inv_p, cn_ca1, cn_cb1, cn_pop0, cn_pops, cn_rk0, cn_rk1, cn_kcn, cn_kcs, cn_ireturn, cn_lreturn, cn_areturn, cn_return, cn_re0, cn_re1, cn_re2, cn_re3, cn_re4, cn_re5, cn_wp0, cn_wps, cn_m0, cn_m1, cn_e0, cn_en, cn_ei, cn_er, cn_eu, cn_el, cn_nl0, cn_nls, cn_nb0, cn_nb1, cn_nb2, cn_nb3, cn_bd0, cn_bds, cn_cwi, cn_cwr, cn_cwl, cn_cwn, cn_wi2, cn_wl1, cn_wl3, cn_wr1, cn_wr2, cn_wi_eq, cn_wl_eq, cb_0, cb_n0, cb_b, cm_okb0, cm_okb1, Classical.not_not, true_and, and_true, Nat.reduceAdd, Nat.reduceSub, Nat.reduceLT, Nat.reduceLeDiff, Int.reduceToNat, Int.reduceNatCast', Nat.zero_le, Nat.reduceEqDiff, false_or, or_false, or_true, true_or, Int.reduceNeg, reduceCtorEq, false_implies, implies_true, forall_const, true_implies, not_true_eq_false, not_false_eq_true, Nat.le_refl, ne_eq, if_true, if_false, ite_true, ite_false, List.cons_append, List.nil_append, w3_add, w3_sub, w3_mul, w3_le, w3_lt, w3_eq, w3_toInt, w3_ix, w3_00, w3_10, i0_le, i0_lt, i0_ge, i0_gt, i0_eq, Int.reduceLE, Int.reduceLT, Int.reduceAdd, Int.reduceSub, Int.reduceMul, Int.reduceEq, Int.le_refl, Int.lt_irrefl]
    refine ⟨0, L, i, hT, rfl, by omega, rfl, hL, by omega, ?_⟩
    by_cases q : gt L (stt L i) = w3 10
    · have q1 : (gt L (stt L i) = w3 10) = True := eq_true q
      rw [if_pos q] at nx
      simp (disch := omega) only [jX7_conflictsOf, kX7_conflictsOf_0, fl_7_47, fl_7_7, hrd, q1, k0, r0, r2, r3, r6, r9, r10, r11, r12, r13, r14, r15, r16, r17, r18, r19, r22, r25, r26, r27, c1, c2, c3, c4, c5, c6, c7, c8, c9, c10, c11, c12, c13, c14, c15, c16, c17, c18, c19, l1, l2, l3, l4, l5, l6, l7, l8, l9, l10, l11, l12, l13, l14, l15, l16, l17, l18, l19, cn_iconst, cn_lconst0, cn_lconst1, cn_null, cn_iload, cn_aload, cn_lload, cn_lo1, cn_loa1, cn_loa2, cn_lol1, cn_get0, cn_gets, cn_put0, cn_puts, cn_istore, cn_astore, cn_astoreN, cn_lstore, cn_iinc, cn_in1, cn_iadd, cn_isub, cn_imul, cn_iand, cn_ior, cn_ixor, cn_ishl, cn_ishr, cn_iushr, cn_idiv, cn_irem, cn_ladd, cn_lmul, cn_ldiv, cn_lrem, cn_i2l, cn_l2i, cn_i2b, cn_lcmp, cn_dupi, cn_dupr, cn_dup2, cn_popi, cn_popr, cn_goto, cn_if_eq, cn_if_ne, cn_if_lt, cn_if_ge, cn_if_gt, cn_if_le, cn_ic_eq, cn_ic_ne, cn_ic_lt, cn_ic_ge, cn_ic_gt, cn_ic_le, cn_ifnullN, cn_ifnullR, cn_ifnonnullN, cn_ifnonnullR, cn_tswS, cn_tsw0, cn_tsw1, cn_lswS, cn_lsw0, cn_lsw1, cn_alen, cn_iaload, cn_laload, cn_rr1, cn_rr0, cn_aaload, cn_iastore, cn_lastore, cn_aastore, cn_getfield, cn_gf0, cn_gf1, cn_gf2, cn_gf3, cn_putfield, cn_pf0f, cn_pf1f, cn_pf2f, cn_pf3f, cn_pf0t, cn_pf1t, cn_pf2t, cn_pf3t, cn_new, cn_nw1, cn_newi, cn_newl, cn_anew, cn_an1, cn_inv_v, cn_inv_s, cn_inv_p, cn_ca1, cn_cb1, cn_pop0, cn_pops, cn_rk0, cn_rk1, cn_kcn, cn_kcs, cn_ireturn, cn_lreturn, cn_areturn, cn_return, cn_re0, cn_re1, cn_re2, cn_re3, cn_re4, cn_re5, cn_wp0, cn_wps, cn_m0, cn_m1, cn_e0, cn_en, cn_ei, cn_er, cn_eu, cn_el, cn_nl0, cn_nls, cn_nb0, cn_nb1, cn_nb2, cn_nb3, cn_bd0, cn_bds, cn_cwi, cn_cwr, cn_cwl, cn_cwn, cn_wi2, cn_wl1, cn_wl3, cn_wr1, cn_wr2, cn_wi_eq, cn_wl_eq, cb_0, cb_n0, cb_b, cm_okb0, cm_okb1, Classical.not_not, true_and, and_true, Nat.reduceAdd, Nat.reduceSub, Nat.reduceLT, Nat.reduceLeDiff, Int.reduceToNat, Int.reduceNatCast', Nat.zero_le, Nat.reduceEqDiff, false_or, or_false, or_true, true_or, Int.reduceNeg, reduceCtorEq, false_implies, implies_true, forall_const, true_implies, not_true_eq_false, not_false_eq_true, Nat.le_refl, ne_eq, if_true, if_false, ite_true, ite_false, List.cons_append, List.nil_append, w3_add, w3_sub, w3_mul, w3_le, w3_lt, w3_eq, w3_toInt, w3_ix, w3_00, w3_10, i0_le, i0_lt, i0_ge, i0_gt, i0_eq, Int.reduceLE, Int.reduceLT, Int.reduceAdd, Int.reduceSub, Int.reduceMul, Int.reduceEq, Int.le_refl, Int.lt_irrefl]
      repeat (with_reducible refine And.intro (by omega) ?_)
      exact nx
    · have q1 : (gt L (stt L i) = w3 10) = False := eq_false q
      rw [if_neg q] at nx
      simp (disch := omega) only [jX7_conflictsOf, kX7_conflictsOf_0, fl_7_47, fl_7_7, hrd, q1, Int.add_zero, k0, r0, r2, r3, r6, r9, r10, r11, r12, r13, r14, r15, r16, r17, r18, r19, r22, r25, r26, r27, c1, c2, c3, c4, c5, c6, c7, c8, c9, c10, c11, c12, c13, c14, c15, c16, c17, c18, c19, l1, l2, l3, l4, l5, l6, l7, l8, l9, l10, l11, l12, l13, l14, l15, l16, l17, l18, l19, cn_iconst, cn_lconst0, cn_lconst1, cn_null, cn_iload, cn_aload, cn_lload, cn_lo1, cn_loa1, cn_loa2, cn_lol1, cn_get0, cn_gets, cn_put0, cn_puts, cn_istore, cn_astore, cn_astoreN, cn_lstore, cn_iinc, cn_in1, cn_iadd, cn_isub, cn_imul, cn_iand, cn_ior, cn_ixor, cn_ishl, cn_ishr, cn_iushr, cn_idiv, cn_irem, cn_ladd, cn_lmul, cn_ldiv, cn_lrem, cn_i2l, cn_l2i, cn_i2b, cn_lcmp, cn_dupi, cn_dupr, cn_dup2, cn_popi, cn_popr, cn_goto, cn_if_eq, cn_if_ne, cn_if_lt, cn_if_ge, cn_if_gt, cn_if_le, cn_ic_eq, cn_ic_ne, cn_ic_lt, cn_ic_ge, cn_ic_gt, cn_ic_le, cn_ifnullN, cn_ifnullR, cn_ifnonnullN, cn_ifnonnullR, cn_tswS, cn_tsw0, cn_tsw1, cn_lswS, cn_lsw0, cn_lsw1, cn_alen, cn_iaload, cn_laload, cn_rr1, cn_rr0, cn_aaload, cn_iastore, cn_lastore, cn_aastore, cn_getfield, cn_gf0, cn_gf1, cn_gf2, cn_gf3, cn_putfield, cn_pf0f, cn_pf1f, cn_pf2f, cn_pf3f, cn_pf0t, cn_pf1t, cn_pf2t, cn_pf3t, cn_new, cn_nw1, cn_newi, cn_newl, cn_anew, cn_an1, cn_inv_v, cn_inv_s, cn_inv_p, cn_ca1, cn_cb1, cn_pop0, cn_pops, cn_rk0, cn_rk1, cn_kcn, cn_kcs, cn_ireturn, cn_lreturn, cn_areturn, cn_return, cn_re0, cn_re1, cn_re2, cn_re3, cn_re4, cn_re5, cn_wp0, cn_wps, cn_m0, cn_m1, cn_e0, cn_en, cn_ei, cn_er, cn_eu, cn_el, cn_nl0, cn_nls, cn_nb0, cn_nb1, cn_nb2, cn_nb3, cn_bd0, cn_bds, cn_cwi, cn_cwr, cn_cwl, cn_cwn, cn_wi2, cn_wl1, cn_wl3, cn_wr1, cn_wr2, cn_wi_eq, cn_wl_eq, cb_0, cb_n0, cb_b, cm_okb0, cm_okb1, Classical.not_not, true_and, and_true, Nat.reduceAdd, Nat.reduceSub, Nat.reduceLT, Nat.reduceLeDiff, Int.reduceToNat, Int.reduceNatCast', Nat.zero_le, Nat.reduceEqDiff, false_or, or_false, or_true, true_or, Int.reduceNeg, reduceCtorEq, false_implies, implies_true, forall_const, true_implies, not_true_eq_false, not_false_eq_true, Nat.le_refl, ne_eq, if_true, if_false, ite_true, ite_false, List.cons_append, List.nil_append, w3_add, w3_sub, w3_mul, w3_le, w3_lt, w3_eq, w3_toInt, w3_ix, w3_00, w3_10, i0_le, i0_lt, i0_ge, i0_gt, i0_eq, Int.reduceLE, Int.reduceLT, Int.reduceAdd, Int.reduceSub, Int.reduceMul, Int.reduceEq, Int.le_refl, Int.lt_irrefl]
      repeat (with_reducible refine And.intro (by omega) ?_)
      exact nx
set_option maxHeartbeats 4000000 in
theorem mX7_conflictsOf (d : Nat) (hd : 1 ≤ d) : cm_Met d yX7_conflictsOf cX7_conflictsOf 4 (some .int) 0 0 SX7_conflictsOf := by
  refine cm_meets (J := JX7_conflictsOf) (by decide) rfl (fun h => by cases h) trivial ?_
  intro as T M Φ hS
  match as, hS with
  | [.ref m0, .int a], ⟨A, hT, ea, hG, hB, hS⟩ =>
    refine ⟨Nat.le_of_ble_eq_true rfl, ?_⟩
    obtain ⟨m, hm⟩ : ∃ m : Nat, m = m0 := ⟨m0, rfl⟩
    subst hm
    subst ea
    obtain ⟨k0, ⟨r0, r2, r3, r6, r9, r10, r11, r12, r13, r14, r15, r16, r17, r18, r19, r22, r25, r26, r27⟩, ⟨c1, c2, c3, c4, c5, c6, c7, c8, c9, c10, c11, c12, c13, c14, c15, c16, c17, c18, c19⟩, ⟨l1, l2, l3, l4, l5, l6, l7, l8, l9, l10, l11, l12, l13, l14, l15, l16, l17, l18, l19⟩⟩ := id hT
    refine cm_go hX7_conflictsOf 100 oX7_conflictsOf (eX7_conflictsOf d hd) lX7_conflictsOf_0 ?_
    simp (disch := omega) only [jX7_conflictsOf, kX7_conflictsOf_0, fl_7_47, fl_7_7, k0, r0, r2, r3, r6, r9, r10, r11, r12, r13, r14, r15, r16, r17, r18, r19, r22, r25, r26, r27, c1, c2, c3, c4, c5, c6, c7, c8, c9, c10, c11, c12, c13, c14, c15, c16, c17, c18, c19, l1, l2, l3, l4, l5, l6, l7, l8, l9, l10, l11, l12, l13, l14, l15, l16, l17, l18, l19, cn_iconst, cn_lconst0, cn_lconst1, cn_null, cn_iload, cn_aload, cn_lload, cn_lo1, cn_loa1, cn_loa2, cn_lol1, cn_get0, cn_gets, cn_put0, cn_puts, cn_istore, cn_astore, cn_astoreN, cn_lstore, cn_iinc, cn_in1, cn_iadd, cn_isub, cn_imul, cn_iand, cn_ior, cn_ixor, cn_ishl, cn_ishr, cn_iushr, cn_idiv, cn_irem, cn_ladd, cn_lmul, cn_ldiv, cn_lrem, cn_i2l, cn_l2i, cn_i2b, cn_lcmp, cn_dupi, cn_dupr, cn_dup2, cn_popi, cn_popr, cn_goto, cn_if_eq, cn_if_ne, cn_if_lt, cn_if_ge, cn_if_gt, cn_if_le, cn_ic_eq, cn_ic_ne, cn_ic_lt, cn_ic_ge, cn_ic_gt, cn_ic_le, cn_ifnullN, cn_ifnullR, cn_ifnonnullN, cn_ifnonnullR, cn_tswS, cn_tsw0, cn_tsw1, cn_lswS, cn_lsw0, cn_lsw1, cn_alen, cn_iaload, cn_laload, cn_rr1, cn_rr0, cn_aaload, cn_iastore, cn_lastore, cn_aastore, cn_getfield, cn_gf0, cn_gf1, cn_gf2, cn_gf3, cn_putfield, cn_pf0f, cn_pf1f, cn_pf2f, cn_pf3f, cn_pf0t, cn_pf1t, cn_pf2t, cn_pf3t, cn_new, cn_nw1, cn_newi, cn_newl, cn_anew, cn_an1, cn_inv_v, cn_inv_s, cn_inv_p, cn_ca1, cn_cb1, cn_pop0, cn_pops, cn_rk0, cn_rk1, cn_kcn, cn_kcs, cn_ireturn, cn_lreturn, cn_areturn, cn_return, cn_re0, cn_re1, cn_re2, cn_re3, cn_re4, cn_re5, cn_wp0, cn_wps, cn_m0, cn_m1, cn_e0, cn_en, cn_ei, cn_er, cn_eu, cn_el, cn_nl0, cn_nls, cn_nb0, cn_nb1, cn_nb2, cn_nb3, cn_bd0, cn_bds, cn_cwi, cn_cwr, cn_cwl, cn_cwn, cn_wi2, cn_wl1, cn_wl3, cn_wr1, cn_wr2, cn_wi_eq, cn_wl_eq, cb_0, cb_n0, cb_b, cm_okb0, cm_okb1, Classical.not_not, true_and, and_true, Nat.reduceAdd, Nat.reduceSub, Nat.reduceLT, Nat.reduceLeDiff, Int.reduceToNat, Int.reduceNatCast', Nat.zero_le, Nat.reduceEqDiff, false_or, or_false, or_true, true_or, Int.reduceNeg, reduceCtorEq, false_implies, implies_true, forall_const, true_implies, not_true_eq_false, not_false_eq_true, Nat.le_refl, ne_eq, if_true, if_false, ite_true, ite_false, List.cons_append, List.nil_append, w3_add, w3_sub, w3_mul, w3_le, w3_lt, w3_eq, w3_toInt, w3_ix, w3_00, w3_10, i0_le, i0_lt, i0_ge, i0_gt, i0_eq, Int.reduceLE, Int.reduceLT, Int.reduceAdd, Int.reduceSub, Int.reduceMul, Int.reduceEq, Int.le_refl, Int.lt_irrefl]
    refine ⟨0, A, hT, rfl, by omega, rfl, hG, hB, fun M1 F hL _ => ?_⟩
    have e2 := F.2
    have hQ := hS M1 F
    rw [← cfC_me hB] at hQ
    simp (disch := omega) only [jX7_conflictsOf, kX7_conflictsOf_0, fl_7_47, fl_7_7, e2, k0, r0, r2, r3, r6, r9, r10, r11, r12, r13, r14, r15, r16, r17, r18, r19, r22, r25, r26, r27, c1, c2, c3, c4, c5, c6, c7, c8, c9, c10, c11, c12, c13, c14, c15, c16, c17, c18, c19, l1, l2, l3, l4, l5, l6, l7, l8, l9, l10, l11, l12, l13, l14, l15, l16, l17, l18, l19, cn_iconst, cn_lconst0, cn_lconst1, cn_null, cn_iload, cn_aload, cn_lload, cn_lo1, cn_loa1, cn_loa2, cn_lol1, cn_get0, cn_gets, cn_put0, cn_puts, cn_istore, cn_astore, cn_astoreN, cn_lstore, cn_iinc, cn_in1, cn_iadd, cn_isub, cn_imul, cn_iand, cn_ior, cn_ixor, cn_ishl, cn_ishr, cn_iushr, cn_idiv, cn_irem, cn_ladd, cn_lmul, cn_ldiv, cn_lrem, cn_i2l, cn_l2i, cn_i2b, cn_lcmp, cn_dupi, cn_dupr, cn_dup2, cn_popi, cn_popr, cn_goto, cn_if_eq, cn_if_ne, cn_if_lt, cn_if_ge, cn_if_gt, cn_if_le, cn_ic_eq, cn_ic_ne, cn_ic_lt, cn_ic_ge, cn_ic_gt, cn_ic_le, cn_ifnullN, cn_ifnullR, cn_ifnonnullN, cn_ifnonnullR, cn_tswS, cn_tsw0, cn_tsw1, cn_lswS, cn_lsw0, cn_lsw1, cn_alen, cn_iaload, cn_laload, cn_rr1, cn_rr0, cn_aaload, cn_iastore, cn_lastore, cn_aastore, cn_getfield, cn_gf0, cn_gf1, cn_gf2, cn_gf3, cn_putfield, cn_pf0f, cn_pf1f, cn_pf2f, cn_pf3f, cn_pf0t, cn_pf1t, cn_pf2t, cn_pf3t, cn_new, cn_nw1, cn_newi, cn_newl, cn_anew, cn_an1, cn_inv_v, cn_inv_s, cn_inv_p, cn_ca1, cn_cb1, cn_pop0, cn_pops, cn_rk0, cn_rk1, cn_kcn, cn_kcs, cn_ireturn, cn_lreturn, cn_areturn, cn_return, cn_re0, cn_re1, cn_re2, cn_re3, cn_re4, cn_re5, cn_wp0, cn_wps, cn_m0, cn_m1, cn_e0, cn_en, cn_ei, cn_er, cn_eu, cn_el, cn_nl0, cn_nls, cn_nb0, cn_nb1, cn_nb2, cn_nb3, cn_bd0, cn_bds, cn_cwi, cn_cwr, cn_cwl, cn_cwn, cn_wi2, cn_wl1, cn_wl3, cn_wr1, cn_wr2, cn_wi_eq, cn_wl_eq, cb_0, cb_n0, cb_b, cm_okb0, cm_okb1, Classical.not_not, true_and, and_true, Nat.reduceAdd, Nat.reduceSub, Nat.reduceLT, Nat.reduceLeDiff, Int.reduceToNat, Int.reduceNatCast', Nat.zero_le, Nat.reduceEqDiff, false_or, or_false, or_true, true_or, Int.reduceNeg, reduceCtorEq, false_implies, implies_true, forall_const, true_implies, not_true_eq_false, not_false_eq_true, Nat.le_refl, ne_eq, if_true, if_false, ite_true, ite_false, List.cons_append, List.nil_append, w3_add, w3_sub, w3_mul, w3_le, w3_lt, w3_eq, w3_toInt, w3_ix, w3_00, w3_10, i0_le, i0_lt, i0_ge, i0_gt, i0_eq, Int.reduceLE, Int.reduceLT, Int.reduceAdd, Int.reduceSub, Int.reduceMul, Int.reduceEq, Int.le_refl, Int.lt_irrefl]
    refine lX7_conflictsOf d hd (by rw [e2]; exact hT) hG.2.2 hL (fun k hk => ?_) hQ _ 0 rfl
    rw [F.1 _ _ (by unfold ptP; omega)]
    have hz : (k : Int) < (M.1 (m + 1) (A : Int)).toInt := by
      have e : ((cnt (fA (M.1 (m + 1)) (A : Int))).length : Int) = if (M.1 (m + 1) (A : Int)).toInt < 0 then 0 else (M.1 (m + 1) (A : Int)).toInt := flm_c
      split at e <;> omega
    exact (flm_g hz).symm

theorem cst_b {M : cm_M} {x : Nat} : (cst M x).2.2.1 = bkv M (x + 3) := rfl
theorem cs_tal {T : cm_T} {M M1 : cm_M} {x L : Nat} (hC : CMG T M x L) (h : FrL M M1 (x + 3)) : CMG T M1 x L ∧ cst M1 x = cst M x ∧ FrC M M1 x L := by
  have e : M1 = (M.1, M1.2.1, M.2.2) := Prod.ext h.1 (Prod.ext rfl h.2.1)
  have hx : M1.2.1 x = M.2.1 x := h.2.2 x (by omega)
  refine ⟨by rw [e]; exact hC, ?_, fun q hq => ⟨by rw [h.1], h.2.2 q (by omega), by rw [h.2.1]⟩⟩
  have e2 : cst (M.1, M1.2.1, M.2.2) x = (cRw M x, cTx M x, bkv M (x + 3), cKq M x, M.1 x 9, M1.2.1 x 10, M1.2.1 x 11, M.1 x 12, cCt M x) := rfl
  rw [e, e2, hx]
  rfl
/-- whether there is such a version, such a file -/
def hv (s : St) (v : Int) : Prop := 0 ≤ v ∧ v < (s.2.2.1.1 : Int)
def SX6_hasFile : cm_CT := fun as T M Φ => match as with
  | [.ref x, .int v, .int f] => (T.1 x = 7 ∧ M.2.2 x 2 = some (x + 3) ∧ T.1 (x + 3) = 1) ∧ Φ (some (.int (cb ((0 ≤ v.toInt ∧ v.toInt < bsz M (x + 3)) ∧ 0 ≤ f.toInt ∧ f.toInt < 3)))) T M
  | _ => False
def JX6_hasFile : cm_J := (6, false, 2, [(144, 2, 1, 0, 0, SX0_has)], [], [])
theorem jX6_hasFile : JX6_hasFile.1 = 6 ∧ JX6_hasFile.2.1 = false ∧ JX6_hasFile.2.2.1 = 2 ∧ cm_gv JX6_hasFile 144 = some (2, 1, 0, 0, SX0_has) := ⟨rfl, rfl, rfl, rfl⟩
theorem eX6_hasFile (d : Nat) (hd : 1 ≤ d) : cm_Cok d JX6_hasFile := ⟨(List.forall_mem_cons.mpr ⟨q6_144 (mX0_has (d - 1) (by omega)) (by omega), (fun q h => by cases h)⟩), (fun q h => by cases h), (fun q h => by cases h)⟩
set_option maxHeartbeats 4000000 in
theorem mX6_hasFile (d : Nat) (hd : 1 ≤ d) : cm_Met d yX6_hasFile cX6_hasFile 3 (some .boolean) 0 0 SX6_hasFile := by
  refine cm_meets (J := JX6_hasFile) (by decide) rfl (fun h => by cases h) trivial ?_
  intro as T M Φ hS
  match as, hS with
  | [.ref x, .int v, .int f], ⟨⟨k0, r2, K0⟩, hS⟩ =>
    refine ⟨Nat.le_of_ble_eq_true rfl, ?_⟩
    refine cm_go hX6_hasFile 200 oX6_hasFile (eX6_hasFile d hd) lX6_hasFile_0 ?_
    simp only [jX6_hasFile, kX6_hasFile_0, fl_6_21, SX0_has, k0, r2, K0, cn_iconst, cn_lconst0, cn_lconst1, cn_null, cn_iload, cn_aload, cn_lload, cn_lo1, cn_loa1, cn_loa2, cn_lol1, cn_get0, cn_gets, cn_put0, cn_puts, cn_istore, cn_astore, cn_astoreN, cn_lstore, cn_iinc, cn_in1, cn_iadd, cn_isub, cn_imul, cn_iand, cn_ior, cn_ixor, cn_ishl, cn_ishr, cn_iushr, cn_idiv, cn_irem, cn_ladd, cn_lmul, cn_ldiv, cn_lrem, cn_i2l, cn_l2i, cn_i2b, cn_lcmp, cn_dupi, cn_dupr, cn_dup2, cn_popi, cn_popr, cn_goto, cn_if_eq, cn_if_ne, cn_if_lt, cn_if_ge, cn_if_gt, cn_if_le, cn_ic_eq, cn_ic_ne, cn_ic_lt, cn_ic_ge, cn_ic_gt, cn_ic_le, cn_ifnullN, cn_ifnullR, cn_ifnonnullN, cn_ifnonnullR, cn_tswS, cn_tsw0, cn_tsw1, cn_lswS, cn_lsw0, cn_lsw1, cn_alen, cn_iaload, cn_laload, cn_rr1, cn_rr0, cn_aaload, cn_iastore, cn_lastore, cn_aastore, cn_getfield, cn_gf0, cn_gf1, cn_gf2, cn_gf3, cn_putfield, cn_pf0f, cn_pf1f, cn_pf2f, cn_pf3f, cn_pf0t, cn_pf1t, cn_pf2t, cn_pf3t, cn_new, cn_nw1, cn_newi, cn_newl, cn_anew, cn_an1, cn_inv_v, cn_inv_s, cn_inv_p, cn_ca1, cn_cb1, cn_pop0, cn_pops, cn_rk0, cn_rk1, cn_kcn, cn_kcs, cn_ireturn, cn_lreturn, cn_areturn, cn_return, cn_re0, cn_re1, cn_re2, cn_re3, cn_re4, cn_re5, cn_wp0, cn_wps, cn_m0, cn_m1, cn_e0, cn_en, cn_ei, cn_er, cn_eu, cn_el, cn_nl0, cn_nls, cn_nb0, cn_nb1, cn_nb2, cn_nb3, cn_bd0, cn_bds, cn_cwi, cn_cwr, cn_cwl, cn_cwn, cn_wi2, cn_wl1, cn_wl3, cn_wr1, cn_wr2, cn_wi_eq, cn_wl_eq, cb_0, cb_n0, cb_b, cm_okb0, cm_okb1, Classical.not_not, true_and, and_true, Nat.reduceAdd, Nat.reduceSub, Nat.reduceLT, Nat.reduceLeDiff, Int.reduceToNat, Int.reduceNatCast', Nat.zero_le, Nat.reduceEqDiff, false_or, or_false, or_true, true_or, Int.reduceNeg, reduceCtorEq, false_implies, implies_true, forall_const, true_implies, not_true_eq_false, not_false_eq_true, Nat.le_refl, ne_eq, if_true, if_false, ite_true, ite_false, List.cons_append, List.nil_append]
    have e : (w3 3).toInt = 3 := by decide
    simp only [i3_lt, i3_le, i3_z, e]
    refine ⟨fun q => ?_, fun q => ⟨fun q2 => ?_, fun q2 => ⟨fun q3 => ?_, fun q3 => ?_⟩⟩⟩
    · rw [cb_f (fun w => q w.1)] at hS; exact hS
    · rw [cb_f (by omega)] at hS; exact hS
    · rw [cb_f (by omega)] at hS; exact hS
    · rw [cb_t ⟨q, by omega, by omega⟩] at hS; exact hS
def SX6_isPair : cm_CT := fun as T M Φ => match as with
  | [.ref x, .int a, .int b] => (T.1 x = 7 ∧ M.2.2 x 2 = some (x + 3) ∧ T.1 (x + 3) = 1) ∧ Φ (some (.int (cb ((0 ≤ a.toInt ∧ a.toInt < bsz M (x + 3)) ∧ (0 ≤ b.toInt ∧ b.toInt < bsz M (x + 3)) ∧ a ≠ b)))) T M
  | _ => False
def JX6_isPair : cm_J := (6, false, 2, [(144, 2, 1, 0, 0, SX0_has)], [], [])
theorem jX6_isPair : JX6_isPair.1 = 6 ∧ JX6_isPair.2.1 = false ∧ JX6_isPair.2.2.1 = 2 ∧ cm_gv JX6_isPair 144 = some (2, 1, 0, 0, SX0_has) := ⟨rfl, rfl, rfl, rfl⟩
theorem eX6_isPair (d : Nat) (hd : 1 ≤ d) : cm_Cok d JX6_isPair := ⟨(List.forall_mem_cons.mpr ⟨q6_144 (mX0_has (d - 1) (by omega)) (by omega), (fun q h => by cases h)⟩), (fun q h => by cases h), (fun q h => by cases h)⟩
set_option maxHeartbeats 4000000 in
theorem mX6_isPair (d : Nat) (hd : 1 ≤ d) : cm_Met d yX6_isPair cX6_isPair 3 (some .boolean) 0 0 SX6_isPair := by
  refine cm_meets (J := JX6_isPair) (by decide) rfl (fun h => by cases h) trivial ?_
  intro as T M Φ hS
  match as, hS with
  | [.ref x, .int a, .int b], ⟨⟨k0, r2, K0⟩, hS⟩ =>
    refine ⟨Nat.le_of_ble_eq_true rfl, ?_⟩
    refine cm_go hX6_isPair 200 oX6_isPair (eX6_isPair d hd) lX6_isPair_0 ?_
    simp only [jX6_isPair, kX6_isPair_0, fl_6_21, SX0_has, k0, r2, K0, cn_iconst, cn_lconst0, cn_lconst1, cn_null, cn_iload, cn_aload, cn_lload, cn_lo1, cn_loa1, cn_loa2, cn_lol1, cn_get0, cn_gets, cn_put0, cn_puts, cn_istore, cn_astore, cn_astoreN, cn_lstore, cn_iinc, cn_in1, cn_iadd, cn_isub, cn_imul, cn_iand, cn_ior, cn_ixor, cn_ishl, cn_ishr, cn_iushr, cn_idiv, cn_irem, cn_ladd, cn_lmul, cn_ldiv, cn_lrem, cn_i2l, cn_l2i, cn_i2b, cn_lcmp, cn_dupi, cn_dupr, cn_dup2, cn_popi, cn_popr, cn_goto, cn_if_eq, cn_if_ne, cn_if_lt, cn_if_ge, cn_if_gt, cn_if_le, cn_ic_eq, cn_ic_ne, cn_ic_lt, cn_ic_ge, cn_ic_gt, cn_ic_le, cn_ifnullN, cn_ifnullR, cn_ifnonnullN, cn_ifnonnullR, cn_tswS, cn_tsw0, cn_tsw1, cn_lswS, cn_lsw0, cn_lsw1, cn_alen, cn_iaload, cn_laload, cn_rr1, cn_rr0, cn_aaload, cn_iastore, cn_lastore, cn_aastore, cn_getfield, cn_gf0, cn_gf1, cn_gf2, cn_gf3, cn_putfield, cn_pf0f, cn_pf1f, cn_pf2f, cn_pf3f, cn_pf0t, cn_pf1t, cn_pf2t, cn_pf3t, cn_new, cn_nw1, cn_newi, cn_newl, cn_anew, cn_an1, cn_inv_v, cn_inv_s, cn_inv_p, cn_ca1, cn_cb1, cn_pop0, cn_pops, cn_rk0, cn_rk1, cn_kcn, cn_kcs, cn_ireturn, cn_lreturn, cn_areturn, cn_return, cn_re0, cn_re1, cn_re2, cn_re3, cn_re4, cn_re5, cn_wp0, cn_wps, cn_m0, cn_m1, cn_e0, cn_en, cn_ei, cn_er, cn_eu, cn_el, cn_nl0, cn_nls, cn_nb0, cn_nb1, cn_nb2, cn_nb3, cn_bd0, cn_bds, cn_cwi, cn_cwr, cn_cwl, cn_cwn, cn_wi2, cn_wl1, cn_wl3, cn_wr1, cn_wr2, cn_wi_eq, cn_wl_eq, cb_0, cb_n0, cb_b, cm_okb0, cm_okb1, Classical.not_not, true_and, and_true, Nat.reduceAdd, Nat.reduceSub, Nat.reduceLT, Nat.reduceLeDiff, Int.reduceToNat, Int.reduceNatCast', Nat.zero_le, Nat.reduceEqDiff, false_or, or_false, or_true, true_or, Int.reduceNeg, reduceCtorEq, false_implies, implies_true, forall_const, true_implies, not_true_eq_false, not_false_eq_true, Nat.le_refl, ne_eq, if_true, if_false, ite_true, ite_false, List.cons_append, List.nil_append]
    refine ⟨fun q => ?_, fun q => ⟨fun q2 => ?_, fun q2 => ⟨fun q3 => ?_, fun q3 => ?_⟩⟩⟩
    · rw [cb_f (fun w => q w.1)] at hS; exact hS
    · rw [cb_f (fun w => q2 w.2.1)] at hS; exact hS
    · rw [cb_f (fun w => w.2.2 q3)] at hS; exact hS
    · rw [cb_t ⟨q, q2, q3⟩] at hS; exact hS
def SX6_asked : cm_CT := fun as T M Φ => match as with
  | [.ref x] => T.1 x = 7 ∧ Φ (some (.int (M.1 x 9))) T M
  | _ => False
def JX6_asked : cm_J := (6, false, 1, [], [], [])
theorem jX6_asked : JX6_asked.1 = 6 ∧ JX6_asked.2.1 = false ∧ JX6_asked.2.2.1 = 1 := ⟨rfl, rfl, rfl⟩
theorem eX6_asked (d : Nat) (hd : 0 ≤ d) : cm_Cok d JX6_asked := ⟨(fun q h => by cases h), (fun q h => by cases h), (fun q h => by cases h)⟩
set_option maxHeartbeats 4000000 in
theorem mX6_asked (d : Nat) (hd : 0 ≤ d) : cm_Met d yX6_asked cX6_asked 1 (some .int) 0 0 SX6_asked := by
  refine cm_meets (J := JX6_asked) (by decide) rfl (fun h => by cases h) trivial ?_
  intro as T M Φ hS
  match as, hS with
  | [.ref x], ⟨h1, hS⟩ =>
    refine ⟨Nat.le_of_ble_eq_true rfl, ?_⟩
    refine cm_go hX6_asked 200 oX6_asked (eX6_asked d hd) lX6_asked_0 ?_
    simp only [jX6_asked, kX6_asked_0, fl_6_56, h1, cn_iconst, cn_lconst0, cn_lconst1, cn_null, cn_iload, cn_aload, cn_lload, cn_lo1, cn_loa1, cn_loa2, cn_lol1, cn_get0, cn_gets, cn_put0, cn_puts, cn_istore, cn_astore, cn_astoreN, cn_lstore, cn_iinc, cn_in1, cn_iadd, cn_isub, cn_imul, cn_iand, cn_ior, cn_ixor, cn_ishl, cn_ishr, cn_iushr, cn_idiv, cn_irem, cn_ladd, cn_lmul, cn_ldiv, cn_lrem, cn_i2l, cn_l2i, cn_i2b, cn_lcmp, cn_dupi, cn_dupr, cn_dup2, cn_popi, cn_popr, cn_goto, cn_if_eq, cn_if_ne, cn_if_lt, cn_if_ge, cn_if_gt, cn_if_le, cn_ic_eq, cn_ic_ne, cn_ic_lt, cn_ic_ge, cn_ic_gt, cn_ic_le, cn_ifnullN, cn_ifnullR, cn_ifnonnullN, cn_ifnonnullR, cn_tswS, cn_tsw0, cn_tsw1, cn_lswS, cn_lsw0, cn_lsw1, cn_alen, cn_iaload, cn_laload, cn_rr1, cn_rr0, cn_aaload, cn_iastore, cn_lastore, cn_aastore, cn_getfield, cn_gf0, cn_gf1, cn_gf2, cn_gf3, cn_putfield, cn_pf0f, cn_pf1f, cn_pf2f, cn_pf3f, cn_pf0t, cn_pf1t, cn_pf2t, cn_pf3t, cn_new, cn_nw1, cn_newi, cn_newl, cn_anew, cn_an1, cn_inv_v, cn_inv_s, cn_inv_p, cn_ca1, cn_cb1, cn_pop0, cn_pops, cn_rk0, cn_rk1, cn_kcn, cn_kcs, cn_ireturn, cn_lreturn, cn_areturn, cn_return, cn_re0, cn_re1, cn_re2, cn_re3, cn_re4, cn_re5, cn_wp0, cn_wps, cn_m0, cn_m1, cn_e0, cn_en, cn_ei, cn_er, cn_eu, cn_el, cn_nl0, cn_nls, cn_nb0, cn_nb1, cn_nb2, cn_nb3, cn_bd0, cn_bds, cn_cwi, cn_cwr, cn_cwl, cn_cwn, cn_wi2, cn_wl1, cn_wl3, cn_wr1, cn_wr2, cn_wi_eq, cn_wl_eq, cb_0, cb_n0, cb_b, cm_okb0, cm_okb1, Classical.not_not, true_and, and_true, Nat.reduceAdd, Nat.reduceSub, Nat.reduceLT, Nat.reduceLeDiff, Int.reduceToNat, Int.reduceNatCast', Nat.zero_le, Nat.reduceEqDiff, false_or, or_false, or_true, true_or, Int.reduceNeg, reduceCtorEq, false_implies, implies_true, forall_const, true_implies, not_true_eq_false, not_false_eq_true, Nat.le_refl, ne_eq, if_true, if_false, ite_true, ite_false, List.cons_append, List.nil_append]
    exact hS
def SX6_finding : cm_CT := fun as T M Φ => match as with
  | [.ref x] => T.1 x = 7 ∧ Φ (some (.int (M.1 x 12))) T M
  | _ => False
def JX6_finding : cm_J := (6, false, 1, [], [], [])
theorem jX6_finding : JX6_finding.1 = 6 ∧ JX6_finding.2.1 = false ∧ JX6_finding.2.2.1 = 1 := ⟨rfl, rfl, rfl⟩
theorem eX6_finding (d : Nat) (hd : 0 ≤ d) : cm_Cok d JX6_finding := ⟨(fun q h => by cases h), (fun q h => by cases h), (fun q h => by cases h)⟩
set_option maxHeartbeats 4000000 in
theorem mX6_finding (d : Nat) (hd : 0 ≤ d) : cm_Met d yX6_finding cX6_finding 1 (some .int) 0 0 SX6_finding := by
  refine cm_meets (J := JX6_finding) (by decide) rfl (fun h => by cases h) trivial ?_
  intro as T M Φ hS
  match as, hS with
  | [.ref x], ⟨h1, hS⟩ =>
    refine ⟨Nat.le_of_ble_eq_true rfl, ?_⟩
    refine cm_go hX6_finding 200 oX6_finding (eX6_finding d hd) lX6_finding_0 ?_
    simp only [jX6_finding, kX6_finding_0, fl_6_67, h1, cn_iconst, cn_lconst0, cn_lconst1, cn_null, cn_iload, cn_aload, cn_lload, cn_lo1, cn_loa1, cn_loa2, cn_lol1, cn_get0, cn_gets, cn_put0, cn_puts, cn_istore, cn_astore, cn_astoreN, cn_lstore, cn_iinc, cn_in1, cn_iadd, cn_isub, cn_imul, cn_iand, cn_ior, cn_ixor, cn_ishl, cn_ishr, cn_iushr, cn_idiv, cn_irem, cn_ladd, cn_lmul, cn_ldiv, cn_lrem, cn_i2l, cn_l2i, cn_i2b, cn_lcmp, cn_dupi, cn_dupr, cn_dup2, cn_popi, cn_popr, cn_goto, cn_if_eq, cn_if_ne, cn_if_lt, cn_if_ge, cn_if_gt, cn_if_le, cn_ic_eq, cn_ic_ne, cn_ic_lt, cn_ic_ge, cn_ic_gt, cn_ic_le, cn_ifnullN, cn_ifnullR, cn_ifnonnullN, cn_ifnonnullR, cn_tswS, cn_tsw0, cn_tsw1, cn_lswS, cn_lsw0, cn_lsw1, cn_alen, cn_iaload, cn_laload, cn_rr1, cn_rr0, cn_aaload, cn_iastore, cn_lastore, cn_aastore, cn_getfield, cn_gf0, cn_gf1, cn_gf2, cn_gf3, cn_putfield, cn_pf0f, cn_pf1f, cn_pf2f, cn_pf3f, cn_pf0t, cn_pf1t, cn_pf2t, cn_pf3t, cn_new, cn_nw1, cn_newi, cn_newl, cn_anew, cn_an1, cn_inv_v, cn_inv_s, cn_inv_p, cn_ca1, cn_cb1, cn_pop0, cn_pops, cn_rk0, cn_rk1, cn_kcn, cn_kcs, cn_ireturn, cn_lreturn, cn_areturn, cn_return, cn_re0, cn_re1, cn_re2, cn_re3, cn_re4, cn_re5, cn_wp0, cn_wps, cn_m0, cn_m1, cn_e0, cn_en, cn_ei, cn_er, cn_eu, cn_el, cn_nl0, cn_nls, cn_nb0, cn_nb1, cn_nb2, cn_nb3, cn_bd0, cn_bds, cn_cwi, cn_cwr, cn_cwl, cn_cwn, cn_wi2, cn_wl1, cn_wl3, cn_wr1, cn_wr2, cn_wi_eq, cn_wl_eq, cb_0, cb_n0, cb_b, cm_okb0, cm_okb1, Classical.not_not, true_and, and_true, Nat.reduceAdd, Nat.reduceSub, Nat.reduceLT, Nat.reduceLeDiff, Int.reduceToNat, Int.reduceNatCast', Nat.zero_le, Nat.reduceEqDiff, false_or, or_false, or_true, true_or, Int.reduceNeg, reduceCtorEq, false_implies, implies_true, forall_const, true_implies, not_true_eq_false, not_false_eq_true, Nat.le_refl, ne_eq, if_true, if_false, ite_true, ite_false, List.cons_append, List.nil_append]
    exact hS
def SX6_upper : cm_CT := fun as T M Φ => match as with
  | [.ref x] => T.1 x = 7 ∧ Φ (some (.long (M.2.1 x 10))) T M
  | _ => False
def JX6_upper : cm_J := (6, false, 3, [], [], [])
theorem jX6_upper : JX6_upper.1 = 6 ∧ JX6_upper.2.1 = false ∧ JX6_upper.2.2.1 = 3 := ⟨rfl, rfl, rfl⟩
theorem eX6_upper (d : Nat) (hd : 0 ≤ d) : cm_Cok d JX6_upper := ⟨(fun q h => by cases h), (fun q h => by cases h), (fun q h => by cases h)⟩
set_option maxHeartbeats 4000000 in
theorem mX6_upper (d : Nat) (hd : 0 ≤ d) : cm_Met d yX6_upper cX6_upper 1 (some .long) 0 0 SX6_upper := by
  refine cm_meets (J := JX6_upper) (by decide) rfl (fun h => by cases h) trivial ?_
  intro as T M Φ hS
  match as, hS with
  | [.ref x], ⟨h1, hS⟩ =>
    refine ⟨Nat.le_of_ble_eq_true rfl, ?_⟩
    refine cm_go hX6_upper 200 oX6_upper (eX6_upper d hd) lX6_upper_0 ?_
    simp only [jX6_upper, kX6_upper_0, fl_6_60, h1, cn_iconst, cn_lconst0, cn_lconst1, cn_null, cn_iload, cn_aload, cn_lload, cn_lo1, cn_loa1, cn_loa2, cn_lol1, cn_get0, cn_gets, cn_put0, cn_puts, cn_istore, cn_astore, cn_astoreN, cn_lstore, cn_iinc, cn_in1, cn_iadd, cn_isub, cn_imul, cn_iand, cn_ior, cn_ixor, cn_ishl, cn_ishr, cn_iushr, cn_idiv, cn_irem, cn_ladd, cn_lmul, cn_ldiv, cn_lrem, cn_i2l, cn_l2i, cn_i2b, cn_lcmp, cn_dupi, cn_dupr, cn_dup2, cn_popi, cn_popr, cn_goto, cn_if_eq, cn_if_ne, cn_if_lt, cn_if_ge, cn_if_gt, cn_if_le, cn_ic_eq, cn_ic_ne, cn_ic_lt, cn_ic_ge, cn_ic_gt, cn_ic_le, cn_ifnullN, cn_ifnullR, cn_ifnonnullN, cn_ifnonnullR, cn_tswS, cn_tsw0, cn_tsw1, cn_lswS, cn_lsw0, cn_lsw1, cn_alen, cn_iaload, cn_laload, cn_rr1, cn_rr0, cn_aaload, cn_iastore, cn_lastore, cn_aastore, cn_getfield, cn_gf0, cn_gf1, cn_gf2, cn_gf3, cn_putfield, cn_pf0f, cn_pf1f, cn_pf2f, cn_pf3f, cn_pf0t, cn_pf1t, cn_pf2t, cn_pf3t, cn_new, cn_nw1, cn_newi, cn_newl, cn_anew, cn_an1, cn_inv_v, cn_inv_s, cn_inv_p, cn_ca1, cn_cb1, cn_pop0, cn_pops, cn_rk0, cn_rk1, cn_kcn, cn_kcs, cn_ireturn, cn_lreturn, cn_areturn, cn_return, cn_re0, cn_re1, cn_re2, cn_re3, cn_re4, cn_re5, cn_wp0, cn_wps, cn_m0, cn_m1, cn_e0, cn_en, cn_ei, cn_er, cn_eu, cn_el, cn_nl0, cn_nls, cn_nb0, cn_nb1, cn_nb2, cn_nb3, cn_bd0, cn_bds, cn_cwi, cn_cwr, cn_cwl, cn_cwn, cn_wi2, cn_wl1, cn_wl3, cn_wr1, cn_wr2, cn_wi_eq, cn_wl_eq, cb_0, cb_n0, cb_b, cm_okb0, cm_okb1, Classical.not_not, true_and, and_true, Nat.reduceAdd, Nat.reduceSub, Nat.reduceLT, Nat.reduceLeDiff, Int.reduceToNat, Int.reduceNatCast', Nat.zero_le, Nat.reduceEqDiff, false_or, or_false, or_true, true_or, Int.reduceNeg, reduceCtorEq, false_implies, implies_true, forall_const, true_implies, not_true_eq_false, not_false_eq_true, Nat.le_refl, ne_eq, if_true, if_false, ite_true, ite_false, List.cons_append, List.nil_append]
    exact hS
def SX6_lower : cm_CT := fun as T M Φ => match as with
  | [.ref x] => T.1 x = 7 ∧ Φ (some (.long (M.2.1 x 11))) T M
  | _ => False
def JX6_lower : cm_J := (6, false, 3, [], [], [])
theorem jX6_lower : JX6_lower.1 = 6 ∧ JX6_lower.2.1 = false ∧ JX6_lower.2.2.1 = 3 := ⟨rfl, rfl, rfl⟩
theorem eX6_lower (d : Nat) (hd : 0 ≤ d) : cm_Cok d JX6_lower := ⟨(fun q h => by cases h), (fun q h => by cases h), (fun q h => by cases h)⟩
set_option maxHeartbeats 4000000 in
theorem mX6_lower (d : Nat) (hd : 0 ≤ d) : cm_Met d yX6_lower cX6_lower 1 (some .long) 0 0 SX6_lower := by
  refine cm_meets (J := JX6_lower) (by decide) rfl (fun h => by cases h) trivial ?_
  intro as T M Φ hS
  match as, hS with
  | [.ref x], ⟨h1, hS⟩ =>
    refine ⟨Nat.le_of_ble_eq_true rfl, ?_⟩
    refine cm_go hX6_lower 200 oX6_lower (eX6_lower d hd) lX6_lower_0 ?_
    simp only [jX6_lower, kX6_lower_0, fl_6_64, h1, cn_iconst, cn_lconst0, cn_lconst1, cn_null, cn_iload, cn_aload, cn_lload, cn_lo1, cn_loa1, cn_loa2, cn_lol1, cn_get0, cn_gets, cn_put0, cn_puts, cn_istore, cn_astore, cn_astoreN, cn_lstore, cn_iinc, cn_in1, cn_iadd, cn_isub, cn_imul, cn_iand, cn_ior, cn_ixor, cn_ishl, cn_ishr, cn_iushr, cn_idiv, cn_irem, cn_ladd, cn_lmul, cn_ldiv, cn_lrem, cn_i2l, cn_l2i, cn_i2b, cn_lcmp, cn_dupi, cn_dupr, cn_dup2, cn_popi, cn_popr, cn_goto, cn_if_eq, cn_if_ne, cn_if_lt, cn_if_ge, cn_if_gt, cn_if_le, cn_ic_eq, cn_ic_ne, cn_ic_lt, cn_ic_ge, cn_ic_gt, cn_ic_le, cn_ifnullN, cn_ifnullR, cn_ifnonnullN, cn_ifnonnullR, cn_tswS, cn_tsw0, cn_tsw1, cn_lswS, cn_lsw0, cn_lsw1, cn_alen, cn_iaload, cn_laload, cn_rr1, cn_rr0, cn_aaload, cn_iastore, cn_lastore, cn_aastore, cn_getfield, cn_gf0, cn_gf1, cn_gf2, cn_gf3, cn_putfield, cn_pf0f, cn_pf1f, cn_pf2f, cn_pf3f, cn_pf0t, cn_pf1t, cn_pf2t, cn_pf3t, cn_new, cn_nw1, cn_newi, cn_newl, cn_anew, cn_an1, cn_inv_v, cn_inv_s, cn_inv_p, cn_ca1, cn_cb1, cn_pop0, cn_pops, cn_rk0, cn_rk1, cn_kcn, cn_kcs, cn_ireturn, cn_lreturn, cn_areturn, cn_return, cn_re0, cn_re1, cn_re2, cn_re3, cn_re4, cn_re5, cn_wp0, cn_wps, cn_m0, cn_m1, cn_e0, cn_en, cn_ei, cn_er, cn_eu, cn_el, cn_nl0, cn_nls, cn_nb0, cn_nb1, cn_nb2, cn_nb3, cn_bd0, cn_bds, cn_cwi, cn_cwr, cn_cwl, cn_cwn, cn_wi2, cn_wl1, cn_wl3, cn_wr1, cn_wr2, cn_wi_eq, cn_wl_eq, cb_0, cb_n0, cb_b, cm_okb0, cm_okb1, Classical.not_not, true_and, and_true, Nat.reduceAdd, Nat.reduceSub, Nat.reduceLT, Nat.reduceLeDiff, Int.reduceToNat, Int.reduceNatCast', Nat.zero_le, Nat.reduceEqDiff, false_or, or_false, or_true, true_or, Int.reduceNeg, reduceCtorEq, false_implies, implies_true, forall_const, true_implies, not_true_eq_false, not_false_eq_true, Nat.le_refl, ne_eq, if_true, if_false, ite_true, ite_false, List.cons_append, List.nil_append]
    exact hS
noncomputable def fFds (s : St) (f : Int) : Int32 × St := if 1 ≤ f ∧ f ≤ 5 then (s.2.2.2.2.2.2.2.2 f.toNat, s) else (w3 (-1), s)
noncomputable def fAnc (s : St) (v : Int) : Int32 × St := if 0 ≤ v ∧ v < (s.2.2.1.1 : Int) then (anc s.2.2.1 v.toNat, s) else (w3 (-1), s)
noncomputable def fNea (s : St) (a b : Int) : Int32 × St := if (0 ≤ a ∧ a < (s.2.2.1.1 : Int)) ∧ (0 ≤ b ∧ b < (s.2.2.1.1 : Int)) ∧ a ≠ b then (nrB s.2.2.1 a b, s) else (w3 (-1), s)
noncomputable def fWys (s : St) (v : Int) : Int32 × St := if 0 ≤ v ∧ v < (s.2.2.1.1 : Int) then (w3 (wys s.2.2.1 v.toNat : Int), s) else (w3 (-1), s)
noncomputable def fLns (s : St) (v f : Int) : Int32 × St := if (0 ≤ v ∧ v < (s.2.2.1.1 : Int)) ∧ 0 ≤ f ∧ f < 3 then (if pk (s.2.2.1.2 v.toNat).1 f.toNat = none then (w3 (-9), s) else (w3 (meas (pk (s.2.2.1.2 v.toNat).1 f.toNat) 0), s)) else (w3 (-1), s)
theorem i3_ne {x y : Int32} : (x ≠ y) = (x.toInt ≠ y.toInt) := propext ⟨fun h e => h (Int32.toInt_inj.mp e), fun h e => h (by rw [e])⟩
def SX6_findings : cm_CT := fun as T M Φ => match as with
  | [.ref x, .int f] => ∃ L, CMG T M x L ∧ cPo T M x L Φ (fFds (cst M x) f.toInt)
  | _ => False
def JX6_findings : cm_J := (6, false, 1, [], [], [])
theorem jX6_findings : JX6_findings.1 = 6 ∧ JX6_findings.2.1 = false ∧ JX6_findings.2.2.1 = 1 := ⟨rfl, rfl, rfl⟩
theorem eX6_findings (d : Nat) (hd : 0 ≤ d) : cm_Cok d JX6_findings := ⟨(fun q h => by cases h), (fun q h => by cases h), (fun q h => by cases h)⟩
set_option maxHeartbeats 4000000 in
theorem mX6_findings (d : Nat) (hd : 0 ≤ d) : cm_Met d yX6_findings cX6_findings 2 (some .int) 0 0 SX6_findings := by
  refine cm_meets (J := JX6_findings) (by decide) rfl (fun h => by cases h) trivial ?_
  intro as T M Φ hS
  match as, hS with
  | [.ref x, .int f], ⟨L, hC, hS⟩ =>
    refine ⟨Nat.le_of_ble_eq_true rfl, ?_⟩
    obtain ⟨k0, ⟨r0, r1, r2, r3, r4, r5, r6, r7, r8, r13⟩, ⟨k1, k2, k137, k305⟩, ⟨l1, l2, l137, l305⟩, hr, ht⟩ := id hC.2.1
    have hB := hC.2.2.1
    obtain ⟨⟨K0, ⟨R1, R2, R3, R4, R5⟩, ⟨KK1, K2, K3, K4, K5⟩, ⟨L1, L2, L3, L4, L5⟩, RV⟩, HZ, HT, HW, HA⟩ := id hB
    obtain ⟨hn, hn16⟩ := hB.n
    have hz0 : M.1 (x + 3) 0 = w3 ((bkv M (x + 3)).1 : Int) := i3_of hn
    refine cm_go hX6_findings 200 oX6_findings (eX6_findings d hd) lX6_findings_0 ?_
    simp only [jX6_findings, kX6_findings_0, fl_6_70, k0, r0, r1, r2, r3, r4, r5, r6, r7, r8, r13, k1, k2, k137, k305, l1, l2, l137, l305, K0, R1, R2, R3, R4, R5, KK1, K2, K3, K4, K5, L1, L2, L3, L4, L5, cn_iconst, cn_lconst0, cn_lconst1, cn_null, cn_iload, cn_aload, cn_lload, cn_lo1, cn_loa1, cn_loa2, cn_lol1, cn_get0, cn_gets, cn_put0, cn_puts, cn_istore, cn_astore, cn_astoreN, cn_lstore, cn_iinc, cn_in1, cn_iadd, cn_isub, cn_imul, cn_iand, cn_ior, cn_ixor, cn_ishl, cn_ishr, cn_iushr, cn_idiv, cn_irem, cn_ladd, cn_lmul, cn_ldiv, cn_lrem, cn_i2l, cn_l2i, cn_i2b, cn_lcmp, cn_dupi, cn_dupr, cn_dup2, cn_popi, cn_popr, cn_goto, cn_if_eq, cn_if_ne, cn_if_lt, cn_if_ge, cn_if_gt, cn_if_le, cn_ic_eq, cn_ic_ne, cn_ic_lt, cn_ic_ge, cn_ic_gt, cn_ic_le, cn_ifnullN, cn_ifnullR, cn_ifnonnullN, cn_ifnonnullR, cn_tswS, cn_tsw0, cn_tsw1, cn_lswS, cn_lsw0, cn_lsw1, cn_alen, cn_iaload, cn_laload, cn_rr1, cn_rr0, cn_aaload, cn_iastore, cn_lastore, cn_aastore, cn_getfield, cn_gf0, cn_gf1, cn_gf2, cn_gf3, cn_putfield, cn_pf0f, cn_pf1f, cn_pf2f, cn_pf3f, cn_pf0t, cn_pf1t, cn_pf2t, cn_pf3t, cn_new, cn_nw1, cn_newi, cn_newl, cn_anew, cn_an1, cn_inv_v, cn_inv_s, cn_inv_p, cn_ca1, cn_cb1, cn_pop0, cn_pops, cn_rk0, cn_rk1, cn_kcn, cn_kcs, cn_ireturn, cn_lreturn, cn_areturn, cn_return, cn_re0, cn_re1, cn_re2, cn_re3, cn_re4, cn_re5, cn_wp0, cn_wps, cn_m0, cn_m1, cn_e0, cn_en, cn_ei, cn_er, cn_eu, cn_el, cn_nl0, cn_nls, cn_nb0, cn_nb1, cn_nb2, cn_nb3, cn_bd0, cn_bds, cn_cwi, cn_cwr, cn_cwl, cn_cwn, cn_wi2, cn_wl1, cn_wl3, cn_wr1, cn_wr2, cn_wi_eq, cn_wl_eq, cb_0, cb_n0, cb_b, cm_okb0, cm_okb1, Classical.not_not, true_and, and_true, Nat.reduceAdd, Nat.reduceSub, Nat.reduceLT, Nat.reduceLeDiff, Int.reduceToNat, Int.reduceNatCast', Nat.zero_le, Nat.reduceEqDiff, false_or, or_false, or_true, true_or, Int.reduceNeg, reduceCtorEq, false_implies, implies_true, forall_const, true_implies, not_true_eq_false, not_false_eq_true, Nat.le_refl, ne_eq, if_true, if_false, ite_true, ite_false, List.cons_append, List.nil_append]
    have e1 : (w3 1).toInt = 1 := by decide
    have e5 : (w3 5).toInt = 5 := by decide
    simp only [i3_lt, i3_le, e1, e5]
    unfold fFds at hS
    refine ⟨fun q => ?_, fun q => ⟨fun q2 => ⟨⟨by omega, by show f.toInt < ((6 : Nat) : Int); omega⟩, ?_⟩, fun q2 => ?_⟩⟩
    · rw [if_neg (by omega)] at hS; exact hS.k hC
    · rw [if_pos (by omega)] at hS
      have e : (cst M x).2.2.2.2.2.2.2.2 f.toInt.toNat = M.1 (x + 305) f.toInt := by
        show cCt M x f.toInt.toNat = _
        unfold cCt
        rw [if_pos (by omega), Int.toNat_of_nonneg (by omega)]
      rw [e] at hS
      exact hS.k hC
    · rw [if_neg (by omega)] at hS; exact hS.k hC
def SX6_ancestors : cm_CT := fun as T M Φ => match as with
  | [.ref x, .int v] => ∃ L, CMG T M x L ∧ cPo T M x L Φ (fAnc (cst M x) v.toInt)
  | _ => False
def JX6_ancestors : cm_J := (6, false, 1, [(144, 2, 1, 0, 0, SX0_has)], [], [])
theorem jX6_ancestors : JX6_ancestors.1 = 6 ∧ JX6_ancestors.2.1 = false ∧ JX6_ancestors.2.2.1 = 1 ∧ cm_gv JX6_ancestors 144 = some (2, 1, 0, 0, SX0_has) := ⟨rfl, rfl, rfl, rfl⟩
theorem eX6_ancestors (d : Nat) (hd : 1 ≤ d) : cm_Cok d JX6_ancestors := ⟨(List.forall_mem_cons.mpr ⟨q6_144 (mX0_has (d - 1) (by omega)) (by omega), (fun q h => by cases h)⟩), (fun q h => by cases h), (fun q h => by cases h)⟩
set_option maxHeartbeats 4000000 in
theorem mX6_ancestors (d : Nat) (hd : 1 ≤ d) : cm_Met d yX6_ancestors cX6_ancestors 2 (some .int) 0 0 SX6_ancestors := by
  refine cm_meets (J := JX6_ancestors) (by decide) rfl (fun h => by cases h) trivial ?_
  intro as T M Φ hS
  match as, hS with
  | [.ref x, .int v], ⟨L, hC, hS⟩ =>
    refine ⟨Nat.le_of_ble_eq_true rfl, ?_⟩
    obtain ⟨k0, ⟨r0, r1, r2, r3, r4, r5, r6, r7, r8, r13⟩, ⟨k1, k2, k137, k305⟩, ⟨l1, l2, l137, l305⟩, hr, ht⟩ := id hC.2.1
    have hB := hC.2.2.1
    obtain ⟨⟨K0, ⟨R1, R2, R3, R4, R5⟩, ⟨KK1, K2, K3, K4, K5⟩, ⟨L1, L2, L3, L4, L5⟩, RV⟩, HZ, HT, HW, HA⟩ := id hB
    obtain ⟨hn, hn16⟩ := hB.n
    have hz0 : M.1 (x + 3) 0 = w3 ((bkv M (x + 3)).1 : Int) := i3_of hn
    refine cm_go hX6_ancestors 200 oX6_ancestors (eX6_ancestors d hd) lX6_ancestors_0 ?_
    simp only [jX6_ancestors, kX6_ancestors_0, fl_6_21, fl_6_182, SX0_has, hn, k0, r0, r1, r2, r3, r4, r5, r6, r7, r8, r13, k1, k2, k137, k305, l1, l2, l137, l305, K0, R1, R2, R3, R4, R5, KK1, K2, K3, K4, K5, L1, L2, L3, L4, L5, cn_iconst, cn_lconst0, cn_lconst1, cn_null, cn_iload, cn_aload, cn_lload, cn_lo1, cn_loa1, cn_loa2, cn_lol1, cn_get0, cn_gets, cn_put0, cn_puts, cn_istore, cn_astore, cn_astoreN, cn_lstore, cn_iinc, cn_in1, cn_iadd, cn_isub, cn_imul, cn_iand, cn_ior, cn_ixor, cn_ishl, cn_ishr, cn_iushr, cn_idiv, cn_irem, cn_ladd, cn_lmul, cn_ldiv, cn_lrem, cn_i2l, cn_l2i, cn_i2b, cn_lcmp, cn_dupi, cn_dupr, cn_dup2, cn_popi, cn_popr, cn_goto, cn_if_eq, cn_if_ne, cn_if_lt, cn_if_ge, cn_if_gt, cn_if_le, cn_ic_eq, cn_ic_ne, cn_ic_lt, cn_ic_ge, cn_ic_gt, cn_ic_le, cn_ifnullN, cn_ifnullR, cn_ifnonnullN, cn_ifnonnullR, cn_tswS, cn_tsw0, cn_tsw1, cn_lswS, cn_lsw0, cn_lsw1, cn_alen, cn_iaload, cn_laload, cn_rr1, cn_rr0, cn_aaload, cn_iastore, cn_lastore, cn_aastore, cn_getfield, cn_gf0, cn_gf1, cn_gf2, cn_gf3, cn_putfield, cn_pf0f, cn_pf1f, cn_pf2f, cn_pf3f, cn_pf0t, cn_pf1t, cn_pf2t, cn_pf3t, cn_new, cn_nw1, cn_newi, cn_newl, cn_anew, cn_an1, cn_inv_v, cn_inv_s, cn_inv_p, cn_ca1, cn_cb1, cn_pop0, cn_pops, cn_rk0, cn_rk1, cn_kcn, cn_kcs, cn_ireturn, cn_lreturn, cn_areturn, cn_return, cn_re0, cn_re1, cn_re2, cn_re3, cn_re4, cn_re5, cn_wp0, cn_wps, cn_m0, cn_m1, cn_e0, cn_en, cn_ei, cn_er, cn_eu, cn_el, cn_nl0, cn_nls, cn_nb0, cn_nb1, cn_nb2, cn_nb3, cn_bd0, cn_bds, cn_cwi, cn_cwr, cn_cwl, cn_cwn, cn_wi2, cn_wl1, cn_wl3, cn_wr1, cn_wr2, cn_wi_eq, cn_wl_eq, cb_0, cb_n0, cb_b, cm_okb0, cm_okb1, Classical.not_not, true_and, and_true, Nat.reduceAdd, Nat.reduceSub, Nat.reduceLT, Nat.reduceLeDiff, Int.reduceToNat, Int.reduceNatCast', Nat.zero_le, Nat.reduceEqDiff, false_or, or_false, or_true, true_or, Int.reduceNeg, reduceCtorEq, false_implies, implies_true, forall_const, true_implies, not_true_eq_false, not_false_eq_true, Nat.le_refl, ne_eq, if_true, if_false, ite_true, ite_false, List.cons_append, List.nil_append]
    unfold fAnc at hS
    rw [cst_b] at hS
    refine ⟨fun q => ?_, fun q => ⟨⟨q.1, by show v.toInt < ((16 : Nat) : Int); omega⟩, ?_⟩⟩
    · rw [if_neg q] at hS; exact hS.k hC
    · rw [if_pos q] at hS
      have e := HA v.toInt.toNat (by omega)
      rw [Int.toNat_of_nonneg q.1] at e
      rw [e]
      exact hS.k hC
def SX6_nearest : cm_CT := fun as T M Φ => match as with
  | [.ref x, .int a, .int b] => ∃ L, CMG T M x L ∧ cPo T M x L Φ (fNea (cst M x) a.toInt b.toInt)
  | _ => False
def JX6_nearest : cm_J := (6, false, 1, [(185, 3, 7, 0, 0, SX6_isPair), (167, 3, 1, 0, 0, SX0_nearestOf)], [], [])
theorem jX6_nearest : JX6_nearest.1 = 6 ∧ JX6_nearest.2.1 = false ∧ JX6_nearest.2.2.1 = 1 ∧ cm_gv JX6_nearest 185 = some (3, 7, 0, 0, SX6_isPair) ∧ cm_gv JX6_nearest 167 = some (3, 1, 0, 0, SX0_nearestOf) := ⟨rfl, rfl, rfl, rfl, rfl⟩
theorem eX6_nearest (d : Nat) (hd : 2 ≤ d) : cm_Cok d JX6_nearest := ⟨(List.forall_mem_cons.mpr ⟨q6_185 (mX6_isPair (d - 1) (by omega)) (by omega), (List.forall_mem_cons.mpr ⟨q6_167 (mX0_nearestOf (d - 1) (by omega)) (by omega), (fun q h => by cases h)⟩)⟩), (fun q h => by cases h), (fun q h => by cases h)⟩
set_option maxHeartbeats 4000000 in
theorem mX6_nearest (d : Nat) (hd : 2 ≤ d) : cm_Met d yX6_nearest cX6_nearest 3 (some .int) 0 0 SX6_nearest := by
  refine cm_meets (J := JX6_nearest) (by decide) rfl (fun h => by cases h) trivial ?_
  intro as T M Φ hS
  match as, hS with
  | [.ref x, .int a, .int b], ⟨L, hC, hS⟩ =>
    refine ⟨Nat.le_of_ble_eq_true rfl, ?_⟩
    obtain ⟨k0, ⟨r0, r1, r2, r3, r4, r5, r6, r7, r8, r13⟩, ⟨k1, k2, k137, k305⟩, ⟨l1, l2, l137, l305⟩, hr, ht⟩ := id hC.2.1
    have hB := hC.2.2.1
    obtain ⟨⟨K0, ⟨R1, R2, R3, R4, R5⟩, ⟨KK1, K2, K3, K4, K5⟩, ⟨L1, L2, L3, L4, L5⟩, RV⟩, HZ, HT, HW, HA⟩ := id hB
    obtain ⟨hn, hn16⟩ := hB.n
    have hz0 : M.1 (x + 3) 0 = w3 ((bkv M (x + 3)).1 : Int) := i3_of hn
    refine cm_go hX6_nearest 200 oX6_nearest (eX6_nearest d hd) lX6_nearest_0 ?_
    simp only [jX6_nearest, kX6_nearest_0, fl_6_21, SX6_isPair, SX0_nearestOf, hn, hB, k0, r0, r1, r2, r3, r4, r5, r6, r7, r8, r13, k1, k2, k137, k305, l1, l2, l137, l305, K0, R1, R2, R3, R4, R5, KK1, K2, K3, K4, K5, L1, L2, L3, L4, L5, cn_iconst, cn_lconst0, cn_lconst1, cn_null, cn_iload, cn_aload, cn_lload, cn_lo1, cn_loa1, cn_loa2, cn_lol1, cn_get0, cn_gets, cn_put0, cn_puts, cn_istore, cn_astore, cn_astoreN, cn_lstore, cn_iinc, cn_in1, cn_iadd, cn_isub, cn_imul, cn_iand, cn_ior, cn_ixor, cn_ishl, cn_ishr, cn_iushr, cn_idiv, cn_irem, cn_ladd, cn_lmul, cn_ldiv, cn_lrem, cn_i2l, cn_l2i, cn_i2b, cn_lcmp, cn_dupi, cn_dupr, cn_dup2, cn_popi, cn_popr, cn_goto, cn_if_eq, cn_if_ne, cn_if_lt, cn_if_ge, cn_if_gt, cn_if_le, cn_ic_eq, cn_ic_ne, cn_ic_lt, cn_ic_ge, cn_ic_gt, cn_ic_le, cn_ifnullN, cn_ifnullR, cn_ifnonnullN, cn_ifnonnullR, cn_tswS, cn_tsw0, cn_tsw1, cn_lswS, cn_lsw0, cn_lsw1, cn_alen, cn_iaload, cn_laload, cn_rr1, cn_rr0, cn_aaload, cn_iastore, cn_lastore, cn_aastore, cn_getfield, cn_gf0, cn_gf1, cn_gf2, cn_gf3, cn_putfield, cn_pf0f, cn_pf1f, cn_pf2f, cn_pf3f, cn_pf0t, cn_pf1t, cn_pf2t, cn_pf3t, cn_new, cn_nw1, cn_newi, cn_newl, cn_anew, cn_an1, cn_inv_v, cn_inv_s, cn_inv_p, cn_ca1, cn_cb1, cn_pop0, cn_pops, cn_rk0, cn_rk1, cn_kcn, cn_kcs, cn_ireturn, cn_lreturn, cn_areturn, cn_return, cn_re0, cn_re1, cn_re2, cn_re3, cn_re4, cn_re5, cn_wp0, cn_wps, cn_m0, cn_m1, cn_e0, cn_en, cn_ei, cn_er, cn_eu, cn_el, cn_nl0, cn_nls, cn_nb0, cn_nb1, cn_nb2, cn_nb3, cn_bd0, cn_bds, cn_cwi, cn_cwr, cn_cwl, cn_cwn, cn_wi2, cn_wl1, cn_wl3, cn_wr1, cn_wr2, cn_wi_eq, cn_wl_eq, cb_0, cb_n0, cb_b, cm_okb0, cm_okb1, Classical.not_not, true_and, and_true, Nat.reduceAdd, Nat.reduceSub, Nat.reduceLT, Nat.reduceLeDiff, Int.reduceToNat, Int.reduceNatCast', Nat.zero_le, Nat.reduceEqDiff, false_or, or_false, or_true, true_or, Int.reduceNeg, reduceCtorEq, false_implies, implies_true, forall_const, true_implies, not_true_eq_false, not_false_eq_true, Nat.le_refl, ne_eq, if_true, if_false, ite_true, ite_false, List.cons_append, List.nil_append]
    unfold fNea at hS
    rw [cst_b] at hS
    have ne := i3_ne (x := a) (y := b)
    refine ⟨fun q => ?_, fun q => ?_⟩
    · rw [if_neg (by rw [← ne]; exact q)] at hS; exact hS.k hC
    · rw [if_pos (by rw [← ne]; exact q)] at hS; exact hS.k hC
def SX6_ways : cm_CT := fun as T M Φ => match as with
  | [.ref x, .int v] => ∃ L, CMG T M x L ∧ cPo T M x L Φ (fWys (cst M x) v.toInt)
  | _ => False
def JX6_ways : cm_J := (6, false, 1, [(144, 2, 1, 0, 0, SX0_has), (258, 2, 1, 0, 0, SX0_waysBack)], [], [])
theorem jX6_ways : JX6_ways.1 = 6 ∧ JX6_ways.2.1 = false ∧ JX6_ways.2.2.1 = 1 ∧ cm_gv JX6_ways 144 = some (2, 1, 0, 0, SX0_has) ∧ cm_gv JX6_ways 258 = some (2, 1, 0, 0, SX0_waysBack) := ⟨rfl, rfl, rfl, rfl, rfl⟩
theorem eX6_ways (d : Nat) (hd : 3 ≤ d) : cm_Cok d JX6_ways := ⟨(List.forall_mem_cons.mpr ⟨q6_144 (mX0_has (d - 1) (by omega)) (by omega), (List.forall_mem_cons.mpr ⟨q6_258 (mX0_waysBack (d - 1) (by omega)) (by omega), (fun q h => by cases h)⟩)⟩), (fun q h => by cases h), (fun q h => by cases h)⟩
set_option maxHeartbeats 4000000 in
theorem mX6_ways (d : Nat) (hd : 3 ≤ d) : cm_Met d yX6_ways cX6_ways 2 (some .int) 0 0 SX6_ways := by
  refine cm_meets (J := JX6_ways) (by decide) rfl (fun h => by cases h) trivial ?_
  intro as T M Φ hS
  match as, hS with
  | [.ref x, .int v], ⟨L, hC, hS⟩ =>
    refine ⟨Nat.le_of_ble_eq_true rfl, ?_⟩
    obtain ⟨k0, ⟨r0, r1, r2, r3, r4, r5, r6, r7, r8, r13⟩, ⟨k1, k2, k137, k305⟩, ⟨l1, l2, l137, l305⟩, hr, ht⟩ := id hC.2.1
    have hB := hC.2.2.1
    obtain ⟨⟨K0, ⟨R1, R2, R3, R4, R5⟩, ⟨KK1, K2, K3, K4, K5⟩, ⟨L1, L2, L3, L4, L5⟩, RV⟩, HZ, HT, HW, HA⟩ := id hB
    obtain ⟨hn, hn16⟩ := hB.n
    have hz0 : M.1 (x + 3) 0 = w3 ((bkv M (x + 3)).1 : Int) := i3_of hn
    refine cm_go hX6_ways 200 oX6_ways (eX6_ways d hd) lX6_ways_0 ?_
    simp only [jX6_ways, kX6_ways_0, fl_6_21, SX0_has, hn, k0, r0, r1, r2, r3, r4, r5, r6, r7, r8, r13, k1, k2, k137, k305, l1, l2, l137, l305, K0, R1, R2, R3, R4, R5, KK1, K2, K3, K4, K5, L1, L2, L3, L4, L5, cn_iconst, cn_lconst0, cn_lconst1, cn_null, cn_iload, cn_aload, cn_lload, cn_lo1, cn_loa1, cn_loa2, cn_lol1, cn_get0, cn_gets, cn_put0, cn_puts, cn_istore, cn_astore, cn_astoreN, cn_lstore, cn_iinc, cn_in1, cn_iadd, cn_isub, cn_imul, cn_iand, cn_ior, cn_ixor, cn_ishl, cn_ishr, cn_iushr, cn_idiv, cn_irem, cn_ladd, cn_lmul, cn_ldiv, cn_lrem, cn_i2l, cn_l2i, cn_i2b, cn_lcmp, cn_dupi, cn_dupr, cn_dup2, cn_popi, cn_popr, cn_goto, cn_if_eq, cn_if_ne, cn_if_lt, cn_if_ge, cn_if_gt, cn_if_le, cn_ic_eq, cn_ic_ne, cn_ic_lt, cn_ic_ge, cn_ic_gt, cn_ic_le, cn_ifnullN, cn_ifnullR, cn_ifnonnullN, cn_ifnonnullR, cn_tswS, cn_tsw0, cn_tsw1, cn_lswS, cn_lsw0, cn_lsw1, cn_alen, cn_iaload, cn_laload, cn_rr1, cn_rr0, cn_aaload, cn_iastore, cn_lastore, cn_aastore, cn_getfield, cn_gf0, cn_gf1, cn_gf2, cn_gf3, cn_putfield, cn_pf0f, cn_pf1f, cn_pf2f, cn_pf3f, cn_pf0t, cn_pf1t, cn_pf2t, cn_pf3t, cn_new, cn_nw1, cn_newi, cn_newl, cn_anew, cn_an1, cn_inv_v, cn_inv_s, cn_inv_p, cn_ca1, cn_cb1, cn_pop0, cn_pops, cn_rk0, cn_rk1, cn_kcn, cn_kcs, cn_ireturn, cn_lreturn, cn_areturn, cn_return, cn_re0, cn_re1, cn_re2, cn_re3, cn_re4, cn_re5, cn_wp0, cn_wps, cn_m0, cn_m1, cn_e0, cn_en, cn_ei, cn_er, cn_eu, cn_el, cn_nl0, cn_nls, cn_nb0, cn_nb1, cn_nb2, cn_nb3, cn_bd0, cn_bds, cn_cwi, cn_cwr, cn_cwl, cn_cwn, cn_wi2, cn_wl1, cn_wl3, cn_wr1, cn_wr2, cn_wi_eq, cn_wl_eq, cb_0, cb_n0, cb_b, cm_okb0, cm_okb1, Classical.not_not, true_and, and_true, Nat.reduceAdd, Nat.reduceSub, Nat.reduceLT, Nat.reduceLeDiff, Int.reduceToNat, Int.reduceNatCast', Nat.zero_le, Nat.reduceEqDiff, false_or, or_false, or_true, true_or, Int.reduceNeg, reduceCtorEq, false_implies, implies_true, forall_const, true_implies, not_true_eq_false, not_false_eq_true, Nat.le_refl, ne_eq, if_true, if_false, ite_true, ite_false, List.cons_append, List.nil_append]
    unfold fWys at hS
    rw [cst_b] at hS
    refine ⟨fun q => ?_, fun q => ?_⟩
    · rw [if_neg q] at hS; exact hS.k hC
    · rw [if_pos q] at hS
      refine ⟨v.toInt.toNat, hB, ?_, by omega, fun M1 f1 => ?_⟩
      · rw [Int.toNat_of_nonneg q.1]; exact (w3_self v).symm
      · simp only [jX6_ways, kX6_ways_0, fl_6_21, k0, r0, r1, r2, r3, r4, r5, r6, r7, r8, r13, k1, k2, k137, k305, l1, l2, l137, l305, K0, R1, R2, R3, R4, R5, KK1, K2, K3, K4, K5, L1, L2, L3, L4, L5, cn_iconst, cn_lconst0, cn_lconst1, cn_null, cn_iload, cn_aload, cn_lload, cn_lo1, cn_loa1, cn_loa2, cn_lol1, cn_get0, cn_gets, cn_put0, cn_puts, cn_istore, cn_astore, cn_astoreN, cn_lstore, cn_iinc, cn_in1, cn_iadd, cn_isub, cn_imul, cn_iand, cn_ior, cn_ixor, cn_ishl, cn_ishr, cn_iushr, cn_idiv, cn_irem, cn_ladd, cn_lmul, cn_ldiv, cn_lrem, cn_i2l, cn_l2i, cn_i2b, cn_lcmp, cn_dupi, cn_dupr, cn_dup2, cn_popi, cn_popr, cn_goto, cn_if_eq, cn_if_ne, cn_if_lt, cn_if_ge, cn_if_gt, cn_if_le, cn_ic_eq, cn_ic_ne, cn_ic_lt, cn_ic_ge, cn_ic_gt, cn_ic_le, cn_ifnullN, cn_ifnullR, cn_ifnonnullN, cn_ifnonnullR, cn_tswS, cn_tsw0, cn_tsw1, cn_lswS, cn_lsw0, cn_lsw1, cn_alen, cn_iaload, cn_laload, cn_rr1, cn_rr0, cn_aaload, cn_iastore, cn_lastore, cn_aastore, cn_getfield, cn_gf0, cn_gf1, cn_gf2, cn_gf3, cn_putfield, cn_pf0f, cn_pf1f, cn_pf2f, cn_pf3f, cn_pf0t, cn_pf1t, cn_pf2t, cn_pf3t, cn_new, cn_nw1, cn_newi, cn_newl, cn_anew, cn_an1, cn_inv_v, cn_inv_s, cn_inv_p, cn_ca1, cn_cb1, cn_pop0, cn_pops, cn_rk0, cn_rk1, cn_kcn, cn_kcs, cn_ireturn, cn_lreturn, cn_areturn, cn_return, cn_re0, cn_re1, cn_re2, cn_re3, cn_re4, cn_re5, cn_wp0, cn_wps, cn_m0, cn_m1, cn_e0, cn_en, cn_ei, cn_er, cn_eu, cn_el, cn_nl0, cn_nls, cn_nb0, cn_nb1, cn_nb2, cn_nb3, cn_bd0, cn_bds, cn_cwi, cn_cwr, cn_cwl, cn_cwn, cn_wi2, cn_wl1, cn_wl3, cn_wr1, cn_wr2, cn_wi_eq, cn_wl_eq, cb_0, cb_n0, cb_b, cm_okb0, cm_okb1, Classical.not_not, true_and, and_true, Nat.reduceAdd, Nat.reduceSub, Nat.reduceLT, Nat.reduceLeDiff, Int.reduceToNat, Int.reduceNatCast', Nat.zero_le, Nat.reduceEqDiff, false_or, or_false, or_true, true_or, Int.reduceNeg, reduceCtorEq, false_implies, implies_true, forall_const, true_implies, not_true_eq_false, not_false_eq_true, Nat.le_refl, ne_eq, if_true, if_false, ite_true, ite_false, List.cons_append, List.nil_append]
        obtain ⟨c1, c2, c3⟩ := cs_tal hC f1
        exact hS M1 c3 c1 c2
def SX6_lines : cm_CT := fun as T M Φ => match as with
  | [.ref x, .int v, .int f] => ∃ L, CMG T M x L ∧ cPo T M x L Φ (fLns (cst M x) v.toInt f.toInt)
  | _ => False
def JX6_lines : cm_J := (6, false, 1, [(170, 3, 7, 0, 0, SX6_hasFile), (103, 1, 5, 0, 0, SX4_isThere)], [(179, 2, 0, 0, 0, SX5_measure)], [])
theorem jX6_lines : JX6_lines.1 = 6 ∧ JX6_lines.2.1 = false ∧ JX6_lines.2.2.1 = 1 ∧ cm_gv JX6_lines 170 = some (3, 7, 0, 0, SX6_hasFile) ∧ cm_gv JX6_lines 103 = some (1, 5, 0, 0, SX4_isThere) ∧ cm_gs JX6_lines 179 = some (2, 0, 0, 0, SX5_measure) := ⟨rfl, rfl, rfl, rfl, rfl, rfl⟩
theorem eX6_lines (d : Nat) (hd : 3 ≤ d) : cm_Cok d JX6_lines := ⟨(List.forall_mem_cons.mpr ⟨q6_170 (mX6_hasFile (d - 1) (by omega)) (by omega), (List.forall_mem_cons.mpr ⟨q6_103 (mX4_isThere (d - 1) (by omega)) (by omega), (fun q h => by cases h)⟩)⟩), (List.forall_mem_cons.mpr ⟨q6_179 (mX5_measure (d - 1) (by omega)) (by omega), (fun q h => by cases h)⟩), (fun q h => by cases h)⟩
set_option maxHeartbeats 4000000 in
theorem mX6_lines (d : Nat) (hd : 3 ≤ d) : cm_Met d yX6_lines cX6_lines 4 (some .int) 0 0 SX6_lines := by
  refine cm_meets (J := JX6_lines) (by decide) rfl (fun h => by cases h) trivial ?_
  intro as T M Φ hS
  match as, hS with
  | [.ref x, .int v, .int f], ⟨L, hC, hS⟩ =>
    refine ⟨Nat.le_of_ble_eq_true rfl, ?_⟩
    obtain ⟨k0, ⟨r0, r1, r2, r3, r4, r5, r6, r7, r8, r13⟩, ⟨k1, k2, k137, k305⟩, ⟨l1, l2, l137, l305⟩, hr, ht⟩ := id hC.2.1
    have hB := hC.2.2.1
    obtain ⟨⟨K0, ⟨R1, R2, R3, R4, R5⟩, ⟨KK1, K2, K3, K4, K5⟩, ⟨L1, L2, L3, L4, L5⟩, RV⟩, HZ, HT, HW, HA⟩ := id hB
    obtain ⟨hn, hn16⟩ := hB.n
    have hz0 : M.1 (x + 3) 0 = w3 ((bkv M (x + 3)).1 : Int) := i3_of hn
    by_cases hv0 : (0 ≤ v.toInt ∧ v.toInt < ((bkv M (x + 3)).1 : Int)) ∧ 0 ≤ f.toInt ∧ f.toInt < 3
    · obtain ⟨⟨v1, v2⟩, f1, f2⟩ := id hv0
      obtain ⟨ν, ev, hν⟩ : ∃ ν : Nat, v.toInt = (ν : Int) ∧ ν < (bkv M (x + 3)).1 := ⟨v.toInt.toNat, by omega, by omega⟩
      obtain ⟨φ, ef, hφ⟩ : ∃ φ : Nat, f.toInt = (φ : Int) ∧ φ < 3 := ⟨f.toInt.toNat, by omega, by omega⟩
      have tG := HT ν (by omega)
      obtain ⟨g1, g2, g3, g4, g5, g6⟩ := tr_f tG hφ
      have rv := RV ν (by omega)
      have ixv : cm_ix v 16 := ⟨v1, by show v.toInt < ((16 : Nat) : Int); omega⟩
      have ixf : cm_ix f 3 := ⟨f1, by show f.toInt < ((3 : Nat) : Int); omega⟩
      have u1 := tG.1.1
      have u2 := tG.1.2.1
      have u3 := tG.1.2.2.1
      have u4 := tG.1.2.2.2.1
      have env : ((ν : Int)).toNat = ν := by omega
      have enf : ((φ : Int)).toNat = φ := by omega
      have hpk : pk ((bkv M (x + 3)).2 ν).1 φ = fl M (x + 3 + 6 + 8 * ν + 2 + 2 * φ) := by rw [bkv_lt hν]; exact pk_tr hφ
      have tt : ((0 ≤ (ν : Int) ∧ (ν : Int) < ((bkv M (x + 3)).1 : Int)) ∧ 0 ≤ (φ : Int) ∧ (φ : Int) < 3) = True := eq_true ⟨⟨by omega, by omega⟩, by omega, by omega⟩
      unfold fLns at hS
      rw [cst_b, if_pos hv0, ev, ef, env, enf, hpk] at hS
      refine cm_go hX6_lines 200 oX6_lines (eX6_lines d hd) lX6_lines_0 ?_
      simp only [jX6_lines, kX6_lines_0, fl_6_21, fl_6_154, fl_6_173, SX6_hasFile, SX4_isThere, SX5_measure, fl_th, hn, g3, ev, ef, ixv, ixf, rv, u1, u2, u3, u4, g1, g2, tt, k0, r0, r1, r2, r3, r4, r5, r6, r7, r8, r13, k1, k2, k137, k305, l1, l2, l137, l305, K0, R1, R2, R3, R4, R5, KK1, K2, K3, K4, K5, L1, L2, L3, L4, L5, cn_iconst, cn_lconst0, cn_lconst1, cn_null, cn_iload, cn_aload, cn_lload, cn_lo1, cn_loa1, cn_loa2, cn_lol1, cn_get0, cn_gets, cn_put0, cn_puts, cn_istore, cn_astore, cn_astoreN, cn_lstore, cn_iinc, cn_in1, cn_iadd, cn_isub, cn_imul, cn_iand, cn_ior, cn_ixor, cn_ishl, cn_ishr, cn_iushr, cn_idiv, cn_irem, cn_ladd, cn_lmul, cn_ldiv, cn_lrem, cn_i2l, cn_l2i, cn_i2b, cn_lcmp, cn_dupi, cn_dupr, cn_dup2, cn_popi, cn_popr, cn_goto, cn_if_eq, cn_if_ne, cn_if_lt, cn_if_ge, cn_if_gt, cn_if_le, cn_ic_eq, cn_ic_ne, cn_ic_lt, cn_ic_ge, cn_ic_gt, cn_ic_le, cn_ifnullN, cn_ifnullR, cn_ifnonnullN, cn_ifnonnullR, cn_tswS, cn_tsw0, cn_tsw1, cn_lswS, cn_lsw0, cn_lsw1, cn_alen, cn_iaload, cn_laload, cn_rr1, cn_rr0, cn_aaload, cn_iastore, cn_lastore, cn_aastore, cn_getfield, cn_gf0, cn_gf1, cn_gf2, cn_gf3, cn_putfield, cn_pf0f, cn_pf1f, cn_pf2f, cn_pf3f, cn_pf0t, cn_pf1t, cn_pf2t, cn_pf3t, cn_new, cn_nw1, cn_newi, cn_newl, cn_anew, cn_an1, cn_inv_v, cn_inv_s, cn_inv_p, cn_ca1, cn_cb1, cn_pop0, cn_pops, cn_rk0, cn_rk1, cn_kcn, cn_kcs, cn_ireturn, cn_lreturn, cn_areturn, cn_return, cn_re0, cn_re1, cn_re2, cn_re3, cn_re4, cn_re5, cn_wp0, cn_wps, cn_m0, cn_m1, cn_e0, cn_en, cn_ei, cn_er, cn_eu, cn_el, cn_nl0, cn_nls, cn_nb0, cn_nb1, cn_nb2, cn_nb3, cn_bd0, cn_bds, cn_cwi, cn_cwr, cn_cwl, cn_cwn, cn_wi2, cn_wl1, cn_wl3, cn_wr1, cn_wr2, cn_wi_eq, cn_wl_eq, cb_0, cb_n0, cb_b, cm_okb0, cm_okb1, Classical.not_not, true_and, and_true, Nat.reduceAdd, Nat.reduceSub, Nat.reduceLT, Nat.reduceLeDiff, Int.reduceToNat, Int.reduceNatCast', Nat.zero_le, Nat.reduceEqDiff, false_or, or_false, or_true, true_or, Int.reduceNeg, reduceCtorEq, false_implies, implies_true, forall_const, true_implies, not_true_eq_false, not_false_eq_true, Nat.le_refl, ne_eq, if_true, if_false, ite_true, ite_false, List.cons_append, List.nil_append]
      refine ⟨fun q => ?_, fun q => ?_⟩
      · rw [if_pos q] at hS; exact hS.k hC
      · rw [if_neg q] at hS; exact hS.k hC
    · have ff := eq_false hv0
      unfold fLns at hS
      rw [cst_b, if_neg hv0] at hS
      refine cm_go hX6_lines 200 oX6_lines (eX6_lines d hd) lX6_lines_0 ?_
      simp only [jX6_lines, kX6_lines_0, fl_6_21, fl_6_154, fl_6_173, SX6_hasFile, hn, ff, k0, r0, r1, r2, r3, r4, r5, r6, r7, r8, r13, k1, k2, k137, k305, l1, l2, l137, l305, K0, R1, R2, R3, R4, R5, KK1, K2, K3, K4, K5, L1, L2, L3, L4, L5, cn_iconst, cn_lconst0, cn_lconst1, cn_null, cn_iload, cn_aload, cn_lload, cn_lo1, cn_loa1, cn_loa2, cn_lol1, cn_get0, cn_gets, cn_put0, cn_puts, cn_istore, cn_astore, cn_astoreN, cn_lstore, cn_iinc, cn_in1, cn_iadd, cn_isub, cn_imul, cn_iand, cn_ior, cn_ixor, cn_ishl, cn_ishr, cn_iushr, cn_idiv, cn_irem, cn_ladd, cn_lmul, cn_ldiv, cn_lrem, cn_i2l, cn_l2i, cn_i2b, cn_lcmp, cn_dupi, cn_dupr, cn_dup2, cn_popi, cn_popr, cn_goto, cn_if_eq, cn_if_ne, cn_if_lt, cn_if_ge, cn_if_gt, cn_if_le, cn_ic_eq, cn_ic_ne, cn_ic_lt, cn_ic_ge, cn_ic_gt, cn_ic_le, cn_ifnullN, cn_ifnullR, cn_ifnonnullN, cn_ifnonnullR, cn_tswS, cn_tsw0, cn_tsw1, cn_lswS, cn_lsw0, cn_lsw1, cn_alen, cn_iaload, cn_laload, cn_rr1, cn_rr0, cn_aaload, cn_iastore, cn_lastore, cn_aastore, cn_getfield, cn_gf0, cn_gf1, cn_gf2, cn_gf3, cn_putfield, cn_pf0f, cn_pf1f, cn_pf2f, cn_pf3f, cn_pf0t, cn_pf1t, cn_pf2t, cn_pf3t, cn_new, cn_nw1, cn_newi, cn_newl, cn_anew, cn_an1, cn_inv_v, cn_inv_s, cn_inv_p, cn_ca1, cn_cb1, cn_pop0, cn_pops, cn_rk0, cn_rk1, cn_kcn, cn_kcs, cn_ireturn, cn_lreturn, cn_areturn, cn_return, cn_re0, cn_re1, cn_re2, cn_re3, cn_re4, cn_re5, cn_wp0, cn_wps, cn_m0, cn_m1, cn_e0, cn_en, cn_ei, cn_er, cn_eu, cn_el, cn_nl0, cn_nls, cn_nb0, cn_nb1, cn_nb2, cn_nb3, cn_bd0, cn_bds, cn_cwi, cn_cwr, cn_cwl, cn_cwn, cn_wi2, cn_wl1, cn_wl3, cn_wr1, cn_wr2, cn_wi_eq, cn_wl_eq, cb_0, cb_n0, cb_b, cm_okb0, cm_okb1, Classical.not_not, true_and, and_true, Nat.reduceAdd, Nat.reduceSub, Nat.reduceLT, Nat.reduceLeDiff, Int.reduceToNat, Int.reduceNatCast', Nat.zero_le, Nat.reduceEqDiff, false_or, or_false, or_true, true_or, Int.reduceNeg, reduceCtorEq, false_implies, implies_true, forall_const, true_implies, not_true_eq_false, not_false_eq_true, Nat.le_refl, ne_eq, if_true, if_false, ite_true, ite_false, List.cons_append, List.nil_append]
      exact hS.k hC

set_option maxRecDepth 100000 in
theorem kzX1_takeTree_0 : cm_cd tX1_takeTree [] 0 = some (.aload 0, 1) ∧ cm_cd tX1_takeTree [] 1 = some (.iconst 0, 1) ∧ cm_cd tX1_takeTree [] 2 = some (.putfield 18, 3) ∧ cm_cd tX1_takeTree [] 5 = some (.iconst 0, 1) ∧ cm_cd tX1_takeTree [] 6 = some (.istore 2, 1) ∧ cm_cd tX1_takeTree [] 7 = some (.iload 2, 1) ∧ cm_cd tX1_takeTree [] 8 = some (.iconst 3, 1) ∧ cm_cd tX1_takeTree [] 9 = some (.if_icmp .ge 28, 3) ∧ cm_cd tX1_takeTree [] 12 = some (.aload 0, 1) ∧ cm_cd tX1_takeTree [] 13 = some (.aload 1, 1) ∧ cm_cd tX1_takeTree [] 14 = some (.getfield 26, 3) ∧ cm_cd tX1_takeTree [] 17 = some (.iload 2, 1) ∧ cm_cd tX1_takeTree [] 18 = some (.aaload, 1) ∧ cm_cd tX1_takeTree [] 19 = some (.invokevirtual 22, 3) ∧ cm_cd tX1_takeTree [] 22 = some (.iinc 2 1, 3) ∧ cm_cd tX1_takeTree [] 25 = some (.goto 7, 3) ∧ cm_cd tX1_takeTree [] 28 = some (.return_, 1) := ⟨rfl, rfl, rfl, rfl, rfl, rfl, rfl, rfl, rfl, rfl, rfl, rfl, rfl, rfl, rfl, rfl, rfl⟩
def trc (M : cm_M) (t : Nat) : List Int32 := cnt (fl M (t + 2)) ++ cnt (fl M (t + 4)) ++ cnt (fl M (t + 6))
def BalT (M : cm_M) (t : Nat) : Prop := Bal (cnt (fl M (t + 2))) ∧ Bal (cnt (fl M (t + 4))) ∧ Bal (cnt (fl M (t + 6)))
def ap8 (t a : Nat) : Prop := t + 8 ≤ a ∨ a + 3 ≤ t
theorem cnt_40 {M : cm_M} {a : Nat} (h : szb M a) : (cnt (fl M a)).length ≤ 40 := by
  cases hL : fl M a with
  | none => exact Nat.zero_le _
  | some L =>
    have := (flm_some hL).1
    have := h.2
    show L.length ≤ 40
    omega
def SX1_takeTree : cm_CT := fun as T M Φ => match as with
  | [.ref a, .ref t] => TLL T M.2.2 a ∧ M.1 (a + 2) 0 = w3 0 ∧ TrG T M t ∧ ap8 t a ∧ BalT M t ∧ ∀ M1, Fr M M1 a 3 → LLs T M1 a (trc M t) → Φ none T M1
  | _ => False
def JX1_takeTree : cm_J := (1, false, 0, [(22, 2, 2, 0, 0, SX1_add)], [], [])
theorem jX1_takeTree : JX1_takeTree.1 = 1 ∧ JX1_takeTree.2.1 = false ∧ JX1_takeTree.2.2.1 = 0 ∧ cm_gv JX1_takeTree 22 = some (2, 2, 0, 0, SX1_add) := ⟨rfl, rfl, rfl, rfl⟩
theorem eX1_takeTree (d : Nat) (hd : 1 ≤ d) : cm_Cok d JX1_takeTree := ⟨(List.forall_mem_cons.mpr ⟨q1_22 (mX1_add (d - 1) (by omega)) (by omega), (fun q h => by cases h)⟩), (fun q h => by cases h), (fun q h => by cases h)⟩
set_option maxHeartbeats 4000000 in
theorem mX1_takeTree (d : Nat) (hd : 1 ≤ d) : cm_Met d yX1_takeTree cX1_takeTree 3 none 0 0 SX1_takeTree := by
  refine cm_meets (J := JX1_takeTree) (by decide) rfl (fun h => by cases h) trivial ?_
  intro as T M Φ hS
  match as, hS with
  | [.ref a, .ref t], ⟨hT, h0, hg, ha, ⟨hb1, hb2, hb3⟩, hS⟩ =>
    refine ⟨Nat.le_of_ble_eq_true rfl, ?_⟩
    obtain ⟨t1, t2, t3, t4, t5, t6, t7⟩ := id hT
    obtain ⟨⟨h1, h2, h3, h4, ⟨a1, a2, a3⟩, ⟨b1, b2, b3⟩, ⟨c1, c2, c3⟩, ⟨d1, d2, d3⟩, e1, e2, e3⟩, s1, s2, s3⟩ := id hg
    obtain ⟨⟨g1, p1⟩, ⟨g2, p2⟩, ⟨g3, p3⟩⟩ := hg.sg
    have F0 : Fr M (cm_wi M a 2 (w3 0)) a 3 := Fr.wi (Nat.le_refl _) (by omega)
    have ha' : ap8 t a := ha
    unfold ap8 at ha'
    have l1 := cnt_40 s1
    have l2 := cnt_40 s2
    have l3 := cnt_40 s3
    have g1' := hg.1
    have k1 : fl (cm_wi M a 2 (w3 0)) (t + 2) = fl M (t + 2) := F0.flq (by omega) (by rw [p1]; omega)
    refine cm_go [] 400 oX1_takeTree (eX1_takeTree d hd) lX1_takeTree_0 ?_
    simp (disch := omega) only [jX1_takeTree, kzX1_takeTree_0, fl_1_18, fl_1_26, t1, h1, h2, h3, h4, a1, a2, a3, b1, b2, b3, cn_iconst, cn_lconst0, cn_lconst1, cn_null, cn_iload, cn_aload, cn_lload, cn_lo1, cn_loa1, cn_loa2, cn_lol1, cn_get0, cn_gets, cn_put0, cn_puts, cn_istore, cn_astore, cn_astoreN, cn_lstore, cn_iinc, cn_in1, cn_iadd, cn_isub, cn_imul, cn_iand, cn_ior, cn_ixor, cn_ishl, cn_ishr, cn_iushr, cn_idiv, cn_irem, cn_ladd, cn_lmul, cn_ldiv, cn_lrem, cn_i2l, cn_l2i, cn_i2b, cn_lcmp, cn_dupi, cn_dupr, cn_dup2, cn_popi, cn_popr, cn_goto, cn_if_eq, cn_if_ne, cn_if_lt, cn_if_ge, cn_if_gt, cn_if_le, cn_ic_eq, cn_ic_ne, cn_ic_lt, cn_ic_ge, cn_ic_gt, cn_ic_le, cn_ifnullN, cn_ifnullR, cn_ifnonnullN, cn_ifnonnullR, cn_tswS, cn_tsw0, cn_tsw1, cn_lswS, cn_lsw0, cn_lsw1, cn_alen, cn_iaload, cn_laload, cn_rr1, cn_rr0, cn_aaload, cn_iastore, cn_lastore, cn_aastore, cn_getfield, cn_gf0, cn_gf1, cn_gf2, cn_gf3, cn_putfield, cn_pf0f, cn_pf1f, cn_pf2f, cn_pf3f, cn_pf0t, cn_pf1t, cn_pf2t, cn_pf3t, cn_new, cn_nw1, cn_newi, cn_newl, cn_anew, cn_an1, cn_inv_v, cn_inv_s, cn_inv_p, cn_ca1, cn_cb1, cn_pop0, cn_pops, cn_rk0, cn_rk1, cn_kcn, cn_kcs, cn_ireturn, cn_lreturn, cn_areturn, cn_return, cn_re0, cn_re1, cn_re2, cn_re3, cn_re4, cn_re5, cn_wp0, cn_wps, cn_m0, cn_m1, cn_e0, cn_en, cn_ei, cn_er, cn_eu, cn_el, cn_nl0, cn_nls, cn_nb0, cn_nb1, cn_nb2, cn_nb3, cn_bd0, cn_bds, cn_cwi, cn_cwr, cn_cwl, cn_cwn, cn_wi2, cn_wl1, cn_wl3, cn_wr1, cn_wr2, cn_wi_eq, cn_wl_eq, cb_0, cb_n0, cb_b, cm_okb0, cm_okb1, Classical.not_not, true_and, and_true, Nat.reduceAdd, Nat.reduceSub, Nat.reduceLT, Nat.reduceLeDiff, Int.reduceToNat, Int.reduceNatCast', Nat.zero_le, Nat.reduceEqDiff, false_or, or_false, or_true, true_or, Int.reduceNeg, reduceCtorEq, false_implies, implies_true, forall_const, true_implies, not_true_eq_false, not_false_eq_true, Nat.le_refl, ne_eq, if_true, if_false, ite_true, ite_false, List.cons_append, List.nil_append, w3_add, w3_sub, w3_le, w3_lt, w3_eq, w3_toInt, w3_ix, Int.reduceLE, Int.reduceLT, Int.reduceAdd, Int.reduceSub, Int.reduceEq, Int.le_refl, Int.lt_irrefl]
    refine ⟨[], cnt (fl M (t + 2)), LL0 hT h0, F0.sgq (by omega) g1, ⟨by omega, by rw [F0.plq, p1]; omega⟩, by rw [k1], hb1, by show 0 + _ ≤ _; omega, fun M1 f1 q1 => ?_⟩
    simp (disch := omega) only [jX1_takeTree, kzX1_takeTree_0, fl_1_18, fl_1_26, t1, f1.2, h1, h2, h3, h4, a1, a2, a3, b1, b2, b3, cn_iconst, cn_lconst0, cn_lconst1, cn_null, cn_iload, cn_aload, cn_lload, cn_lo1, cn_loa1, cn_loa2, cn_lol1, cn_get0, cn_gets, cn_put0, cn_puts, cn_istore, cn_astore, cn_astoreN, cn_lstore, cn_iinc, cn_in1, cn_iadd, cn_isub, cn_imul, cn_iand, cn_ior, cn_ixor, cn_ishl, cn_ishr, cn_iushr, cn_idiv, cn_irem, cn_ladd, cn_lmul, cn_ldiv, cn_lrem, cn_i2l, cn_l2i, cn_i2b, cn_lcmp, cn_dupi, cn_dupr, cn_dup2, cn_popi, cn_popr, cn_goto, cn_if_eq, cn_if_ne, cn_if_lt, cn_if_ge, cn_if_gt, cn_if_le, cn_ic_eq, cn_ic_ne, cn_ic_lt, cn_ic_ge, cn_ic_gt, cn_ic_le, cn_ifnullN, cn_ifnullR, cn_ifnonnullN, cn_ifnonnullR, cn_tswS, cn_tsw0, cn_tsw1, cn_lswS, cn_lsw0, cn_lsw1, cn_alen, cn_iaload, cn_laload, cn_rr1, cn_rr0, cn_aaload, cn_iastore, cn_lastore, cn_aastore, cn_getfield, cn_gf0, cn_gf1, cn_gf2, cn_gf3, cn_putfield, cn_pf0f, cn_pf1f, cn_pf2f, cn_pf3f, cn_pf0t, cn_pf1t, cn_pf2t, cn_pf3t, cn_new, cn_nw1, cn_newi, cn_newl, cn_anew, cn_an1, cn_inv_v, cn_inv_s, cn_inv_p, cn_ca1, cn_cb1, cn_pop0, cn_pops, cn_rk0, cn_rk1, cn_kcn, cn_kcs, cn_ireturn, cn_lreturn, cn_areturn, cn_return, cn_re0, cn_re1, cn_re2, cn_re3, cn_re4, cn_re5, cn_wp0, cn_wps, cn_m0, cn_m1, cn_e0, cn_en, cn_ei, cn_er, cn_eu, cn_el, cn_nl0, cn_nls, cn_nb0, cn_nb1, cn_nb2, cn_nb3, cn_bd0, cn_bds, cn_cwi, cn_cwr, cn_cwl, cn_cwn, cn_wi2, cn_wl1, cn_wl3, cn_wr1, cn_wr2, cn_wi_eq, cn_wl_eq, cb_0, cb_n0, cb_b, cm_okb0, cm_okb1, Classical.not_not, true_and, and_true, Nat.reduceAdd, Nat.reduceSub, Nat.reduceLT, Nat.reduceLeDiff, Int.reduceToNat, Int.reduceNatCast', Nat.zero_le, Nat.reduceEqDiff, false_or, or_false, or_true, true_or, Int.reduceNeg, reduceCtorEq, false_implies, implies_true, forall_const, true_implies, not_true_eq_false, not_false_eq_true, Nat.le_refl, ne_eq, if_true, if_false, ite_true, ite_false, List.cons_append, List.nil_append, w3_add, w3_sub, w3_le, w3_lt, w3_eq, w3_toInt, w3_ix, Int.reduceLE, Int.reduceLT, Int.reduceAdd, Int.reduceSub, Int.reduceEq, Int.le_refl, Int.lt_irrefl]
    have F1 := F0.trans f1
    have k2 : fl M1 (t + 4) = fl M (t + 4) := F1.flq (by omega) (by rw [p2]; omega)
    refine ⟨_, cnt (fl M (t + 4)), q1, F1.sgq (by omega) g2, ⟨by omega, by rw [F1.plq, p2]; omega⟩, by rw [k2], hb2, by rw [List.nil_append]; omega, fun M2 f2 q2 => ?_⟩
    simp (disch := omega) only [jX1_takeTree, kzX1_takeTree_0, fl_1_18, fl_1_26, t1, f1.2, f2.2, h1, h2, h3, h4, a1, a2, a3, b1, b2, b3, cn_iconst, cn_lconst0, cn_lconst1, cn_null, cn_iload, cn_aload, cn_lload, cn_lo1, cn_loa1, cn_loa2, cn_lol1, cn_get0, cn_gets, cn_put0, cn_puts, cn_istore, cn_astore, cn_astoreN, cn_lstore, cn_iinc, cn_in1, cn_iadd, cn_isub, cn_imul, cn_iand, cn_ior, cn_ixor, cn_ishl, cn_ishr, cn_iushr, cn_idiv, cn_irem, cn_ladd, cn_lmul, cn_ldiv, cn_lrem, cn_i2l, cn_l2i, cn_i2b, cn_lcmp, cn_dupi, cn_dupr, cn_dup2, cn_popi, cn_popr, cn_goto, cn_if_eq, cn_if_ne, cn_if_lt, cn_if_ge, cn_if_gt, cn_if_le, cn_ic_eq, cn_ic_ne, cn_ic_lt, cn_ic_ge, cn_ic_gt, cn_ic_le, cn_ifnullN, cn_ifnullR, cn_ifnonnullN, cn_ifnonnullR, cn_tswS, cn_tsw0, cn_tsw1, cn_lswS, cn_lsw0, cn_lsw1, cn_alen, cn_iaload, cn_laload, cn_rr1, cn_rr0, cn_aaload, cn_iastore, cn_lastore, cn_aastore, cn_getfield, cn_gf0, cn_gf1, cn_gf2, cn_gf3, cn_putfield, cn_pf0f, cn_pf1f, cn_pf2f, cn_pf3f, cn_pf0t, cn_pf1t, cn_pf2t, cn_pf3t, cn_new, cn_nw1, cn_newi, cn_newl, cn_anew, cn_an1, cn_inv_v, cn_inv_s, cn_inv_p, cn_ca1, cn_cb1, cn_pop0, cn_pops, cn_rk0, cn_rk1, cn_kcn, cn_kcs, cn_ireturn, cn_lreturn, cn_areturn, cn_return, cn_re0, cn_re1, cn_re2, cn_re3, cn_re4, cn_re5, cn_wp0, cn_wps, cn_m0, cn_m1, cn_e0, cn_en, cn_ei, cn_er, cn_eu, cn_el, cn_nl0, cn_nls, cn_nb0, cn_nb1, cn_nb2, cn_nb3, cn_bd0, cn_bds, cn_cwi, cn_cwr, cn_cwl, cn_cwn, cn_wi2, cn_wl1, cn_wl3, cn_wr1, cn_wr2, cn_wi_eq, cn_wl_eq, cb_0, cb_n0, cb_b, cm_okb0, cm_okb1, Classical.not_not, true_and, and_true, Nat.reduceAdd, Nat.reduceSub, Nat.reduceLT, Nat.reduceLeDiff, Int.reduceToNat, Int.reduceNatCast', Nat.zero_le, Nat.reduceEqDiff, false_or, or_false, or_true, true_or, Int.reduceNeg, reduceCtorEq, false_implies, implies_true, forall_const, true_implies, not_true_eq_false, not_false_eq_true, Nat.le_refl, ne_eq, if_true, if_false, ite_true, ite_false, List.cons_append, List.nil_append, w3_add, w3_sub, w3_le, w3_lt, w3_eq, w3_toInt, w3_ix, Int.reduceLE, Int.reduceLT, Int.reduceAdd, Int.reduceSub, Int.reduceEq, Int.le_refl, Int.lt_irrefl]
    have F2 := F1.trans f2
    have k3 : fl M2 (t + 6) = fl M (t + 6) := F2.flq (by omega) (by rw [p3]; omega)
    refine ⟨_, cnt (fl M (t + 6)), q2, F2.sgq (by omega) g3, ⟨by omega, by rw [F2.plq, p3]; omega⟩, by rw [k3], hb3, by rw [List.nil_append, List.length_append]; omega, fun M3 f3 q3 => ?_⟩
    simp (disch := omega) only [jX1_takeTree, kzX1_takeTree_0, fl_1_18, fl_1_26, t1, f1.2, f2.2, f3.2, h1, h2, h3, h4, a1, a2, a3, b1, b2, b3, cn_iconst, cn_lconst0, cn_lconst1, cn_null, cn_iload, cn_aload, cn_lload, cn_lo1, cn_loa1, cn_loa2, cn_lol1, cn_get0, cn_gets, cn_put0, cn_puts, cn_istore, cn_astore, cn_astoreN, cn_lstore, cn_iinc, cn_in1, cn_iadd, cn_isub, cn_imul, cn_iand, cn_ior, cn_ixor, cn_ishl, cn_ishr, cn_iushr, cn_idiv, cn_irem, cn_ladd, cn_lmul, cn_ldiv, cn_lrem, cn_i2l, cn_l2i, cn_i2b, cn_lcmp, cn_dupi, cn_dupr, cn_dup2, cn_popi, cn_popr, cn_goto, cn_if_eq, cn_if_ne, cn_if_lt, cn_if_ge, cn_if_gt, cn_if_le, cn_ic_eq, cn_ic_ne, cn_ic_lt, cn_ic_ge, cn_ic_gt, cn_ic_le, cn_ifnullN, cn_ifnullR, cn_ifnonnullN, cn_ifnonnullR, cn_tswS, cn_tsw0, cn_tsw1, cn_lswS, cn_lsw0, cn_lsw1, cn_alen, cn_iaload, cn_laload, cn_rr1, cn_rr0, cn_aaload, cn_iastore, cn_lastore, cn_aastore, cn_getfield, cn_gf0, cn_gf1, cn_gf2, cn_gf3, cn_putfield, cn_pf0f, cn_pf1f, cn_pf2f, cn_pf3f, cn_pf0t, cn_pf1t, cn_pf2t, cn_pf3t, cn_new, cn_nw1, cn_newi, cn_newl, cn_anew, cn_an1, cn_inv_v, cn_inv_s, cn_inv_p, cn_ca1, cn_cb1, cn_pop0, cn_pops, cn_rk0, cn_rk1, cn_kcn, cn_kcs, cn_ireturn, cn_lreturn, cn_areturn, cn_return, cn_re0, cn_re1, cn_re2, cn_re3, cn_re4, cn_re5, cn_wp0, cn_wps, cn_m0, cn_m1, cn_e0, cn_en, cn_ei, cn_er, cn_eu, cn_el, cn_nl0, cn_nls, cn_nb0, cn_nb1, cn_nb2, cn_nb3, cn_bd0, cn_bds, cn_cwi, cn_cwr, cn_cwl, cn_cwn, cn_wi2, cn_wl1, cn_wl3, cn_wr1, cn_wr2, cn_wi_eq, cn_wl_eq, cb_0, cb_n0, cb_b, cm_okb0, cm_okb1, Classical.not_not, true_and, and_true, Nat.reduceAdd, Nat.reduceSub, Nat.reduceLT, Nat.reduceLeDiff, Int.reduceToNat, Int.reduceNatCast', Nat.zero_le, Nat.reduceEqDiff, false_or, or_false, or_true, true_or, Int.reduceNeg, reduceCtorEq, false_implies, implies_true, forall_const, true_implies, not_true_eq_false, not_false_eq_true, Nat.le_refl, ne_eq, if_true, if_false, ite_true, ite_false, List.cons_append, List.nil_append, w3_add, w3_sub, w3_le, w3_lt, w3_eq, w3_toInt, w3_ix, Int.reduceLE, Int.reduceLT, Int.reduceAdd, Int.reduceSub, Int.reduceEq, Int.le_refl, Int.lt_irrefl]
    exact hS M3 (F2.trans f3) q3
/-- lines i .. m of c are like lines j .. n of e -/
def eqr (c : List Int32) (i m : Nat) (e : List Int32) (j n : Nat) : Prop := (stt c m : Int) - stt c i = (stt e n : Int) - stt e j ∧ ∀ k : Nat, (k : Int) < (stt c m : Int) - stt c i → gt c (stt c i + k) = gt e (stt e j + k)
theorem LLs.nu {T : cm_T} {M : cm_M} {a : Nat} {D : List Int32} (h : LLs T M a D) {k : Nat} (hk : k < D.length) : M.1 (a + 1) (k : Int) = gt D k := h.2.1.1 k hk
def SX1_isRunLike : cm_CT := fun as T M Φ => match as with
  | [.ref a, .int i, .int m, .ref b, .int j, .int n] => ∃ (c e : List Int32) (i0 m0 j0 n0 : Nat), LLs T M a c ∧ LLs T M b e ∧ i = w3 i0 ∧ m = w3 m0 ∧ j = w3 j0 ∧ n = w3 n0 ∧ i0 ≤ m0 ∧ m0 ≤ nl c ∧ j0 ≤ n0 ∧ n0 ≤ nl e ∧ Φ (some (.int (cb (eqr c i0 m0 e j0 n0)))) T M
  | _ => False
def JX1_isRunLike : cm_J := (1, false, 2, [], [], [])
theorem jX1_isRunLike : JX1_isRunLike.1 = 1 ∧ JX1_isRunLike.2.1 = false ∧ JX1_isRunLike.2.2.1 = 2 := ⟨rfl, rfl, rfl⟩
theorem eX1_isRunLike (d : Nat) (hd : 0 ≤ d) : cm_Cok d JX1_isRunLike := ⟨(fun q h => by cases h), (fun q h => by cases h), (fun q h => by cases h)⟩
set_option maxHeartbeats 4000000 in
theorem lX1_isRunLike (d : Nat) (hd : 0 ≤ d) {T : cm_T} {M : cm_M} {Φ : Option Value → cm_T → cm_M → Prop} {a b : Nat} {i m j n : Int32} {c e : List Int32} {p q z : Nat} (ha : LLs T M a c) (hb : LLs T M b e) (hp : p + z ≤ c.length) (hq : q + z ≤ e.length) (hS : Φ (some (.int (cb (∀ k : Nat, (k : Int) < (z : Int) → gt c (p + k) = gt e (q + k))))) T M) :
    ∀ (k : Nat), k ≤ z → (∀ l, l < k → gt c (p + l) = gt e (q + l)) → cm_Go d cX1_isRunLike 10 0 0 JX1_isRunLike Φ 88 [some (.ref a), some (.int i), some (.int m), some (.ref b), some (.int j), some (.int n), some (.int (w3 p)), some (.int (w3 q)), some (.int (w3 z)), some (.int (w3 k))] [] (0, 0) T M := by
  intro k
  induction hf : (z - k) using Nat.strongRecOn generalizing k with
  | _ fu ih =>
    intro k1 hl
    obtain ⟨⟨t1, t2, t3, t4, t5, t6, t7⟩, -, -, l1⟩ := id ha
    obtain ⟨⟨u1, u2, u3, u4, u5, u6, u7⟩, -, -, l2⟩ := id hb
    refine cm_go hX1_isRunLike 200 oX1_isRunLike (eX1_isRunLike d hd) lX1_isRunLike_88 ?_
    simp only [jX1_isRunLike, kX1_isRunLike_0, kX1_isRunLike_1, fl_1_18, fl_1_15, fl_1_9, t1, t2, t3, t4, t5, t6, t7, u1, u2, u3, u4, u5, u6, u7, cn_iconst, cn_lconst0, cn_lconst1, cn_null, cn_iload, cn_aload, cn_lload, cn_lo1, cn_loa1, cn_loa2, cn_lol1, cn_get0, cn_gets, cn_put0, cn_puts, cn_istore, cn_astore, cn_astoreN, cn_lstore, cn_iinc, cn_in1, cn_iadd, cn_isub, cn_imul, cn_iand, cn_ior, cn_ixor, cn_ishl, cn_ishr, cn_iushr, cn_idiv, cn_irem, cn_ladd, cn_lmul, cn_ldiv, cn_lrem, cn_i2l, cn_l2i, cn_i2b, cn_lcmp, cn_dupi, cn_dupr, cn_dup2, cn_popi, cn_popr, cn_goto, cn_if_eq, cn_if_ne, cn_if_lt, cn_if_ge, cn_if_gt, cn_if_le, cn_ic_eq, cn_ic_ne, cn_ic_lt, cn_ic_ge, cn_ic_gt, cn_ic_le, cn_ifnullN, cn_ifnullR, cn_ifnonnullN, cn_ifnonnullR, cn_tswS, cn_tsw0, cn_tsw1, cn_lswS, cn_lsw0, cn_lsw1, cn_alen, cn_iaload, cn_laload, cn_rr1, cn_rr0, cn_aaload, cn_iastore, cn_lastore, cn_aastore, cn_getfield, cn_gf0, cn_gf1, cn_gf2, cn_gf3, cn_putfield, cn_pf0f, cn_pf1f, cn_pf2f, cn_pf3f, cn_pf0t, cn_pf1t, cn_pf2t, cn_pf3t, cn_new, cn_nw1, cn_newi, cn_newl, cn_anew, cn_an1, cn_inv_v, cn_inv_s, cn_inv_p, cn_ca1, cn_cb1, cn_pop0, cn_pops, cn_rk0, cn_rk1, cn_kcn, cn_kcs, cn_ireturn, cn_lreturn, cn_areturn, cn_return, cn_re0, cn_re1, cn_re2, cn_re3, cn_re4, cn_re5, cn_wp0, cn_wps, cn_m0, cn_m1, cn_e0, cn_en, cn_ei, cn_er, cn_eu, cn_el, cn_nl0, cn_nls, cn_nb0, cn_nb1, cn_nb2, cn_nb3, cn_bd0, cn_bds, cn_cwi, cn_cwr, cn_cwl, cn_cwn, cn_wi2, cn_wl1, cn_wl3, cn_wr1, cn_wr2, cn_wi_eq, cn_wl_eq, cb_0, cb_n0, cb_b, cm_okb0, cm_okb1, Classical.not_not, true_and, and_true, Nat.reduceAdd, Nat.reduceSub, Nat.reduceLT, Nat.reduceLeDiff, Int.reduceToNat, Int.reduceNatCast', Nat.zero_le, Nat.reduceEqDiff, false_or, or_false, or_true, true_or, Int.reduceNeg, reduceCtorEq, false_implies, implies_true, forall_const, true_implies, not_true_eq_false, not_false_eq_true, Nat.le_refl, ne_eq, if_true, if_false, ite_true, ite_false, List.cons_append, List.nil_append]
    simp (disch := omega) only [w3_le, w3_lt, w3_eq, w3_ix, w3_add, w3_sub, w3_mul, w3_toInt, w3_z]
    refine ⟨fun h => ?_, fun h => ⟨⟨by omega, by omega⟩, ⟨by omega, by omega⟩, fun h7 => ?_, fun h7 => ?_⟩⟩
    · rw [cb_t (fun l a2 => hl l (by omega))] at hS; exact hS
    · have r1 : M.1 (a + 1) ((p : Int) + (k : Int)) = gt c (p + k) := by rw [← ha.nu (show p + k < c.length by omega)]; congr 1
      have r2 : M.1 (b + 1) ((q : Int) + (k : Int)) = gt e (q + k) := by rw [← hb.nu (show q + k < e.length by omega)]; congr 1
      rw [r1, r2] at h7
      refine cast ?_ (ih _ (show z - (k + 1) < fu by omega) (k + 1) rfl (by omega) (fun l a2 => ?_))
      · congr 1
      · by_cases q : l = k
        · rw [q]; exact h7
        · exact hl l (by omega)
    · have r1 : M.1 (a + 1) ((p : Int) + (k : Int)) = gt c (p + k) := by rw [← ha.nu (show p + k < c.length by omega)]; congr 1
      have r2 : M.1 (b + 1) ((q : Int) + (k : Int)) = gt e (q + k) := by rw [← hb.nu (show q + k < e.length by omega)]; congr 1
      rw [r1, r2] at h7
      rw [cb_f (fun w => h7 (w k (by omega)))] at hS; exact hS
set_option maxHeartbeats 4000000 in
theorem mX1_isRunLike (d : Nat) (hd : 0 ≤ d) : cm_Met d yX1_isRunLike cX1_isRunLike 10 (some .boolean) 0 0 SX1_isRunLike := by
  refine cm_meets (J := JX1_isRunLike) (by decide) rfl (fun h => by cases h) trivial ?_
  intro as T M Φ hS
  match as, hS with
  | [.ref a, .int i, .int m, .ref b, .int j, .int n], ⟨c, e, i0, m0, j0, n0, ha, hb, hi, hm, hj, hn, q1, q2, q3, q4, hS⟩ =>
    refine ⟨Nat.le_of_ble_eq_true rfl, ?_⟩
    subst hi hm hj hn
    obtain ⟨⟨t1, t2, t3, t4, t5, t6, t7⟩, -, bc, l1⟩ := id ha
    obtain ⟨⟨u1, u2, u3, u4, u5, u6, u7⟩, -, be, l2⟩ := id hb
    have za := ha.sz
    have zb := hb.sz
    have na := nl_120 l1
    have nb := nl_120 l2
    have si := ha.st (i := i0) (by omega)
    have sm := ha.st (i := m0) (by omega)
    have sj := hb.st (i := j0) (by omega)
    have sn := hb.st (i := n0) (by omega)
    have x1 := (stt_spec bc (show i0 ≤ nl c by omega)).1
    have x2 := (stt_spec bc (show m0 ≤ nl c by omega)).1
    have x3 := (stt_spec be (show j0 ≤ nl e by omega)).1
    have x4 := (stt_spec be (show n0 ≤ nl e by omega)).1
    have y1 := stt_le bc q1 q2
    have y2 := stt_le be q3 q4
    have ei : (w3 (i0 : Int)).toInt = (i0 : Int) := w3_toInt (by omega) (by omega)
    have em : (w3 (m0 : Int)).toInt = (m0 : Int) := w3_toInt (by omega) (by omega)
    have ej : (w3 (j0 : Int)).toInt = (j0 : Int) := w3_toInt (by omega) (by omega)
    have en : (w3 (n0 : Int)).toInt = (n0 : Int) := w3_toInt (by omega) (by omega)
    refine cm_go hX1_isRunLike 200 oX1_isRunLike (eX1_isRunLike d hd) lX1_isRunLike_0 ?_
    simp only [jX1_isRunLike, kX1_isRunLike_0, kX1_isRunLike_1, fl_1_18, fl_1_15, fl_1_9, t1, t2, t3, t4, t5, t6, t7, u1, u2, u3, u4, u5, u6, u7, za, zb, ei, em, ej, en, si, sm, sj, sn, cn_iconst, cn_lconst0, cn_lconst1, cn_null, cn_iload, cn_aload, cn_lload, cn_lo1, cn_loa1, cn_loa2, cn_lol1, cn_get0, cn_gets, cn_put0, cn_puts, cn_istore, cn_astore, cn_astoreN, cn_lstore, cn_iinc, cn_in1, cn_iadd, cn_isub, cn_imul, cn_iand, cn_ior, cn_ixor, cn_ishl, cn_ishr, cn_iushr, cn_idiv, cn_irem, cn_ladd, cn_lmul, cn_ldiv, cn_lrem, cn_i2l, cn_l2i, cn_i2b, cn_lcmp, cn_dupi, cn_dupr, cn_dup2, cn_popi, cn_popr, cn_goto, cn_if_eq, cn_if_ne, cn_if_lt, cn_if_ge, cn_if_gt, cn_if_le, cn_ic_eq, cn_ic_ne, cn_ic_lt, cn_ic_ge, cn_ic_gt, cn_ic_le, cn_ifnullN, cn_ifnullR, cn_ifnonnullN, cn_ifnonnullR, cn_tswS, cn_tsw0, cn_tsw1, cn_lswS, cn_lsw0, cn_lsw1, cn_alen, cn_iaload, cn_laload, cn_rr1, cn_rr0, cn_aaload, cn_iastore, cn_lastore, cn_aastore, cn_getfield, cn_gf0, cn_gf1, cn_gf2, cn_gf3, cn_putfield, cn_pf0f, cn_pf1f, cn_pf2f, cn_pf3f, cn_pf0t, cn_pf1t, cn_pf2t, cn_pf3t, cn_new, cn_nw1, cn_newi, cn_newl, cn_anew, cn_an1, cn_inv_v, cn_inv_s, cn_inv_p, cn_ca1, cn_cb1, cn_pop0, cn_pops, cn_rk0, cn_rk1, cn_kcn, cn_kcs, cn_ireturn, cn_lreturn, cn_areturn, cn_return, cn_re0, cn_re1, cn_re2, cn_re3, cn_re4, cn_re5, cn_wp0, cn_wps, cn_m0, cn_m1, cn_e0, cn_en, cn_ei, cn_er, cn_eu, cn_el, cn_nl0, cn_nls, cn_nb0, cn_nb1, cn_nb2, cn_nb3, cn_bd0, cn_bds, cn_cwi, cn_cwr, cn_cwl, cn_cwn, cn_wi2, cn_wl1, cn_wl3, cn_wr1, cn_wr2, cn_wi_eq, cn_wl_eq, cb_0, cb_n0, cb_b, cm_okb0, cm_okb1, Classical.not_not, true_and, and_true, Nat.reduceAdd, Nat.reduceSub, Nat.reduceLT, Nat.reduceLeDiff, Int.reduceToNat, Int.reduceNatCast', Nat.zero_le, Nat.reduceEqDiff, false_or, or_false, or_true, true_or, Int.reduceNeg, reduceCtorEq, false_implies, implies_true, forall_const, true_implies, not_true_eq_false, not_false_eq_true, Nat.le_refl, ne_eq, if_true, if_false, ite_true, ite_false, List.cons_append, List.nil_append]
    simp (disch := omega) only [w3_le, w3_lt, w3_eq, w3_ix, w3_add, w3_sub, w3_mul, w3_toInt, w3_z]
    refine ⟨fun h => by omega, fun h => ⟨fun h => by omega, fun h => ⟨fun h => by omega, fun h => ⟨fun h => by omega, fun h => ⟨fun h => by omega, fun h => ⟨fun h => ?_, fun h => by omega⟩⟩⟩⟩⟩⟩
    refine ⟨⟨by omega, by omega⟩, ⟨by omega, by omega⟩, ⟨by omega, by omega⟩, ⟨by omega, by omega⟩, fun h7 => ?_, fun h7 => ?_⟩
    · have e2 : (stt c m0 : Int) - (stt c i0 : Int) = ((stt c m0 - stt c i0 : Nat) : Int) := by omega
      have eq1 : eqr c i0 m0 e j0 n0 = ∀ k : Nat, (k : Int) < ((stt c m0 - stt c i0 : Nat) : Int) → gt c (stt c i0 + k) = gt e (stt e j0 + k) := by
        unfold eqr
        rw [← e2]
        simp only [h7, true_and]
      rw [eq1] at hS
      rw [e2]
      exact lX1_isRunLike d hd ha hb (by omega) (by omega) hS 0 (Nat.zero_le _) (fun l q => by omega)
    · rw [cb_f (fun w => h7 w.1)] at hS; exact hS

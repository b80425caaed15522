def cb (P : Prop) [Decidable P] : Int32 := if P then w3 1 else w3 0
theorem cb_0 {P : Prop} [Decidable P] : (cb P = 0) = ¬ P := by
  unfold cb; by_cases h : P
  · simp only [h, if_true, not_true_eq_false]; exact eq_false (by decide)
  · simp only [h, if_false, not_false_eq_true]; exact eq_true (by decide)
theorem cb_n0 {P : Prop} [Decidable P] : (cb P = w3 0) = ¬ P := cb_0
theorem cb_b {P : Prop} [Decidable P] : (cb P = 0 ∨ cb P = 1) = True := by
  unfold cb; by_cases h : P
  · simp only [h, if_true]; exact eq_true (by decide)
  · simp only [h, if_false]; exact eq_true (by decide)
theorem cb_t {P : Prop} [Decidable P] (h : P) : cb P = w3 1 := if_pos h
theorem cb_f {P : Prop} [Decidable P] (h : ¬ P) : cb P = w3 0 := if_neg h
theorem i3_lt (x y : Int32) : (x < y) = (x.toInt < y.toInt) := propext Int32.lt_iff_toInt_lt
theorem i3_le (x y : Int32) : (x ≤ y) = (x.toInt ≤ y.toInt) := propext Int32.le_iff_toInt_le
theorem i3_z : (0 : Int32).toInt = 0 := rfl
def SJ9_max_7cf53 : cm_CT := fun as T M Φ => match as with
  | [.int x, .int y] => Φ (some (.int (if x < y then y else x))) T M
  | _ => False
def SJ9_min_7cf53 : cm_CT := fun as T M Φ => match as with
  | [.int x, .int y] => Φ (some (.int (if y < x then y else x))) T M
  | _ => False
theorem cm_calMx {d o x : Nat} (hlk : Cond.methodLink (cm_R o) x Lib.Math.max.name ∈ cm_tb) : cm_Cal d o (.invokestatic x) (2, 0, 0, 0, SJ9_max_7cf53) := by
  intro p l e R s m args below meth c H locs cells slots Z cc J G A0 mL pc T M ls as r Φ X ho hR hdec hls hP hroom hlen hrk hcw hS kk
  obtain ⟨hx, hb, hml, hown, -, hts, hK⟩ := X
  subst ho
  match as, hS with
  | [.int x, .int y], hS => exact va_mmax (rest := r) hx hb (hml.trans hls.symm) hown (hts _ hlk) (hts (.static Lib.Math.max.name) (cm_w 117 (by decide +kernel) rfl)) (hts (.initialized "java/lang/Math") (by decide +kernel)) (hts (.code Lib.Math.max.name Lib.Math.max.code 2 (some .int)) (cm_w 118 (by decide +kernel) rfl)) (by omega) (by rw [cm_cw_sum]; omega) hroom.1 hroom.2 hdec (kk _ _ _ _ _ hS hP)
theorem cm_calMn {d o x : Nat} (hlk : Cond.methodLink (cm_R o) x Lib.Math.min.name ∈ cm_tb) : cm_Cal d o (.invokestatic x) (2, 0, 0, 0, SJ9_min_7cf53) := by
  intro p l e R s m args below meth c H locs cells slots Z cc J G A0 mL pc T M ls as r Φ X ho hR hdec hls hP hroom hlen hrk hcw hS kk
  obtain ⟨hx, hb, hml, hown, -, hts, hK⟩ := X
  subst ho
  match as, hS with
  | [.int x, .int y], hS => exact va_mmin (rest := r) hx hb (hml.trans hls.symm) hown (hts _ hlk) (hts (.static Lib.Math.min.name) (cm_w 316 (by decide +kernel) rfl)) (hts (.initialized "java/lang/Math") (by decide +kernel)) (hts (.code Lib.Math.min.name Lib.Math.min.code 2 (some .int)) (cm_w 317 (by decide +kernel) rfl)) (by omega) (by rw [cm_cw_sum]; omega) hroom.1 hroom.2 hdec (kk _ _ _ _ _ hS hP)
def SX4_isThere : cm_CT := fun as T M Φ => match as with
  | [.ref a] => T.1 a = 5 ∧ Φ (some (.int (cb (0 ≤ (M.1 a 1).toInt)))) T M
  | _ => False
def JX4_isThere : cm_J := (4, false, 2, [], [], [])
theorem jX4_isThere : JX4_isThere.1 = 4 ∧ JX4_isThere.2.1 = false ∧ JX4_isThere.2.2.1 = 2 := ⟨rfl, rfl, rfl⟩
theorem eX4_isThere (d : Nat) (hd : 0 ≤ d) : cm_Cok d JX4_isThere := ⟨(fun q h => by cases h), (fun q h => by cases h), (fun q h => by cases h)⟩
set_option maxHeartbeats 4000000 in
theorem mX4_isThere (d : Nat) (hd : 0 ≤ d) : cm_Met d yX4_isThere cX4_isThere 1 (some .boolean) 0 0 SX4_isThere := by
  refine cm_meets (J := JX4_isThere) (by decide) rfl (fun h => by cases h) trivial ?_
  intro as T M Φ hS
  match as, hS with
  | [.ref a], ⟨h1, hS⟩ =>
    refine ⟨Nat.le_of_ble_eq_true rfl, ?_⟩
    refine cm_go hX4_isThere 200 oX4_isThere (eX4_isThere d hd) lX4_isThere_0 ?_
    simp only [jX4_isThere, kX4_isThere_0, fl_4_9, h1, cn_iconst, cn_lconst0, cn_lconst1, cn_null, cn_iload, cn_aload, cn_lload, cn_lo1, cn_loa1, cn_loa2, cn_lol1, cn_get0, cn_gets, cn_put0, cn_puts, cn_istore, cn_astore, cn_astoreN, cn_lstore, cn_iinc, cn_in1, cn_iadd, cn_isub, cn_imul, cn_iand, cn_ior, cn_ixor, cn_ishl, cn_ishr, cn_iushr, cn_idiv, cn_irem, cn_ladd, cn_lmul, cn_ldiv, cn_lrem, cn_i2l, cn_l2i, cn_i2b, cn_lcmp, cn_dupi, cn_dupr, cn_dup2, cn_popi, cn_popr, cn_goto, cn_if_eq, cn_if_ne, cn_if_lt, cn_if_ge, cn_if_gt, cn_if_le, cn_ic_eq, cn_ic_ne, cn_ic_lt, cn_ic_ge, cn_ic_gt, cn_ic_le, cn_ifnullN, cn_ifnullR, cn_ifnonnullN, cn_ifnonnullR, cn_tswS, cn_tsw0, cn_tsw1, cn_lswS, cn_lsw0, cn_lsw1, cn_alen, cn_iaload, cn_laload, cn_rr1, cn_rr0, cn_aaload, cn_iastore, cn_lastore, cn_aastore, cn_getfield, cn_gf0, cn_gf1, cn_gf2, cn_gf3, cn_putfield, cn_pf0f, cn_pf1f, cn_pf2f, cn_pf3f, cn_pf0t, cn_pf1t, cn_pf2t, cn_pf3t, cn_new, cn_nw1, cn_newi, cn_newl, cn_anew, cn_an1, cn_inv_v, cn_inv_s, cn_inv_p, cn_ca1, cn_cb1, cn_pop0, cn_pops, cn_rk0, cn_rk1, cn_kcn, cn_kcs, cn_ireturn, cn_lreturn, cn_areturn, cn_return, cn_re0, cn_re1, cn_re2, cn_re3, cn_re4, cn_re5, cn_wp0, cn_wps, cn_m0, cn_m1, cn_e0, cn_en, cn_ei, cn_er, cn_eu, cn_el, cn_nl0, cn_nls, cn_nb0, cn_nb1, cn_nb2, cn_nb3, cn_bd0, cn_bds, cn_cwi, cn_cwr, cn_cwl, cn_cwn, cn_wi2, cn_wl1, cn_wl3, cn_wr1, cn_wr2, cn_wi_eq, cn_wl_eq, cb_0, cb_n0, cb_b, cm_okb0, cm_okb1, Classical.not_not, true_and, and_true, Nat.reduceAdd, Nat.reduceSub, Nat.reduceLT, Nat.reduceLeDiff, Int.reduceToNat, Int.reduceNatCast', Nat.zero_le, Nat.reduceEqDiff, false_or, or_false, or_true, true_or, Int.reduceNeg, reduceCtorEq, false_implies, implies_true, forall_const, true_implies, not_true_eq_false, not_false_eq_true, Nat.le_refl, ne_eq, if_true, if_false, ite_true, ite_false, List.cons_append, List.nil_append]
    simp only [i3_lt, i3_z]
    exact ⟨fun h => by rw [cb_f (by omega)] at hS; exact hS, fun h => by rw [cb_t (by omega)] at hS; exact hS⟩
def SX4_has : cm_CT := fun as T M Φ => match as with
  | [.ref a, .int i] => T.1 a = 5 ∧ Φ (some (.int (cb (0 ≤ i.toInt ∧ i.toInt < (M.1 a 1).toInt)))) T M
  | _ => False
def JX4_has : cm_J := (4, false, 2, [], [], [])
theorem jX4_has : JX4_has.1 = 4 ∧ JX4_has.2.1 = false ∧ JX4_has.2.2.1 = 2 := ⟨rfl, rfl, rfl⟩
theorem eX4_has (d : Nat) (hd : 0 ≤ d) : cm_Cok d JX4_has := ⟨(fun q h => by cases h), (fun q h => by cases h), (fun q h => by cases h)⟩
set_option maxHeartbeats 4000000 in
theorem mX4_has (d : Nat) (hd : 0 ≤ d) : cm_Met d yX4_has cX4_has 2 (some .boolean) 0 0 SX4_has := by
  refine cm_meets (J := JX4_has) (by decide) rfl (fun h => by cases h) trivial ?_
  intro as T M Φ hS
  match as, hS with
  | [.ref a, .int i], ⟨h1, hS⟩ =>
    refine ⟨Nat.le_of_ble_eq_true rfl, ?_⟩
    refine cm_go hX4_has 200 oX4_has (eX4_has d hd) lX4_has_0 ?_
    simp only [jX4_has, kX4_has_0, fl_4_9, h1, cn_iconst, cn_lconst0, cn_lconst1, cn_null, cn_iload, cn_aload, cn_lload, cn_lo1, cn_loa1, cn_loa2, cn_lol1, cn_get0, cn_gets, cn_put0, cn_puts, cn_istore, cn_astore, cn_astoreN, cn_lstore, cn_iinc, cn_in1, cn_iadd, cn_isub, cn_imul, cn_iand, cn_ior, cn_ixor, cn_ishl, cn_ishr, cn_iushr, cn_idiv, cn_irem, cn_ladd, cn_lmul, cn_ldiv, cn_lrem, cn_i2l, cn_l2i, cn_i2b, cn_lcmp, cn_dupi, cn_dupr, cn_dup2, cn_popi, cn_popr, cn_goto, cn_if_eq, cn_if_ne, cn_if_lt, cn_if_ge, cn_if_gt, cn_if_le, cn_ic_eq, cn_ic_ne, cn_ic_lt, cn_ic_ge, cn_ic_gt, cn_ic_le, cn_ifnullN, cn_ifnullR, cn_ifnonnullN, cn_ifnonnullR, cn_tswS, cn_tsw0, cn_tsw1, cn_lswS, cn_lsw0, cn_lsw1, cn_alen, cn_iaload, cn_laload, cn_rr1, cn_rr0, cn_aaload, cn_iastore, cn_lastore, cn_aastore, cn_getfield, cn_gf0, cn_gf1, cn_gf2, cn_gf3, cn_putfield, cn_pf0f, cn_pf1f, cn_pf2f, cn_pf3f, cn_pf0t, cn_pf1t, cn_pf2t, cn_pf3t, cn_new, cn_nw1, cn_newi, cn_newl, cn_anew, cn_an1, cn_inv_v, cn_inv_s, cn_inv_p, cn_ca1, cn_cb1, cn_pop0, cn_pops, cn_rk0, cn_rk1, cn_kcn, cn_kcs, cn_ireturn, cn_lreturn, cn_areturn, cn_return, cn_re0, cn_re1, cn_re2, cn_re3, cn_re4, cn_re5, cn_wp0, cn_wps, cn_m0, cn_m1, cn_e0, cn_en, cn_ei, cn_er, cn_eu, cn_el, cn_nl0, cn_nls, cn_nb0, cn_nb1, cn_nb2, cn_nb3, cn_bd0, cn_bds, cn_cwi, cn_cwr, cn_cwl, cn_cwn, cn_wi2, cn_wl1, cn_wl3, cn_wr1, cn_wr2, cn_wi_eq, cn_wl_eq, cb_0, cb_n0, cb_b, cm_okb0, cm_okb1, Classical.not_not, true_and, and_true, Nat.reduceAdd, Nat.reduceSub, Nat.reduceLT, Nat.reduceLeDiff, Int.reduceToNat, Int.reduceNatCast', Nat.zero_le, Nat.reduceEqDiff, false_or, or_false, or_true, true_or, Int.reduceNeg, reduceCtorEq, false_implies, implies_true, forall_const, true_implies, not_true_eq_false, not_false_eq_true, Nat.le_refl, ne_eq, if_true, if_false, ite_true, ite_false, List.cons_append, List.nil_append]
    simp only [i3_lt, i3_le, i3_z]
    refine ⟨fun h => ?_, fun h => ⟨fun h2 => ?_, fun h2 => ?_⟩⟩
    · rw [cb_f (by omega)] at hS; exact hS
    · rw [cb_f (by omega)] at hS; exact hS
    · rw [cb_t (by omega)] at hS; exact hS
def SX4_hasRun : cm_CT := fun as T M Φ => match as with
  | [.ref a, .int i, .int n] => T.1 a = 5 ∧ -1 ≤ (M.1 a 1).toInt ∧ (M.1 a 1).toInt ≤ 60 ∧ Φ (some (.int (cb (0 ≤ i.toInt ∧ 0 ≤ n.toInt ∧ i.toInt ≤ (M.1 a 1).toInt - n.toInt)))) T M
  | _ => False
def JX4_hasRun : cm_J := (4, false, 2, [], [], [])
theorem jX4_hasRun : JX4_hasRun.1 = 4 ∧ JX4_hasRun.2.1 = false ∧ JX4_hasRun.2.2.1 = 2 := ⟨rfl, rfl, rfl⟩
theorem eX4_hasRun (d : Nat) (hd : 0 ≤ d) : cm_Cok d JX4_hasRun := ⟨(fun q h => by cases h), (fun q h => by cases h), (fun q h => by cases h)⟩
set_option maxHeartbeats 4000000 in
theorem mX4_hasRun (d : Nat) (hd : 0 ≤ d) : cm_Met d yX4_hasRun cX4_hasRun 3 (some .boolean) 0 0 SX4_hasRun := by
  refine cm_meets (J := JX4_hasRun) (by decide) rfl (fun h => by cases h) trivial ?_
  intro as T M Φ hS
  match as, hS with
  | [.ref a, .int i, .int n], ⟨h1, h2, h3, hS⟩ =>
    refine ⟨Nat.le_of_ble_eq_true rfl, ?_⟩
    refine cm_go hX4_hasRun 200 oX4_hasRun (eX4_hasRun d hd) lX4_hasRun_0 ?_
    simp only [jX4_hasRun, kX4_hasRun_0, fl_4_9, h1, cn_iconst, cn_lconst0, cn_lconst1, cn_null, cn_iload, cn_aload, cn_lload, cn_lo1, cn_loa1, cn_loa2, cn_lol1, cn_get0, cn_gets, cn_put0, cn_puts, cn_istore, cn_astore, cn_astoreN, cn_lstore, cn_iinc, cn_in1, cn_iadd, cn_isub, cn_imul, cn_iand, cn_ior, cn_ixor, cn_ishl, cn_ishr, cn_iushr, cn_idiv, cn_irem, cn_ladd, cn_lmul, cn_ldiv, cn_lrem, cn_i2l, cn_l2i, cn_i2b, cn_lcmp, cn_dupi, cn_dupr, cn_dup2, cn_popi, cn_popr, cn_goto, cn_if_eq, cn_if_ne, cn_if_lt, cn_if_ge, cn_if_gt, cn_if_le, cn_ic_eq, cn_ic_ne, cn_ic_lt, cn_ic_ge, cn_ic_gt, cn_ic_le, cn_ifnullN, cn_ifnullR, cn_ifnonnullN, cn_ifnonnullR, cn_tswS, cn_tsw0, cn_tsw1, cn_lswS, cn_lsw0, cn_lsw1, cn_alen, cn_iaload, cn_laload, cn_rr1, cn_rr0, cn_aaload, cn_iastore, cn_lastore, cn_aastore, cn_getfield, cn_gf0, cn_gf1, cn_gf2, cn_gf3, cn_putfield, cn_pf0f, cn_pf1f, cn_pf2f, cn_pf3f, cn_pf0t, cn_pf1t, cn_pf2t, cn_pf3t, cn_new, cn_nw1, cn_newi, cn_newl, cn_anew, cn_an1, cn_inv_v, cn_inv_s, cn_inv_p, cn_ca1, cn_cb1, cn_pop0, cn_pops, cn_rk0, cn_rk1, cn_kcn, cn_kcs, cn_ireturn, cn_lreturn, cn_areturn, cn_return, cn_re0, cn_re1, cn_re2, cn_re3, cn_re4, cn_re5, cn_wp0, cn_wps, cn_m0, cn_m1, cn_e0, cn_en, cn_ei, cn_er, cn_eu, cn_el, cn_nl0, cn_nls, cn_nb0, cn_nb1, cn_nb2, cn_nb3, cn_bd0, cn_bds, cn_cwi, cn_cwr, cn_cwl, cn_cwn, cn_wi2, cn_wl1, cn_wl3, cn_wr1, cn_wr2, cn_wi_eq, cn_wl_eq, cb_0, cb_n0, cb_b, cm_okb0, cm_okb1, Classical.not_not, true_and, and_true, Nat.reduceAdd, Nat.reduceSub, Nat.reduceLT, Nat.reduceLeDiff, Int.reduceToNat, Int.reduceNatCast', Nat.zero_le, Nat.reduceEqDiff, false_or, or_false, or_true, true_or, Int.reduceNeg, reduceCtorEq, false_implies, implies_true, forall_const, true_implies, not_true_eq_false, not_false_eq_true, Nat.le_refl, ne_eq, if_true, if_false, ite_true, ite_false, List.cons_append, List.nil_append]
    simp only [i3_lt, i3_le, i3_z]
    refine ⟨fun h => ?_, fun h => ⟨fun h4 => ?_, fun h4 => ?_⟩⟩
    · rw [cb_f (by omega)] at hS; exact hS
    · rw [cb_f (by omega)] at hS; exact hS
    · have e : (M.1 a 1 - n).toInt = (M.1 a 1).toInt - n.toInt := by
        have := w3_hi n
        rw [← w3_self (M.1 a 1), ← w3_self n, w3_sub, w3_toInt (by omega) (by omega), w3_toInt (by omega) (by omega), w3_toInt (by omega) (by omega)]
      rw [e]
      exact ⟨fun h5 => by rw [cb_f (by omega)] at hS; exact hS, fun h5 => by rw [cb_t (by omega)] at hS; exact hS⟩
/-- a row at a with its places at pa -/
def St (T : cm_T) (M : cm_M) (a pa : Nat) : Prop := T.1 a = 5 ∧ M.2.2 a 0 = some pa ∧ T.1 pa = 20 ∧ -1 ≤ (M.1 a 1).toInt ∧ (M.1 a 1).toInt ≤ (T.2.1 pa : Int) ∧ T.2.1 pa ≤ 60
def SX4_get : cm_CT := fun as T M Φ => match as with
  | [.ref a, .int i] => ∃ pa, St T M a pa ∧ Φ (some (.int (if 0 ≤ i.toInt ∧ i.toInt < (M.1 a 1).toInt then M.1 pa i.toInt else w3 0))) T M
  | _ => False
def JX4_get : cm_J := (4, false, 1, [(25, 2, 5, 0, 0, SX4_has)], [], [])
theorem jX4_get : JX4_get.1 = 4 ∧ JX4_get.2.1 = false ∧ JX4_get.2.2.1 = 1 ∧ cm_gv JX4_get 25 = some (2, 5, 0, 0, SX4_has) := ⟨rfl, rfl, rfl, rfl⟩
theorem eX4_get (d : Nat) (hd : 1 ≤ d) : cm_Cok d JX4_get := ⟨(List.forall_mem_cons.mpr ⟨q4_25 (mX4_has (d - 1) (by omega)) (by omega), (fun q h => by cases h)⟩), (fun q h => by cases h), (fun q h => by cases h)⟩
set_option maxHeartbeats 4000000 in
theorem mX4_get (d : Nat) (hd : 1 ≤ d) : cm_Met d yX4_get cX4_get 2 (some .int) 0 0 SX4_get := by
  refine cm_meets (J := JX4_get) (by decide) rfl (fun h => by cases h) trivial ?_
  intro as T M Φ hS
  match as, hS with
  | [.ref a, .int i], ⟨pa, ⟨h1, h2, h3, h4, h5, h6⟩, hS⟩ =>
    refine ⟨Nat.le_of_ble_eq_true rfl, ?_⟩
    refine cm_go hX4_get 200 oX4_get (eX4_get d hd) lX4_get_0 ?_
    simp only [jX4_get, kX4_get_0, fl_4_21, SX4_has, h1, h2, h3, cn_iconst, cn_lconst0, cn_lconst1, cn_null, cn_iload, cn_aload, cn_lload, cn_lo1, cn_loa1, cn_loa2, cn_lol1, cn_get0, cn_gets, cn_put0, cn_puts, cn_istore, cn_astore, cn_astoreN, cn_lstore, cn_iinc, cn_in1, cn_iadd, cn_isub, cn_imul, cn_iand, cn_ior, cn_ixor, cn_ishl, cn_ishr, cn_iushr, cn_idiv, cn_irem, cn_ladd, cn_lmul, cn_ldiv, cn_lrem, cn_i2l, cn_l2i, cn_i2b, cn_lcmp, cn_dupi, cn_dupr, cn_dup2, cn_popi, cn_popr, cn_goto, cn_if_eq, cn_if_ne, cn_if_lt, cn_if_ge, cn_if_gt, cn_if_le, cn_ic_eq, cn_ic_ne, cn_ic_lt, cn_ic_ge, cn_ic_gt, cn_ic_le, cn_ifnullN, cn_ifnullR, cn_ifnonnullN, cn_ifnonnullR, cn_tswS, cn_tsw0, cn_tsw1, cn_lswS, cn_lsw0, cn_lsw1, cn_alen, cn_iaload, cn_laload, cn_rr1, cn_rr0, cn_aaload, cn_iastore, cn_lastore, cn_aastore, cn_getfield, cn_gf0, cn_gf1, cn_gf2, cn_gf3, cn_putfield, cn_pf0f, cn_pf1f, cn_pf2f, cn_pf3f, cn_pf0t, cn_pf1t, cn_pf2t, cn_pf3t, cn_new, cn_nw1, cn_newi, cn_newl, cn_anew, cn_an1, cn_inv_v, cn_inv_s, cn_inv_p, cn_ca1, cn_cb1, cn_pop0, cn_pops, cn_rk0, cn_rk1, cn_kcn, cn_kcs, cn_ireturn, cn_lreturn, cn_areturn, cn_return, cn_re0, cn_re1, cn_re2, cn_re3, cn_re4, cn_re5, cn_wp0, cn_wps, cn_m0, cn_m1, cn_e0, cn_en, cn_ei, cn_er, cn_eu, cn_el, cn_nl0, cn_nls, cn_nb0, cn_nb1, cn_nb2, cn_nb3, cn_bd0, cn_bds, cn_cwi, cn_cwr, cn_cwl, cn_cwn, cn_wi2, cn_wl1, cn_wl3, cn_wr1, cn_wr2, cn_wi_eq, cn_wl_eq, cb_0, cb_n0, cb_b, cm_okb0, cm_okb1, Classical.not_not, true_and, and_true, Nat.reduceAdd, Nat.reduceSub, Nat.reduceLT, Nat.reduceLeDiff, Int.reduceToNat, Int.reduceNatCast', Nat.zero_le, Nat.reduceEqDiff, false_or, or_false, or_true, true_or, Int.reduceNeg, reduceCtorEq, false_implies, implies_true, forall_const, true_implies, not_true_eq_false, not_false_eq_true, Nat.le_refl, ne_eq, if_true, if_false, ite_true, ite_false, List.cons_append, List.nil_append]
    refine ⟨fun h => ?_, fun h => ?_⟩
    · rw [if_neg h] at hS; exact hS
    · rw [if_pos h] at hS
      exact ⟨⟨h.1, by omega⟩, hS⟩
def SX4_set : cm_CT := fun as T M Φ => match as with
  | [.ref a, .int i, .int v] => ∃ pa, St T M a pa ∧ Φ none T (if 0 ≤ i.toInt ∧ i.toInt < (M.1 a 1).toInt then cm_wi M pa i.toInt v else M)
  | _ => False
def JX4_set : cm_J := (4, false, 0, [(25, 2, 5, 0, 0, SX4_has)], [], [])
theorem jX4_set : JX4_set.1 = 4 ∧ JX4_set.2.1 = false ∧ JX4_set.2.2.1 = 0 ∧ cm_gv JX4_set 25 = some (2, 5, 0, 0, SX4_has) := ⟨rfl, rfl, rfl, rfl⟩
theorem eX4_set (d : Nat) (hd : 1 ≤ d) : cm_Cok d JX4_set := ⟨(List.forall_mem_cons.mpr ⟨q4_25 (mX4_has (d - 1) (by omega)) (by omega), (fun q h => by cases h)⟩), (fun q h => by cases h), (fun q h => by cases h)⟩
set_option maxHeartbeats 4000000 in
theorem mX4_set (d : Nat) (hd : 1 ≤ d) : cm_Met d yX4_set cX4_set 3 none 0 0 SX4_set := by
  refine cm_meets (J := JX4_set) (by decide) rfl (fun h => by cases h) trivial ?_
  intro as T M Φ hS
  match as, hS with
  | [.ref a, .int i, .int v], ⟨pa, ⟨h1, h2, h3, h4, h5, h6⟩, hS⟩ =>
    refine ⟨Nat.le_of_ble_eq_true rfl, ?_⟩
    refine cm_go hX4_set 200 oX4_set (eX4_set d hd) lX4_set_0 ?_
    simp only [jX4_set, kX4_set_0, fl_4_21, SX4_has, h1, h2, h3, cn_iconst, cn_lconst0, cn_lconst1, cn_null, cn_iload, cn_aload, cn_lload, cn_lo1, cn_loa1, cn_loa2, cn_lol1, cn_get0, cn_gets, cn_put0, cn_puts, cn_istore, cn_astore, cn_astoreN, cn_lstore, cn_iinc, cn_in1, cn_iadd, cn_isub, cn_imul, cn_iand, cn_ior, cn_ixor, cn_ishl, cn_ishr, cn_iushr, cn_idiv, cn_irem, cn_ladd, cn_lmul, cn_ldiv, cn_lrem, cn_i2l, cn_l2i, cn_i2b, cn_lcmp, cn_dupi, cn_dupr, cn_dup2, cn_popi, cn_popr, cn_goto, cn_if_eq, cn_if_ne, cn_if_lt, cn_if_ge, cn_if_gt, cn_if_le, cn_ic_eq, cn_ic_ne, cn_ic_lt, cn_ic_ge, cn_ic_gt, cn_ic_le, cn_ifnullN, cn_ifnullR, cn_ifnonnullN, cn_ifnonnullR, cn_tswS, cn_tsw0, cn_tsw1, cn_lswS, cn_lsw0, cn_lsw1, cn_alen, cn_iaload, cn_laload, cn_rr1, cn_rr0, cn_aaload, cn_iastore, cn_lastore, cn_aastore, cn_getfield, cn_gf0, cn_gf1, cn_gf2, cn_gf3, cn_putfield, cn_pf0f, cn_pf1f, cn_pf2f, cn_pf3f, cn_pf0t, cn_pf1t, cn_pf2t, cn_pf3t, cn_new, cn_nw1, cn_newi, cn_newl, cn_anew, cn_an1, cn_inv_v, cn_inv_s, cn_inv_p, cn_ca1, cn_cb1, cn_pop0, cn_pops, cn_rk0, cn_rk1, cn_kcn, cn_kcs, cn_ireturn, cn_lreturn, cn_areturn, cn_return, cn_re0, cn_re1, cn_re2, cn_re3, cn_re4, cn_re5, cn_wp0, cn_wps, cn_m0, cn_m1, cn_e0, cn_en, cn_ei, cn_er, cn_eu, cn_el, cn_nl0, cn_nls, cn_nb0, cn_nb1, cn_nb2, cn_nb3, cn_bd0, cn_bds, cn_cwi, cn_cwr, cn_cwl, cn_cwn, cn_wi2, cn_wl1, cn_wl3, cn_wr1, cn_wr2, cn_wi_eq, cn_wl_eq, cb_0, cb_n0, cb_b, cm_okb0, cm_okb1, Classical.not_not, true_and, and_true, Nat.reduceAdd, Nat.reduceSub, Nat.reduceLT, Nat.reduceLeDiff, Int.reduceToNat, Int.reduceNatCast', Nat.zero_le, Nat.reduceEqDiff, false_or, or_false, or_true, true_or, Int.reduceNeg, reduceCtorEq, false_implies, implies_true, forall_const, true_implies, not_true_eq_false, not_false_eq_true, Nat.le_refl, ne_eq, if_true, if_false, ite_true, ite_false, List.cons_append, List.nil_append]
    refine ⟨fun h => ?_, fun h => ?_⟩
    · rw [if_neg h] at hS; exact hS
    · rw [if_pos h] at hS
      exact ⟨⟨h.1, by omega⟩, hS⟩

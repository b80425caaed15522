noncomputable def cb (P : Prop) : Int32 := @ite Int32 P (Classical.propDecidable P) (w3 1) (w3 0)
theorem cb_t {P : Prop} (h : P) : cb P = w3 1 := if_pos h
theorem cb_f {P : Prop} (h : ¬ P) : cb P = w3 0 := if_neg h
theorem cb_0 {P : Prop} : (cb P = 0) = ¬ P := by
  by_cases h : P
  · rw [cb_t h]; simp only [h, not_true_eq_false]; exact eq_false (by decide)
  · rw [cb_f h]; simp only [h, not_false_eq_true]; exact eq_true (by decide)
theorem cb_n0 {P : Prop} : (cb P = w3 0) = ¬ P := cb_0
theorem cb_b {P : Prop} : (cb P = 0 ∨ cb P = 1) = True := by
  by_cases h : P
  · rw [cb_t h]; exact eq_true (by decide)
  · rw [cb_f h]; exact eq_true (by decide)
theorem i3_lt (x y : Int32) : (x < y) = (x.toInt < y.toInt) := propext Int32.lt_iff_toInt_lt
theorem i3_le (x y : Int32) : (x ≤ y) = (x.toInt ≤ y.toInt) := propext Int32.le_iff_toInt_le
theorem i3_z : (0 : Int32).toInt = 0 := rfl
def SJ9_max_7cf53 : cm_CT := fun as T M Φ => match as with
  | [.int x, .int y] => Φ (some (.int (if x < y then y else x))) T M
  | _ => False
def SJ9_min_7cf53 : cm_CT := fun as T M Φ => match as with
  | [.int x, .int y] => Φ (some (.int (if y < x then y else x))) T M
  | _ => False
theorem cm_calMx {d o x : Nat} (hlk : Cond.methodLink (cm_R o) x Lib.Math.max.name ∈ cm_tb) : cm_Cal d o (.invokestatic x) (2, 0, 0, 0, SJ9_max_7cf53) := by
  intro p l e R s m args below meth c H locs cells slots Z cc J G A0 mL pc T M ls as r Φ X ho hR hdec hls hP hroom hlen hrk hcw hS kk
  obtain ⟨hx, hb, hml, hown, -, hts, hK⟩ := X
  subst ho
  match as, hS with
  | [.int x, .int y], hS => exact va_mmax (rest := r) hx hb (hml.trans hls.symm) hown (hts _ hlk) (hts (.static Lib.Math.max.name) (cm_w 117 (by decide +kernel) rfl)) (hts (.initialized "java/lang/Math") (by decide +kernel)) (hts (.code Lib.Math.max.name Lib.Math.max.code 2 (some .int)) (cm_w 118 (by decide +kernel) rfl)) (by omega) (by rw [cm_cw_sum]; omega) hroom.1 hroom.2 hdec (kk _ _ _ _ _ hS hP)
theorem cm_calMn {d o x : Nat} (hlk : Cond.methodLink (cm_R o) x Lib.Math.min.name ∈ cm_tb) : cm_Cal d o (.invokestatic x) (2, 0, 0, 0, SJ9_min_7cf53) := by
  intro p l e R s m args below meth c H locs cells slots Z cc J G A0 mL pc T M ls as r Φ X ho hR hdec hls hP hroom hlen hrk hcw hS kk
  obtain ⟨hx, hb, hml, hown, -, hts, hK⟩ := X
  subst ho
  match as, hS with
  | [.int x, .int y], hS => exact va_mmin (rest := r) hx hb (hml.trans hls.symm) hown (hts _ hlk) (hts (.static Lib.Math.min.name) (cm_w 316 (by decide +kernel) rfl)) (hts (.initialized "java/lang/Math") (by decide +kernel)) (hts (.code Lib.Math.min.name Lib.Math.min.code 2 (some .int)) (cm_w 317 (by decide +kernel) rfl)) (by omega) (by rw [cm_cw_sum]; omega) hroom.1 hroom.2 hdec (kk _ _ _ _ _ hS hP)
def SX4_isThere : cm_CT := fun as T M Φ => match as with
  | [.ref a] => T.1 a = 5 ∧ Φ (some (.int (cb (0 ≤ (M.1 a 1).toInt)))) T M
  | _ => False
def JX4_isThere : cm_J := (4, false, 2, [], [], [])
theorem jX4_isThere : JX4_isThere.1 = 4 ∧ JX4_isThere.2.1 = false ∧ JX4_isThere.2.2.1 = 2 := ⟨rfl, rfl, rfl⟩
theorem eX4_isThere (d : Nat) (hd : 0 ≤ d) : cm_Cok d JX4_isThere := ⟨(fun q h => by cases h), (fun q h => by cases h), (fun q h => by cases h)⟩
set_option maxHeartbeats 4000000 in
theorem mX4_isThere (d : Nat) (hd : 0 ≤ d) : cm_Met d yX4_isThere cX4_isThere 1 (some .boolean) 0 0 SX4_isThere := by
  refine cm_meets (J := JX4_isThere) (by decide) rfl (fun h => by cases h) trivial ?_
  intro as T M Φ hS
  match as, hS with
  | [.ref a], ⟨h1, hS⟩ =>
    refine ⟨Nat.le_of_ble_eq_true rfl, ?_⟩
    refine cm_go hX4_isThere 200 oX4_isThere (eX4_isThere d hd) lX4_isThere_0 ?_
    simp only [jX4_isThere, kX4_isThere_0, fl_4_9, h1, cn_iconst, cn_lconst0, cn_lconst1, cn_null, cn_iload, cn_aload, cn_lload, cn_lo1, cn_loa1, cn_loa2, cn_lol1, cn_get0, cn_gets, cn_put0, cn_puts, cn_istore, cn_astore, cn_astoreN, cn_lstore, cn_iinc, cn_in1, cn_iadd, cn_isub, cn_imul, cn_iand, cn_ior, cn_ixor, cn_ishl, cn_ishr, cn_iushr, cn_idiv, cn_irem, cn_ladd, cn_lmul, cn_ldiv, cn_lrem, cn_i2l, cn_l2i, cn_i2b, cn_lcmp, cn_dupi, cn_dupr, cn_dup2, cn_popi, cn_popr, cn_goto, cn_if_eq, cn_if_ne, cn_if_lt, cn_if_ge, cn_if_gt, cn_if_le, cn_ic_eq, cn_ic_ne, cn_ic_lt, cn_ic_ge, cn_ic_gt, cn_ic_le, cn_ifnullN, cn_ifnullR, cn_ifnonnullN, cn_ifnonnullR, cn_tswS, cn_tsw0, cn_tsw1, cn_lswS, cn_lsw0, cn_lsw1, cn_alen, cn_iaload, cn_laload, cn_rr1, cn_rr0, cn_aaload, cn_iastore, cn_lastore, cn_aastore, cn_getfield, cn_gf0, cn_gf1, cn_gf2, cn_gf3, cn_putfield, cn_pf0f, cn_pf1f, cn_pf2f, cn_pf3f, cn_pf0t, cn_pf1t, cn_pf2t, cn_pf3t, cn_new, cn_nw1, cn_newi, cn_newl, cn_anew, cn_an1, cn_inv_v, cn_inv_s, cn_inv_p, cn_ca1, cn_cb1, cn_pop0, cn_pops, cn_rk0, cn_rk1, cn_kcn, cn_kcs, cn_ireturn, cn_lreturn, cn_areturn, cn_return, cn_re0, cn_re1, cn_re2, cn_re3, cn_re4, cn_re5, cn_wp0, cn_wps, cn_m0, cn_m1, cn_e0, cn_en, cn_ei, cn_er, cn_eu, cn_el, cn_nl0, cn_nls, cn_nb0, cn_nb1, cn_nb2, cn_nb3, cn_bd0, cn_bds, cn_cwi, cn_cwr, cn_cwl, cn_cwn, cn_wi2, cn_wl1, cn_wl3, cn_wr1, cn_wr2, cn_wi_eq, cn_wl_eq, cb_0, cb_n0, cb_b, cm_okb0, cm_okb1, Classical.not_not, true_and, and_true, Nat.reduceAdd, Nat.reduceSub, Nat.reduceLT, Nat.reduceLeDiff, Int.reduceToNat, Int.reduceNatCast', Nat.zero_le, Nat.reduceEqDiff, false_or, or_false, or_true, true_or, Int.reduceNeg, reduceCtorEq, false_implies, implies_true, forall_const, true_implies, not_true_eq_false, not_false_eq_true, Nat.le_refl, ne_eq, if_true, if_false, ite_true, ite_false, List.cons_append, List.nil_append]
    simp only [i3_lt, i3_z]
    exact ⟨fun h => by rw [cb_f (by omega)] at hS; exact hS, fun h => by rw [cb_t (by omega)] at hS; exact hS⟩
def SX4_has : cm_CT := fun as T M Φ => match as with
  | [.ref a, .int i] => T.1 a = 5 ∧ Φ (some (.int (cb (0 ≤ i.toInt ∧ i.toInt < (M.1 a 1).toInt)))) T M
  | _ => False
def JX4_has : cm_J := (4, false, 2, [], [], [])
theorem jX4_has : JX4_has.1 = 4 ∧ JX4_has.2.1 = false ∧ JX4_has.2.2.1 = 2 := ⟨rfl, rfl, rfl⟩
theorem eX4_has (d : Nat) (hd : 0 ≤ d) : cm_Cok d JX4_has := ⟨(fun q h => by cases h), (fun q h => by cases h), (fun q h => by cases h)⟩
set_option maxHeartbeats 4000000 in
theorem mX4_has (d : Nat) (hd : 0 ≤ d) : cm_Met d yX4_has cX4_has 2 (some .boolean) 0 0 SX4_has := by
  refine cm_meets (J := JX4_has) (by decide) rfl (fun h => by cases h) trivial ?_
  intro as T M Φ hS
  match as, hS with
  | [.ref a, .int i], ⟨h1, hS⟩ =>
    refine ⟨Nat.le_of_ble_eq_true rfl, ?_⟩
    refine cm_go hX4_has 200 oX4_has (eX4_has d hd) lX4_has_0 ?_
    simp only [jX4_has, kX4_has_0, fl_4_9, h1, cn_iconst, cn_lconst0, cn_lconst1, cn_null, cn_iload, cn_aload, cn_lload, cn_lo1, cn_loa1, cn_loa2, cn_lol1, cn_get0, cn_gets, cn_put0, cn_puts, cn_istore, cn_astore, cn_astoreN, cn_lstore, cn_iinc, cn_in1, cn_iadd, cn_isub, cn_imul, cn_iand, cn_ior, cn_ixor, cn_ishl, cn_ishr, cn_iushr, cn_idiv, cn_irem, cn_ladd, cn_lmul, cn_ldiv, cn_lrem, cn_i2l, cn_l2i, cn_i2b, cn_lcmp, cn_dupi, cn_dupr, cn_dup2, cn_popi, cn_popr, cn_goto, cn_if_eq, cn_if_ne, cn_if_lt, cn_if_ge, cn_if_gt, cn_if_le, cn_ic_eq, cn_ic_ne, cn_ic_lt, cn_ic_ge, cn_ic_gt, cn_ic_le, cn_ifnullN, cn_ifnullR, cn_ifnonnullN, cn_ifnonnullR, cn_tswS, cn_tsw0, cn_tsw1, cn_lswS, cn_lsw0, cn_lsw1, cn_alen, cn_iaload, cn_laload, cn_rr1, cn_rr0, cn_aaload, cn_iastore, cn_lastore, cn_aastore, cn_getfield, cn_gf0, cn_gf1, cn_gf2, cn_gf3, cn_putfield, cn_pf0f, cn_pf1f, cn_pf2f, cn_pf3f, cn_pf0t, cn_pf1t, cn_pf2t, cn_pf3t, cn_new, cn_nw1, cn_newi, cn_newl, cn_anew, cn_an1, cn_inv_v, cn_inv_s, cn_inv_p, cn_ca1, cn_cb1, cn_pop0, cn_pops, cn_rk0, cn_rk1, cn_kcn, cn_kcs, cn_ireturn, cn_lreturn, cn_areturn, cn_return, cn_re0, cn_re1, cn_re2, cn_re3, cn_re4, cn_re5, cn_wp0, cn_wps, cn_m0, cn_m1, cn_e0, cn_en, cn_ei, cn_er, cn_eu, cn_el, cn_nl0, cn_nls, cn_nb0, cn_nb1, cn_nb2, cn_nb3, cn_bd0, cn_bds, cn_cwi, cn_cwr, cn_cwl, cn_cwn, cn_wi2, cn_wl1, cn_wl3, cn_wr1, cn_wr2, cn_wi_eq, cn_wl_eq, cb_0, cb_n0, cb_b, cm_okb0, cm_okb1, Classical.not_not, true_and, and_true, Nat.reduceAdd, Nat.reduceSub, Nat.reduceLT, Nat.reduceLeDiff, Int.reduceToNat, Int.reduceNatCast', Nat.zero_le, Nat.reduceEqDiff, false_or, or_false, or_true, true_or, Int.reduceNeg, reduceCtorEq, false_implies, implies_true, forall_const, true_implies, not_true_eq_false, not_false_eq_true, Nat.le_refl, ne_eq, if_true, if_false, ite_true, ite_false, List.cons_append, List.nil_append]
    simp only [i3_lt, i3_le, i3_z]
    refine ⟨fun h => ?_, fun h => ⟨fun h2 => ?_, fun h2 => ?_⟩⟩
    · rw [cb_f (by omega)] at hS; exact hS
    · rw [cb_f (by omega)] at hS; exact hS
    · rw [cb_t (by omega)] at hS; exact hS
def SX4_hasRun : cm_CT := fun as T M Φ => match as with
  | [.ref a, .int i, .int n] => T.1 a = 5 ∧ -1 ≤ (M.1 a 1).toInt ∧ (M.1 a 1).toInt ≤ 60 ∧ Φ (some (.int (cb (0 ≤ i.toInt ∧ 0 ≤ n.toInt ∧ i.toInt ≤ (M.1 a 1).toInt - n.toInt)))) T M
  | _ => False
def JX4_hasRun : cm_J := (4, false, 2, [], [], [])
theorem jX4_hasRun : JX4_hasRun.1 = 4 ∧ JX4_hasRun.2.1 = false ∧ JX4_hasRun.2.2.1 = 2 := ⟨rfl, rfl, rfl⟩
theorem eX4_hasRun (d : Nat) (hd : 0 ≤ d) : cm_Cok d JX4_hasRun := ⟨(fun q h => by cases h), (fun q h => by cases h), (fun q h => by cases h)⟩
set_option maxHeartbeats 4000000 in
theorem mX4_hasRun (d : Nat) (hd : 0 ≤ d) : cm_Met d yX4_hasRun cX4_hasRun 3 (some .boolean) 0 0 SX4_hasRun := by
  refine cm_meets (J := JX4_hasRun) (by decide) rfl (fun h => by cases h) trivial ?_
  intro as T M Φ hS
  match as, hS with
  | [.ref a, .int i, .int n], ⟨h1, h2, h3, hS⟩ =>
    refine ⟨Nat.le_of_ble_eq_true rfl, ?_⟩
    refine cm_go hX4_hasRun 200 oX4_hasRun (eX4_hasRun d hd) lX4_hasRun_0 ?_
    simp only [jX4_hasRun, kX4_hasRun_0, fl_4_9, h1, cn_iconst, cn_lconst0, cn_lconst1, cn_null, cn_iload, cn_aload, cn_lload, cn_lo1, cn_loa1, cn_loa2, cn_lol1, cn_get0, cn_gets, cn_put0, cn_puts, cn_istore, cn_astore, cn_astoreN, cn_lstore, cn_iinc, cn_in1, cn_iadd, cn_isub, cn_imul, cn_iand, cn_ior, cn_ixor, cn_ishl, cn_ishr, cn_iushr, cn_idiv, cn_irem, cn_ladd, cn_lmul, cn_ldiv, cn_lrem, cn_i2l, cn_l2i, cn_i2b, cn_lcmp, cn_dupi, cn_dupr, cn_dup2, cn_popi, cn_popr, cn_goto, cn_if_eq, cn_if_ne, cn_if_lt, cn_if_ge, cn_if_gt, cn_if_le, cn_ic_eq, cn_ic_ne, cn_ic_lt, cn_ic_ge, cn_ic_gt, cn_ic_le, cn_ifnullN, cn_ifnullR, cn_ifnonnullN, cn_ifnonnullR, cn_tswS, cn_tsw0, cn_tsw1, cn_lswS, cn_lsw0, cn_lsw1, cn_alen, cn_iaload, cn_laload, cn_rr1, cn_rr0, cn_aaload, cn_iastore, cn_lastore, cn_aastore, cn_getfield, cn_gf0, cn_gf1, cn_gf2, cn_gf3, cn_putfield, cn_pf0f, cn_pf1f, cn_pf2f, cn_pf3f, cn_pf0t, cn_pf1t, cn_pf2t, cn_pf3t, cn_new, cn_nw1, cn_newi, cn_newl, cn_anew, cn_an1, cn_inv_v, cn_inv_s, cn_inv_p, cn_ca1, cn_cb1, cn_pop0, cn_pops, cn_rk0, cn_rk1, cn_kcn, cn_kcs, cn_ireturn, cn_lreturn, cn_areturn, cn_return, cn_re0, cn_re1, cn_re2, cn_re3, cn_re4, cn_re5, cn_wp0, cn_wps, cn_m0, cn_m1, cn_e0, cn_en, cn_ei, cn_er, cn_eu, cn_el, cn_nl0, cn_nls, cn_nb0, cn_nb1, cn_nb2, cn_nb3, cn_bd0, cn_bds, cn_cwi, cn_cwr, cn_cwl, cn_cwn, cn_wi2, cn_wl1, cn_wl3, cn_wr1, cn_wr2, cn_wi_eq, cn_wl_eq, cb_0, cb_n0, cb_b, cm_okb0, cm_okb1, Classical.not_not, true_and, and_true, Nat.reduceAdd, Nat.reduceSub, Nat.reduceLT, Nat.reduceLeDiff, Int.reduceToNat, Int.reduceNatCast', Nat.zero_le, Nat.reduceEqDiff, false_or, or_false, or_true, true_or, Int.reduceNeg, reduceCtorEq, false_implies, implies_true, forall_const, true_implies, not_true_eq_false, not_false_eq_true, Nat.le_refl, ne_eq, if_true, if_false, ite_true, ite_false, List.cons_append, List.nil_append]
    simp only [i3_lt, i3_le, i3_z]
    refine ⟨fun h => ?_, fun h => ⟨fun h4 => ?_, fun h4 => ?_⟩⟩
    · rw [cb_f (by omega)] at hS; exact hS
    · rw [cb_f (by omega)] at hS; exact hS
    · have e : (M.1 a 1 - n).toInt = (M.1 a 1).toInt - n.toInt := by
        have := w3_hi n
        rw [← w3_self (M.1 a 1), ← w3_self n, w3_sub, w3_toInt (by omega) (by omega), w3_toInt (by omega) (by omega), w3_toInt (by omega) (by omega)]
      rw [e]
      exact ⟨fun h5 => by rw [cb_f (by omega)] at hS; exact hS, fun h5 => by rw [cb_t (by omega)] at hS; exact hS⟩
/-- where a row's places are; a row that is well -/
def pl (M : cm_M) (a : Nat) : Nat := (M.2.2 a 0).getD 0
def sz (M : cm_M) (a : Nat) : Int := (M.1 a 1).toInt
def Sg (T : cm_T) (M : cm_M) (a : Nat) : Prop := T.1 a = 5 ∧ M.2.2 a 0 = some (pl M a) ∧ T.1 (pl M a) = 20 ∧ -1 ≤ sz M a ∧ sz M a ≤ (T.2.1 (pl M a) : Int) ∧ T.2.1 (pl M a) ≤ 60
theorem sz_w {M : cm_M} {a : Nat} : M.1 a 1 = w3 (sz M a) := (w3_self _).symm
theorem sz_eq {M : cm_M} {a : Nat} {z : Int} (h : M.1 a 1 = w3 z) (h1 : -2147483648 ≤ z) (h2 : z < 2147483648) : sz M a = z := by
  unfold sz
  rw [h, w3_toInt h1 h2]
theorem pl_eq {M : cm_M} {a pa : Nat} (h : M.2.2 a 0 = some pa) : pl M a = pa := by unfold pl; rw [h]; rfl
theorem Sg.ne {T : cm_T} {M : cm_M} {a b : Nat} (h : Sg T M a) (g : Sg T M b) : a ≠ pl M b := fun q => by
  have h1 := h.1
  rw [q, g.2.2.1] at h1
  cases h1
theorem pl_wi {M : cm_M} {q : Nat} {j : Int} {v : Int32} {a : Nat} : pl (cm_wi M q j v) a = pl M a := rfl
theorem sz_wi {M : cm_M} {q : Nat} {j : Int} {v : Int32} {a : Nat} (h : a ≠ q ∨ 1 ≠ j) : sz (cm_wi M q j v) a = sz M a := by
  unfold sz
  rw [cn_wi_ne h]
theorem Sg_of {T : cm_T} {M M' : cm_M} {a : Nat} (h : Sg T M a) (h1 : M'.2.2 a 0 = M.2.2 a 0) (h2 : -1 ≤ sz M' a) (h3 : sz M' a ≤ (T.2.1 (pl M a) : Int)) : Sg T M' a := by
  have e : pl M' a = pl M a := by unfold pl; rw [h1]
  obtain ⟨g1, g2, g3, g4, g5, g6⟩ := h
  exact ⟨g1, by rw [h1, e]; exact g2, by rw [e]; exact g3, h2, by rw [e]; exact h3, by rw [e]; exact g6⟩
def SX4_get : cm_CT := fun as T M Φ => match as with
  | [.ref a, .int i] => Sg T M a ∧ Φ (some (.int (if 0 ≤ i.toInt ∧ i.toInt < sz M a then M.1 (pl M a) i.toInt else w3 0))) T M
  | _ => False
def JX4_get : cm_J := (4, false, 1, [(25, 2, 5, 0, 0, SX4_has)], [], [])
theorem jX4_get : JX4_get.1 = 4 ∧ JX4_get.2.1 = false ∧ JX4_get.2.2.1 = 1 ∧ cm_gv JX4_get 25 = some (2, 5, 0, 0, SX4_has) := ⟨rfl, rfl, rfl, rfl⟩
theorem eX4_get (d : Nat) (hd : 1 ≤ d) : cm_Cok d JX4_get := ⟨(List.forall_mem_cons.mpr ⟨q4_25 (mX4_has (d - 1) (by omega)) (by omega), (fun q h => by cases h)⟩), (fun q h => by cases h), (fun q h => by cases h)⟩
set_option maxHeartbeats 4000000 in
theorem mX4_get (d : Nat) (hd : 1 ≤ d) : cm_Met d yX4_get cX4_get 2 (some .int) 0 0 SX4_get := by
  refine cm_meets (J := JX4_get) (by decide) rfl (fun h => by cases h) trivial ?_
  intro as T M Φ hS
  match as, hS with
  | [.ref a, .int i], ⟨⟨h1, h2, h3, h4, h5, h6⟩, hS⟩ =>
    refine ⟨Nat.le_of_ble_eq_true rfl, ?_⟩
    refine cm_go hX4_get 200 oX4_get (eX4_get d hd) lX4_get_0 ?_
    simp only [jX4_get, kX4_get_0, fl_4_21, SX4_has, h1, h2, h3, cn_iconst, cn_lconst0, cn_lconst1, cn_null, cn_iload, cn_aload, cn_lload, cn_lo1, cn_loa1, cn_loa2, cn_lol1, cn_get0, cn_gets, cn_put0, cn_puts, cn_istore, cn_astore, cn_astoreN, cn_lstore, cn_iinc, cn_in1, cn_iadd, cn_isub, cn_imul, cn_iand, cn_ior, cn_ixor, cn_ishl, cn_ishr, cn_iushr, cn_idiv, cn_irem, cn_ladd, cn_lmul, cn_ldiv, cn_lrem, cn_i2l, cn_l2i, cn_i2b, cn_lcmp, cn_dupi, cn_dupr, cn_dup2, cn_popi, cn_popr, cn_goto, cn_if_eq, cn_if_ne, cn_if_lt, cn_if_ge, cn_if_gt, cn_if_le, cn_ic_eq, cn_ic_ne, cn_ic_lt, cn_ic_ge, cn_ic_gt, cn_ic_le, cn_ifnullN, cn_ifnullR, cn_ifnonnullN, cn_ifnonnullR, cn_tswS, cn_tsw0, cn_tsw1, cn_lswS, cn_lsw0, cn_lsw1, cn_alen, cn_iaload, cn_laload, cn_rr1, cn_rr0, cn_aaload, cn_iastore, cn_lastore, cn_aastore, cn_getfield, cn_gf0, cn_gf1, cn_gf2, cn_gf3, cn_putfield, cn_pf0f, cn_pf1f, cn_pf2f, cn_pf3f, cn_pf0t, cn_pf1t, cn_pf2t, cn_pf3t, cn_new, cn_nw1, cn_newi, cn_newl, cn_anew, cn_an1, cn_inv_v, cn_inv_s, cn_inv_p, cn_ca1, cn_cb1, cn_pop0, cn_pops, cn_rk0, cn_rk1, cn_kcn, cn_kcs, cn_ireturn, cn_lreturn, cn_areturn, cn_return, cn_re0, cn_re1, cn_re2, cn_re3, cn_re4, cn_re5, cn_wp0, cn_wps, cn_m0, cn_m1, cn_e0, cn_en, cn_ei, cn_er, cn_eu, cn_el, cn_nl0, cn_nls, cn_nb0, cn_nb1, cn_nb2, cn_nb3, cn_bd0, cn_bds, cn_cwi, cn_cwr, cn_cwl, cn_cwn, cn_wi2, cn_wl1, cn_wl3, cn_wr1, cn_wr2, cn_wi_eq, cn_wl_eq, cb_0, cb_n0, cb_b, cm_okb0, cm_okb1, Classical.not_not, true_and, and_true, Nat.reduceAdd, Nat.reduceSub, Nat.reduceLT, Nat.reduceLeDiff, Int.reduceToNat, Int.reduceNatCast', Nat.zero_le, Nat.reduceEqDiff, false_or, or_false, or_true, true_or, Int.reduceNeg, reduceCtorEq, false_implies, implies_true, forall_const, true_implies, not_true_eq_false, not_false_eq_true, Nat.le_refl, ne_eq, if_true, if_false, ite_true, ite_false, List.cons_append, List.nil_append]
    unfold sz at hS
    refine ⟨fun h => ?_, fun h => ?_⟩
    · rw [if_neg h] at hS; exact hS
    · rw [if_pos h] at hS
      exact ⟨⟨h.1, by unfold sz at h5; omega⟩, hS⟩
def SX4_set : cm_CT := fun as T M Φ => match as with
  | [.ref a, .int i, .int v] => Sg T M a ∧ Φ none T (if 0 ≤ i.toInt ∧ i.toInt < sz M a then cm_wi M (pl M a) i.toInt v else M)
  | _ => False
def JX4_set : cm_J := (4, false, 0, [(25, 2, 5, 0, 0, SX4_has)], [], [])
theorem jX4_set : JX4_set.1 = 4 ∧ JX4_set.2.1 = false ∧ JX4_set.2.2.1 = 0 ∧ cm_gv JX4_set 25 = some (2, 5, 0, 0, SX4_has) := ⟨rfl, rfl, rfl, rfl⟩
theorem eX4_set (d : Nat) (hd : 1 ≤ d) : cm_Cok d JX4_set := ⟨(List.forall_mem_cons.mpr ⟨q4_25 (mX4_has (d - 1) (by omega)) (by omega), (fun q h => by cases h)⟩), (fun q h => by cases h), (fun q h => by cases h)⟩
set_option maxHeartbeats 4000000 in
theorem mX4_set (d : Nat) (hd : 1 ≤ d) : cm_Met d yX4_set cX4_set 3 none 0 0 SX4_set := by
  refine cm_meets (J := JX4_set) (by decide) rfl (fun h => by cases h) trivial ?_
  intro as T M Φ hS
  match as, hS with
  | [.ref a, .int i, .int v], ⟨⟨h1, h2, h3, h4, h5, h6⟩, hS⟩ =>
    refine ⟨Nat.le_of_ble_eq_true rfl, ?_⟩
    refine cm_go hX4_set 200 oX4_set (eX4_set d hd) lX4_set_0 ?_
    simp only [jX4_set, kX4_set_0, fl_4_21, SX4_has, h1, h2, h3, cn_iconst, cn_lconst0, cn_lconst1, cn_null, cn_iload, cn_aload, cn_lload, cn_lo1, cn_loa1, cn_loa2, cn_lol1, cn_get0, cn_gets, cn_put0, cn_puts, cn_istore, cn_astore, cn_astoreN, cn_lstore, cn_iinc, cn_in1, cn_iadd, cn_isub, cn_imul, cn_iand, cn_ior, cn_ixor, cn_ishl, cn_ishr, cn_iushr, cn_idiv, cn_irem, cn_ladd, cn_lmul, cn_ldiv, cn_lrem, cn_i2l, cn_l2i, cn_i2b, cn_lcmp, cn_dupi, cn_dupr, cn_dup2, cn_popi, cn_popr, cn_goto, cn_if_eq, cn_if_ne, cn_if_lt, cn_if_ge, cn_if_gt, cn_if_le, cn_ic_eq, cn_ic_ne, cn_ic_lt, cn_ic_ge, cn_ic_gt, cn_ic_le, cn_ifnullN, cn_ifnullR, cn_ifnonnullN, cn_ifnonnullR, cn_tswS, cn_tsw0, cn_tsw1, cn_lswS, cn_lsw0, cn_lsw1, cn_alen, cn_iaload, cn_laload, cn_rr1, cn_rr0, cn_aaload, cn_iastore, cn_lastore, cn_aastore, cn_getfield, cn_gf0, cn_gf1, cn_gf2, cn_gf3, cn_putfield, cn_pf0f, cn_pf1f, cn_pf2f, cn_pf3f, cn_pf0t, cn_pf1t, cn_pf2t, cn_pf3t, cn_new, cn_nw1, cn_newi, cn_newl, cn_anew, cn_an1, cn_inv_v, cn_inv_s, cn_inv_p, cn_ca1, cn_cb1, cn_pop0, cn_pops, cn_rk0, cn_rk1, cn_kcn, cn_kcs, cn_ireturn, cn_lreturn, cn_areturn, cn_return, cn_re0, cn_re1, cn_re2, cn_re3, cn_re4, cn_re5, cn_wp0, cn_wps, cn_m0, cn_m1, cn_e0, cn_en, cn_ei, cn_er, cn_eu, cn_el, cn_nl0, cn_nls, cn_nb0, cn_nb1, cn_nb2, cn_nb3, cn_bd0, cn_bds, cn_cwi, cn_cwr, cn_cwl, cn_cwn, cn_wi2, cn_wl1, cn_wl3, cn_wr1, cn_wr2, cn_wi_eq, cn_wl_eq, cb_0, cb_n0, cb_b, cm_okb0, cm_okb1, Classical.not_not, true_and, and_true, Nat.reduceAdd, Nat.reduceSub, Nat.reduceLT, Nat.reduceLeDiff, Int.reduceToNat, Int.reduceNatCast', Nat.zero_le, Nat.reduceEqDiff, false_or, or_false, or_true, true_or, Int.reduceNeg, reduceCtorEq, false_implies, implies_true, forall_const, true_implies, not_true_eq_false, not_false_eq_true, Nat.le_refl, ne_eq, if_true, if_false, ite_true, ite_false, List.cons_append, List.nil_append]
    unfold sz at hS
    refine ⟨fun h => ?_, fun h => ?_⟩
    · rw [if_neg h] at hS; exact hS
    · rw [if_pos h] at hS
      exact ⟨⟨h.1, by unfold sz at h5; omega⟩, hS⟩
def mFill (M : cm_M) (pa : Nat) (n : Int) (v : Int32) : cm_M := (fun q j => if q = pa ∧ 0 ≤ j ∧ j < n then v else M.1 q j, M.2.1, M.2.2)
theorem mFill_0 (M : cm_M) (pa : Nat) (v : Int32) : mFill M pa 0 v = M := by
  unfold mFill
  refine Prod.ext (funext fun q => funext fun j => ?_) rfl
  show (if q = pa ∧ 0 ≤ j ∧ j < 0 then v else M.1 q j) = M.1 q j
  rw [if_neg (by omega)]
theorem mFill_s (M : cm_M) (pa : Nat) (k : Int) (v : Int32) (h : 0 ≤ k) : cm_wi (mFill M pa k v) pa k v = mFill M pa (k + 1) v := by
  refine Prod.ext (funext fun q => funext fun j => ?_) rfl
  show (if q = pa ∧ j = k then v else if q = pa ∧ 0 ≤ j ∧ j < k then v else M.1 q j) = if q = pa ∧ 0 ≤ j ∧ j < k + 1 then v else M.1 q j
  by_cases h1 : q = pa ∧ j = k
  · rw [if_pos h1, if_pos (by omega)]
  · rw [if_neg h1]
    by_cases h2 : q = pa ∧ 0 ≤ j ∧ j < k
    · rw [if_pos h2, if_pos (by omega)]
    · rw [if_neg h2, if_neg (by omega)]
theorem mFill_2 {M : cm_M} {pa : Nat} {n : Int} {v : Int32} : (mFill M pa n v).2 = M.2 := rfl
theorem mFill_ne {M : cm_M} {pa q : Nat} {n j : Int} {v : Int32} (h : q ≠ pa ∨ j < 0 ∨ n ≤ j) : (mFill M pa n v).1 q j = M.1 q j := by
  show (if q = pa ∧ 0 ≤ j ∧ j < n then v else M.1 q j) = M.1 q j
  rw [if_neg (by omega)]
theorem mFill_in {M : cm_M} {pa : Nat} {n j : Int} {v : Int32} (h : 0 ≤ j) (h2 : j < n) : (mFill M pa n v).1 pa j = v := by
  show (if pa = pa ∧ 0 ≤ j ∧ j < n then v else M.1 pa j) = v
  rw [if_pos ⟨rfl, h, h2⟩]
/-- a row of size z with the places f -/
def mRow (M : cm_M) (a : Nat) (z : Int) (f : Int → Int32) : cm_M := (fun q j => if q = a ∧ j = 1 then w3 z else if q = pl M a ∧ 0 ≤ j ∧ j < z then f j else M.1 q j, M.2.1, M.2.2)
def SX4_renew : cm_CT := fun as T M Φ => match as with
  | [.ref a, .int n, .int v] => ∃ z : Int, Sg T M a ∧ z = min (max n.toInt 0) (T.2.1 (pl M a) : Int) ∧ Φ none T (mRow M a z (fun _ => v))
  | _ => False
def JX4_renew : cm_J := (4, false, 0, [], [(15, 2, 0, 0, 0, SJ9_max_7cf53), (29, 2, 0, 0, 0, SJ9_min_7cf53)], [])
theorem jX4_renew : JX4_renew.1 = 4 ∧ JX4_renew.2.1 = false ∧ JX4_renew.2.2.1 = 0 ∧ cm_gs JX4_renew 15 = some (2, 0, 0, 0, SJ9_max_7cf53) ∧ cm_gs JX4_renew 29 = some (2, 0, 0, 0, SJ9_min_7cf53) := ⟨rfl, rfl, rfl, rfl, rfl⟩
theorem eX4_renew (d : Nat) (hd : 1 ≤ d) : cm_Cok d JX4_renew := ⟨(fun q h => by cases h), (List.forall_mem_cons.mpr ⟨(cm_calMx (cm_w 116 (by decide +kernel) rfl)), (List.forall_mem_cons.mpr ⟨(cm_calMn (cm_w 315 (by decide +kernel) rfl)), (fun q h => by cases h)⟩)⟩), (fun q h => by cases h)⟩
set_option maxHeartbeats 4000000 in
theorem lX4_renew (d : Nat) (hd : 1 ≤ d) {T : cm_T} {M : cm_M} {Φ : Option Value → cm_T → cm_M → Prop} {a pa : Nat} {n v : Int32} {z : Int} (h1 : T.1 a = 5) (h2 : M.2.2 a 0 = some pa) (h3 : T.1 pa = 20) (h4 : M.1 a 1 = w3 z) (h5 : z ≤ (T.2.1 pa : Int)) (h6 : T.2.1 pa ≤ 60) (hS : Φ none T (mFill M pa z v)) :
    ∀ k : Int, 0 ≤ k → k ≤ z → cm_Go d cX4_renew 4 0 0 JX4_renew Φ 19 [some (.ref a), some (.int n), some (.int v), some (.int (w3 k))] [] (0, 0) T (mFill M pa k v) := by
  intro k
  induction hf : (z - k).toNat using Nat.strongRecOn generalizing k with
  | _ f ih =>
    intro k0 k1
    have hne : a ≠ pa := fun q => by rw [q, h3] at h1; cases h1
    have r1 : (mFill M pa k v).1 a 1 = w3 z := by rw [mFill_ne (Or.inl hne), h4]
    refine cm_go hX4_renew 200 oX4_renew (eX4_renew d hd) lX4_renew_19 ?_
    simp only [jX4_renew, kX4_renew_0, fl_4_21, fl_4_9, h1, h3, r1, mFill_2, h2, cn_iconst, cn_lconst0, cn_lconst1, cn_null, cn_iload, cn_aload, cn_lload, cn_lo1, cn_loa1, cn_loa2, cn_lol1, cn_get0, cn_gets, cn_put0, cn_puts, cn_istore, cn_astore, cn_astoreN, cn_lstore, cn_iinc, cn_in1, cn_iadd, cn_isub, cn_imul, cn_iand, cn_ior, cn_ixor, cn_ishl, cn_ishr, cn_iushr, cn_idiv, cn_irem, cn_ladd, cn_lmul, cn_ldiv, cn_lrem, cn_i2l, cn_l2i, cn_i2b, cn_lcmp, cn_dupi, cn_dupr, cn_dup2, cn_popi, cn_popr, cn_goto, cn_if_eq, cn_if_ne, cn_if_lt, cn_if_ge, cn_if_gt, cn_if_le, cn_ic_eq, cn_ic_ne, cn_ic_lt, cn_ic_ge, cn_ic_gt, cn_ic_le, cn_ifnullN, cn_ifnullR, cn_ifnonnullN, cn_ifnonnullR, cn_tswS, cn_tsw0, cn_tsw1, cn_lswS, cn_lsw0, cn_lsw1, cn_alen, cn_iaload, cn_laload, cn_rr1, cn_rr0, cn_aaload, cn_iastore, cn_lastore, cn_aastore, cn_getfield, cn_gf0, cn_gf1, cn_gf2, cn_gf3, cn_putfield, cn_pf0f, cn_pf1f, cn_pf2f, cn_pf3f, cn_pf0t, cn_pf1t, cn_pf2t, cn_pf3t, cn_new, cn_nw1, cn_newi, cn_newl, cn_anew, cn_an1, cn_inv_v, cn_inv_s, cn_inv_p, cn_ca1, cn_cb1, cn_pop0, cn_pops, cn_rk0, cn_rk1, cn_kcn, cn_kcs, cn_ireturn, cn_lreturn, cn_areturn, cn_return, cn_re0, cn_re1, cn_re2, cn_re3, cn_re4, cn_re5, cn_wp0, cn_wps, cn_m0, cn_m1, cn_e0, cn_en, cn_ei, cn_er, cn_eu, cn_el, cn_nl0, cn_nls, cn_nb0, cn_nb1, cn_nb2, cn_nb3, cn_bd0, cn_bds, cn_cwi, cn_cwr, cn_cwl, cn_cwn, cn_wi2, cn_wl1, cn_wl3, cn_wr1, cn_wr2, cn_wi_eq, cn_wl_eq, cb_0, cb_n0, cb_b, cm_okb0, cm_okb1, Classical.not_not, true_and, and_true, Nat.reduceAdd, Nat.reduceSub, Nat.reduceLT, Nat.reduceLeDiff, Int.reduceToNat, Int.reduceNatCast', Nat.zero_le, Nat.reduceEqDiff, false_or, or_false, or_true, true_or, Int.reduceNeg, reduceCtorEq, false_implies, implies_true, forall_const, true_implies, not_true_eq_false, not_false_eq_true, Nat.le_refl, ne_eq, if_true, if_false, ite_true, ite_false, List.cons_append, List.nil_append]
    simp (disch := omega) only [w3_le, w3_lt, w3_eq, w3_ix, w3_add, w3_sub, w3_toInt, w3_z]
    refine ⟨fun h => ?_, fun h => ⟨⟨by omega, by omega⟩, ?_⟩⟩
    · rw [show k = z by omega]; exact hS
    · rw [mFill_s M pa k v k0]
      exact ih _ (by omega) (k + 1) rfl (by omega) (by omega)
set_option maxHeartbeats 4000000 in
theorem mX4_renew (d : Nat) (hd : 1 ≤ d) : cm_Met d yX4_renew cX4_renew 4 none 0 0 SX4_renew := by
  refine cm_meets (J := JX4_renew) (by decide) rfl (fun h => by cases h) trivial ?_
  intro as T M Φ hS
  match as, hS with
  | [.ref a, .int n, .int v], ⟨z, hg, hz, hS⟩ =>
    refine ⟨Nat.le_of_ble_eq_true rfl, ?_⟩
    obtain ⟨h1, h2, h3, h4, h5, h6⟩ := id hg
    generalize hpa : pl M a = pa at *
    refine cm_go hX4_renew 200 oX4_renew (eX4_renew d hd) lX4_renew_0 ?_
    simp only [jX4_renew, kX4_renew_0, fl_4_21, fl_4_9, SJ9_max_7cf53, SJ9_min_7cf53, h1, h2, h3, cn_iconst, cn_lconst0, cn_lconst1, cn_null, cn_iload, cn_aload, cn_lload, cn_lo1, cn_loa1, cn_loa2, cn_lol1, cn_get0, cn_gets, cn_put0, cn_puts, cn_istore, cn_astore, cn_astoreN, cn_lstore, cn_iinc, cn_in1, cn_iadd, cn_isub, cn_imul, cn_iand, cn_ior, cn_ixor, cn_ishl, cn_ishr, cn_iushr, cn_idiv, cn_irem, cn_ladd, cn_lmul, cn_ldiv, cn_lrem, cn_i2l, cn_l2i, cn_i2b, cn_lcmp, cn_dupi, cn_dupr, cn_dup2, cn_popi, cn_popr, cn_goto, cn_if_eq, cn_if_ne, cn_if_lt, cn_if_ge, cn_if_gt, cn_if_le, cn_ic_eq, cn_ic_ne, cn_ic_lt, cn_ic_ge, cn_ic_gt, cn_ic_le, cn_ifnullN, cn_ifnullR, cn_ifnonnullN, cn_ifnonnullR, cn_tswS, cn_tsw0, cn_tsw1, cn_lswS, cn_lsw0, cn_lsw1, cn_alen, cn_iaload, cn_laload, cn_rr1, cn_rr0, cn_aaload, cn_iastore, cn_lastore, cn_aastore, cn_getfield, cn_gf0, cn_gf1, cn_gf2, cn_gf3, cn_putfield, cn_pf0f, cn_pf1f, cn_pf2f, cn_pf3f, cn_pf0t, cn_pf1t, cn_pf2t, cn_pf3t, cn_new, cn_nw1, cn_newi, cn_newl, cn_anew, cn_an1, cn_inv_v, cn_inv_s, cn_inv_p, cn_ca1, cn_cb1, cn_pop0, cn_pops, cn_rk0, cn_rk1, cn_kcn, cn_kcs, cn_ireturn, cn_lreturn, cn_areturn, cn_return, cn_re0, cn_re1, cn_re2, cn_re3, cn_re4, cn_re5, cn_wp0, cn_wps, cn_m0, cn_m1, cn_e0, cn_en, cn_ei, cn_er, cn_eu, cn_el, cn_nl0, cn_nls, cn_nb0, cn_nb1, cn_nb2, cn_nb3, cn_bd0, cn_bds, cn_cwi, cn_cwr, cn_cwl, cn_cwn, cn_wi2, cn_wl1, cn_wl3, cn_wr1, cn_wr2, cn_wi_eq, cn_wl_eq, cb_0, cb_n0, cb_b, cm_okb0, cm_okb1, Classical.not_not, true_and, and_true, Nat.reduceAdd, Nat.reduceSub, Nat.reduceLT, Nat.reduceLeDiff, Int.reduceToNat, Int.reduceNatCast', Nat.zero_le, Nat.reduceEqDiff, false_or, or_false, or_true, true_or, Int.reduceNeg, reduceCtorEq, false_implies, implies_true, forall_const, true_implies, not_true_eq_false, not_false_eq_true, Nat.le_refl, ne_eq, if_true, if_false, ite_true, ite_false, List.cons_append, List.nil_append]
    have hz2 : (if w3 (T.2.1 pa) < (if n < w3 0 then w3 0 else n) then w3 (T.2.1 pa) else (if n < w3 0 then w3 0 else n)) = w3 z := by
      rw [← w3_z]
      have e : (w3 ((T.2.1 pa : Nat) : Int)).toInt = (T.2.1 pa : Int) := w3_toInt (by omega) (by omega)
      apply Int32.toInt_inj.mp
      rw [w3_toInt (by omega) (by omega)]
      simp only [i3_lt, e]
      split <;> split <;> simp only [e, i3_z] at * <;> omega
    rw [hz2]
    have hne : a ≠ pa := fun q => by rw [q, h3] at h1; cases h1
    have e : mRow M a z (fun _ => v) = mFill (cm_wi M a 1 (w3 z)) pa z v := by
      refine Prod.ext (funext fun q => funext fun j => ?_) rfl
      show (if q = a ∧ j = 1 then w3 z else if q = pl M a ∧ 0 ≤ j ∧ j < z then v else M.1 q j) = (if q = pa ∧ 0 ≤ j ∧ j < z then v else if q = a ∧ j = 1 then w3 z else M.1 q j)
      rw [hpa]
      by_cases c1 : q = a ∧ j = 1
      · rw [if_pos c1, if_neg (fun w => hne (c1.1.symm.trans w.1)), if_pos c1]
      · rw [if_neg c1, if_neg c1]
    rw [e] at hS
    have := lX4_renew d hd (n := n) (v := v) (Φ := Φ) h1 (M := cm_wi M a 1 (w3 z)) h2 h3 cn_wi_eq (by omega) h6 hS 0 (by omega) (by omega)
    rw [mFill_0] at this
    exact this
def SX4_append : cm_CT := fun as T M Φ => match as with
  | [.ref a, .int v] => Sg T M a ∧ 0 ≤ sz M a ∧ sz M a < (T.2.1 (pl M a) : Int) ∧ Φ none T (cm_wi (cm_wi M (pl M a) (sz M a) v) a 1 (w3 (sz M a + 1)))
  | _ => False
def JX4_append : cm_J := (4, false, 0, [], [], [])
theorem jX4_append : JX4_append.1 = 4 ∧ JX4_append.2.1 = false ∧ JX4_append.2.2.1 = 0 := ⟨rfl, rfl, rfl⟩
theorem eX4_append (d : Nat) (hd : 0 ≤ d) : cm_Cok d JX4_append := ⟨(fun q h => by cases h), (fun q h => by cases h), (fun q h => by cases h)⟩
set_option maxHeartbeats 4000000 in
theorem mX4_append (d : Nat) (hd : 0 ≤ d) : cm_Met d yX4_append cX4_append 2 none 0 0 SX4_append := by
  refine cm_meets (J := JX4_append) (by decide) rfl (fun h => by cases h) trivial ?_
  intro as T M Φ hS
  match as, hS with
  | [.ref a, .int v], ⟨hg, z0, z1, hS⟩ =>
    refine ⟨Nat.le_of_ble_eq_true rfl, ?_⟩
    obtain ⟨h1, h2, h3, h4, h5, h6⟩ := id hg
    have hz : M.1 a 1 = w3 (sz M a) := sz_w
    have hne := hg.ne hg
    generalize hpa : pl M a = pa at *
    generalize hzz : sz M a = z at *
    refine cm_go hX4_append 200 oX4_append (eX4_append d hd) lX4_append_0 ?_
    simp only [jX4_append, kX4_append_0, fl_4_9, fl_4_21, h1, h2, h3, hz, cn_iconst, cn_lconst0, cn_lconst1, cn_null, cn_iload, cn_aload, cn_lload, cn_lo1, cn_loa1, cn_loa2, cn_lol1, cn_get0, cn_gets, cn_put0, cn_puts, cn_istore, cn_astore, cn_astoreN, cn_lstore, cn_iinc, cn_in1, cn_iadd, cn_isub, cn_imul, cn_iand, cn_ior, cn_ixor, cn_ishl, cn_ishr, cn_iushr, cn_idiv, cn_irem, cn_ladd, cn_lmul, cn_ldiv, cn_lrem, cn_i2l, cn_l2i, cn_i2b, cn_lcmp, cn_dupi, cn_dupr, cn_dup2, cn_popi, cn_popr, cn_goto, cn_if_eq, cn_if_ne, cn_if_lt, cn_if_ge, cn_if_gt, cn_if_le, cn_ic_eq, cn_ic_ne, cn_ic_lt, cn_ic_ge, cn_ic_gt, cn_ic_le, cn_ifnullN, cn_ifnullR, cn_ifnonnullN, cn_ifnonnullR, cn_tswS, cn_tsw0, cn_tsw1, cn_lswS, cn_lsw0, cn_lsw1, cn_alen, cn_iaload, cn_laload, cn_rr1, cn_rr0, cn_aaload, cn_iastore, cn_lastore, cn_aastore, cn_getfield, cn_gf0, cn_gf1, cn_gf2, cn_gf3, cn_putfield, cn_pf0f, cn_pf1f, cn_pf2f, cn_pf3f, cn_pf0t, cn_pf1t, cn_pf2t, cn_pf3t, cn_new, cn_nw1, cn_newi, cn_newl, cn_anew, cn_an1, cn_inv_v, cn_inv_s, cn_inv_p, cn_ca1, cn_cb1, cn_pop0, cn_pops, cn_rk0, cn_rk1, cn_kcn, cn_kcs, cn_ireturn, cn_lreturn, cn_areturn, cn_return, cn_re0, cn_re1, cn_re2, cn_re3, cn_re4, cn_re5, cn_wp0, cn_wps, cn_m0, cn_m1, cn_e0, cn_en, cn_ei, cn_er, cn_eu, cn_el, cn_nl0, cn_nls, cn_nb0, cn_nb1, cn_nb2, cn_nb3, cn_bd0, cn_bds, cn_cwi, cn_cwr, cn_cwl, cn_cwn, cn_wi2, cn_wl1, cn_wl3, cn_wr1, cn_wr2, cn_wi_eq, cn_wl_eq, cb_0, cb_n0, cb_b, cm_okb0, cm_okb1, Classical.not_not, true_and, and_true, Nat.reduceAdd, Nat.reduceSub, Nat.reduceLT, Nat.reduceLeDiff, Int.reduceToNat, Int.reduceNatCast', Nat.zero_le, Nat.reduceEqDiff, false_or, or_false, or_true, true_or, Int.reduceNeg, reduceCtorEq, false_implies, implies_true, forall_const, true_implies, not_true_eq_false, not_false_eq_true, Nat.le_refl, ne_eq, if_true, if_false, ite_true, ite_false, List.cons_append, List.nil_append]
    simp (disch := omega) only [w3_le, w3_lt, w3_eq, w3_ix, w3_add, w3_sub, w3_toInt, w3_z]
    refine ⟨fun h => by omega, fun h => ⟨fun h => by omega, fun h => ⟨⟨by omega, by omega⟩, ?_⟩⟩⟩
    rw [cn_wi_ne (Or.inl hne), hz, w3_add]
    exact hS
def SX4_become : cm_CT := fun as T M Φ => match as with
  | [.ref a, .ref b] => Sg T M a ∧ Sg T M b ∧ sz M b ≤ (T.2.1 (pl M a) : Int) ∧ Φ none T (mRow M a (sz M b) (M.1 (pl M b)))
  | _ => False
def JX4_become : cm_J := (4, false, 0, [], [(29, 2, 0, 0, 0, SJ9_min_7cf53), (32, 5, 0, 0, 0, cm_Scpy)], [])
theorem jX4_become : JX4_become.1 = 4 ∧ JX4_become.2.1 = false ∧ JX4_become.2.2.1 = 0 ∧ cm_gs JX4_become 29 = some (2, 0, 0, 0, SJ9_min_7cf53) ∧ cm_gs JX4_become 32 = some (5, 0, 0, 0, cm_Scpy) := ⟨rfl, rfl, rfl, rfl, rfl⟩
theorem eX4_become (d : Nat) (hd : 1 ≤ d) : cm_Cok d JX4_become := ⟨(fun q h => by cases h), (List.forall_mem_cons.mpr ⟨(cm_calMn (cm_w 315 (by decide +kernel) rfl)), (List.forall_mem_cons.mpr ⟨q4_32, (fun q h => by cases h)⟩)⟩), (fun q h => by cases h)⟩
set_option maxHeartbeats 4000000 in
theorem mX4_become (d : Nat) (hd : 1 ≤ d) : cm_Met d yX4_become cX4_become 2 none 0 0 SX4_become := by
  refine cm_meets (J := JX4_become) (by decide) rfl (fun h => by cases h) trivial ?_
  intro as T M Φ hS
  match as, hS with
  | [.ref a, .ref b], ⟨hg, hh, zle, hS⟩ =>
    refine ⟨Nat.le_of_ble_eq_true rfl, ?_⟩
    obtain ⟨h1, h2, h3, h4, h5, h6⟩ := id hg
    obtain ⟨g1, g2, g3, g4, g5, g6⟩ := id hh
    have hz : M.1 b 1 = w3 (sz M b) := sz_w
    have n1 := hg.ne hg
    have n2 := hg.ne hh
    unfold mRow at hS
    generalize hpa : pl M a = pa at *
    generalize hpb : pl M b = pb at *
    generalize hzz : sz M b = z at *
    have hmin : (if w3 ((T.2.1 pa : Nat) : Int) < w3 z then w3 ((T.2.1 pa : Nat) : Int) else w3 z) = w3 z := by
      exact if_neg (by rw [w3_lt (by omega) (by omega) (by omega) (by omega)]; omega)
    refine cm_go hX4_become 200 oX4_become (eX4_become d hd) lX4_become_0 ?_
    simp only [jX4_become, kX4_become_0, fl_4_9, fl_4_21, SJ9_min_7cf53, h1, h2, h3, g1, g2, g3, hz, hmin, cn_iconst, cn_lconst0, cn_lconst1, cn_null, cn_iload, cn_aload, cn_lload, cn_lo1, cn_loa1, cn_loa2, cn_lol1, cn_get0, cn_gets, cn_put0, cn_puts, cn_istore, cn_astore, cn_astoreN, cn_lstore, cn_iinc, cn_in1, cn_iadd, cn_isub, cn_imul, cn_iand, cn_ior, cn_ixor, cn_ishl, cn_ishr, cn_iushr, cn_idiv, cn_irem, cn_ladd, cn_lmul, cn_ldiv, cn_lrem, cn_i2l, cn_l2i, cn_i2b, cn_lcmp, cn_dupi, cn_dupr, cn_dup2, cn_popi, cn_popr, cn_goto, cn_if_eq, cn_if_ne, cn_if_lt, cn_if_ge, cn_if_gt, cn_if_le, cn_ic_eq, cn_ic_ne, cn_ic_lt, cn_ic_ge, cn_ic_gt, cn_ic_le, cn_ifnullN, cn_ifnullR, cn_ifnonnullN, cn_ifnonnullR, cn_tswS, cn_tsw0, cn_tsw1, cn_lswS, cn_lsw0, cn_lsw1, cn_alen, cn_iaload, cn_laload, cn_rr1, cn_rr0, cn_aaload, cn_iastore, cn_lastore, cn_aastore, cn_getfield, cn_gf0, cn_gf1, cn_gf2, cn_gf3, cn_putfield, cn_pf0f, cn_pf1f, cn_pf2f, cn_pf3f, cn_pf0t, cn_pf1t, cn_pf2t, cn_pf3t, cn_new, cn_nw1, cn_newi, cn_newl, cn_anew, cn_an1, cn_inv_v, cn_inv_s, cn_inv_p, cn_ca1, cn_cb1, cn_pop0, cn_pops, cn_rk0, cn_rk1, cn_kcn, cn_kcs, cn_ireturn, cn_lreturn, cn_areturn, cn_return, cn_re0, cn_re1, cn_re2, cn_re3, cn_re4, cn_re5, cn_wp0, cn_wps, cn_m0, cn_m1, cn_e0, cn_en, cn_ei, cn_er, cn_eu, cn_el, cn_nl0, cn_nls, cn_nb0, cn_nb1, cn_nb2, cn_nb3, cn_bd0, cn_bds, cn_cwi, cn_cwr, cn_cwl, cn_cwn, cn_wi2, cn_wl1, cn_wl3, cn_wr1, cn_wr2, cn_wi_eq, cn_wl_eq, cb_0, cb_n0, cb_b, cm_okb0, cm_okb1, Classical.not_not, true_and, and_true, Nat.reduceAdd, Nat.reduceSub, Nat.reduceLT, Nat.reduceLeDiff, Int.reduceToNat, Int.reduceNatCast', Nat.zero_le, Nat.reduceEqDiff, false_or, or_false, or_true, true_or, Int.reduceNeg, reduceCtorEq, false_implies, implies_true, forall_const, true_implies, not_true_eq_false, not_false_eq_true, Nat.le_refl, ne_eq, if_true, if_false, ite_true, ite_false, List.cons_append, List.nil_append]
    simp (disch := omega) only [w3_le, w3_lt, w3_eq, w3_ix, w3_add, w3_sub, w3_toInt, w3_z]
    refine ⟨fun h => ?_, fun h => ⟨pb, pa, _, _, _, rfl, g3, h3, by rw [w3_toInt] <;> omega, by rw [w3_toInt] <;> omega, by rw [w3_toInt] <;> omega, by rw [w3_toInt, w3_toInt] <;> omega, by rw [w3_toInt, w3_toInt] <;> omega, ?_⟩⟩
    · have e : cm_wi M a 1 (w3 z) = (fun q j => if q = a ∧ j = 1 then w3 z else if q = pa ∧ 0 ≤ j ∧ j < z then M.1 pb j else M.1 q j, M.2.1, M.2.2) := by
        refine Prod.ext (funext fun q => funext fun j => ?_) rfl
        show (if q = a ∧ j = 1 then w3 z else M.1 q j) = (if q = a ∧ j = 1 then w3 z else if q = pa ∧ 0 ≤ j ∧ j < z then M.1 pb j else M.1 q j)
        rw [if_neg (show ¬ (q = pa ∧ 0 ≤ j ∧ j < z) by omega)]
      rw [e]; exact hS
    · rw [w3_toInt (by omega) (by omega), w3_toInt (by omega) (by omega)]
      have e : cm_cp (cm_wi M a 1 (w3 z)) pb pa 0 0 z = (fun q j => if q = a ∧ j = 1 then w3 z else if q = pa ∧ 0 ≤ j ∧ j < z then M.1 pb j else M.1 q j, M.2.1, M.2.2) := by
        refine Prod.ext (funext fun q => funext fun j => ?_) rfl
        show (if q = pa ∧ 0 ≤ j ∧ j < 0 + z then (cm_wi M a 1 (w3 z)).1 pb (0 + (j - 0)) else (cm_wi M a 1 (w3 z)).1 q j) = (if q = a ∧ j = 1 then w3 z else if q = pa ∧ 0 ≤ j ∧ j < z then M.1 pb j else M.1 q j)
        rw [cn_wi_ne (Or.inl (Ne.symm n2)), cn_wi1, show (0 : Int) + z = z by omega, show (0 : Int) + (j - 0) = j by omega]
        by_cases c1 : q = a ∧ j = 1
        · rw [if_pos c1, if_neg (fun w => n1 (c1.1.symm.trans w.1)), if_pos c1]
        · rw [if_neg c1, if_neg c1]
      rw [e]
      simp only [jX4_become, kX4_become_0, fl_4_9, fl_4_21, cn_iconst, cn_lconst0, cn_lconst1, cn_null, cn_iload, cn_aload, cn_lload, cn_lo1, cn_loa1, cn_loa2, cn_lol1, cn_get0, cn_gets, cn_put0, cn_puts, cn_istore, cn_astore, cn_astoreN, cn_lstore, cn_iinc, cn_in1, cn_iadd, cn_isub, cn_imul, cn_iand, cn_ior, cn_ixor, cn_ishl, cn_ishr, cn_iushr, cn_idiv, cn_irem, cn_ladd, cn_lmul, cn_ldiv, cn_lrem, cn_i2l, cn_l2i, cn_i2b, cn_lcmp, cn_dupi, cn_dupr, cn_dup2, cn_popi, cn_popr, cn_goto, cn_if_eq, cn_if_ne, cn_if_lt, cn_if_ge, cn_if_gt, cn_if_le, cn_ic_eq, cn_ic_ne, cn_ic_lt, cn_ic_ge, cn_ic_gt, cn_ic_le, cn_ifnullN, cn_ifnullR, cn_ifnonnullN, cn_ifnonnullR, cn_tswS, cn_tsw0, cn_tsw1, cn_lswS, cn_lsw0, cn_lsw1, cn_alen, cn_iaload, cn_laload, cn_rr1, cn_rr0, cn_aaload, cn_iastore, cn_lastore, cn_aastore, cn_getfield, cn_gf0, cn_gf1, cn_gf2, cn_gf3, cn_putfield, cn_pf0f, cn_pf1f, cn_pf2f, cn_pf3f, cn_pf0t, cn_pf1t, cn_pf2t, cn_pf3t, cn_new, cn_nw1, cn_newi, cn_newl, cn_anew, cn_an1, cn_inv_v, cn_inv_s, cn_inv_p, cn_ca1, cn_cb1, cn_pop0, cn_pops, cn_rk0, cn_rk1, cn_kcn, cn_kcs, cn_ireturn, cn_lreturn, cn_areturn, cn_return, cn_re0, cn_re1, cn_re2, cn_re3, cn_re4, cn_re5, cn_wp0, cn_wps, cn_m0, cn_m1, cn_e0, cn_en, cn_ei, cn_er, cn_eu, cn_el, cn_nl0, cn_nls, cn_nb0, cn_nb1, cn_nb2, cn_nb3, cn_bd0, cn_bds, cn_cwi, cn_cwr, cn_cwl, cn_cwn, cn_wi2, cn_wl1, cn_wl3, cn_wr1, cn_wr2, cn_wi_eq, cn_wl_eq, cb_0, cb_n0, cb_b, cm_okb0, cm_okb1, Classical.not_not, true_and, and_true, Nat.reduceAdd, Nat.reduceSub, Nat.reduceLT, Nat.reduceLeDiff, Int.reduceToNat, Int.reduceNatCast', Nat.zero_le, Nat.reduceEqDiff, false_or, or_false, or_true, true_or, Int.reduceNeg, reduceCtorEq, false_implies, implies_true, forall_const, true_implies, not_true_eq_false, not_false_eq_true, Nat.le_refl, ne_eq, if_true, if_false, ite_true, ite_false, List.cons_append, List.nil_append]
      exact hS
def SX4_becomeWith : cm_CT := fun as T M Φ => match as with
  | [.ref a, .ref b, .int i, .int v] => ∃ (n : Int) (c : Int), Sg T M a ∧ Sg T M b ∧ pl M a ≠ pl M b ∧ a ≠ b ∧ n = max (sz M b) 0 ∧ n + 1 ≤ (T.2.1 (pl M a) : Int) ∧ i = w3 c ∧ 0 ≤ c ∧ c ≤ n ∧ Φ none T (mRow M a (n + 1) (fun j => if j < c then M.1 (pl M b) j else if j = c then v else M.1 (pl M b) (j - 1)))
  | _ => False
def JX4_becomeWith : cm_J := (4, false, 0, [(38, 3, 5, 0, 0, SX4_renew), (42, 2, 5, 0, 0, SX4_append), (46, 2, 5, 0, 0, SX4_get)], [(15, 2, 0, 0, 0, SJ9_max_7cf53)], [])
theorem jX4_becomeWith : JX4_becomeWith.1 = 4 ∧ JX4_becomeWith.2.1 = false ∧ JX4_becomeWith.2.2.1 = 0 ∧ cm_gv JX4_becomeWith 38 = some (3, 5, 0, 0, SX4_renew) ∧ cm_gv JX4_becomeWith 42 = some (2, 5, 0, 0, SX4_append) ∧ cm_gv JX4_becomeWith 46 = some (2, 5, 0, 0, SX4_get) ∧ cm_gs JX4_becomeWith 15 = some (2, 0, 0, 0, SJ9_max_7cf53) := ⟨rfl, rfl, rfl, rfl, rfl, rfl, rfl⟩
theorem eX4_becomeWith (d : Nat) (hd : 2 ≤ d) : cm_Cok d JX4_becomeWith := ⟨(List.forall_mem_cons.mpr ⟨q4_38 (mX4_renew (d - 1) (by omega)) (by omega), (List.forall_mem_cons.mpr ⟨q4_42 (mX4_append (d - 1) (by omega)) (by omega), (List.forall_mem_cons.mpr ⟨q4_46 (mX4_get (d - 1) (by omega)) (by omega), (fun q h => by cases h)⟩)⟩)⟩), (List.forall_mem_cons.mpr ⟨(cm_calMx (cm_w 116 (by decide +kernel) rfl)), (fun q h => by cases h)⟩), (fun q h => by cases h)⟩
theorem mRow_pl {M : cm_M} {a b : Nat} {z : Int} {f : Int → Int32} : pl (mRow M a z f) b = pl M b := rfl
theorem mRow_sz {M : cm_M} {a : Nat} {z : Int} {f : Int → Int32} (h1 : -2147483648 ≤ z) (h2 : z < 2147483648) : sz (mRow M a z f) a = z := by
  unfold sz
  show (if a = a ∧ (1 : Int) = 1 then w3 z else _).toInt = z
  rw [if_pos ⟨rfl, rfl⟩, w3_toInt h1 h2]
theorem mRow_szn {M : cm_M} {a b : Nat} {z : Int} {f : Int → Int32} (h1 : b ≠ a) (h2 : b ≠ pl M a) : sz (mRow M a z f) b = sz M b := by
  unfold sz
  show (if b = a ∧ (1 : Int) = 1 then w3 z else if b = pl M a ∧ _ then _ else M.1 b 1).toInt = _
  rw [if_neg (fun w => h1 w.1), if_neg (fun w => h2 w.1)]
theorem mRow_ne {M : cm_M} {a q : Nat} {z j : Int} {f : Int → Int32} (h1 : q ≠ a ∨ j ≠ 1) (h2 : q ≠ pl M a ∨ j < 0 ∨ z ≤ j) : (mRow M a z f).1 q j = M.1 q j := by
  show (if q = a ∧ j = 1 then w3 z else if q = pl M a ∧ 0 ≤ j ∧ j < z then f j else M.1 q j) = M.1 q j
  rw [if_neg (by omega), if_neg (by omega)]
theorem mRow_in {M : cm_M} {a : Nat} {z j : Int} {f : Int → Int32} (h0 : pl M a ≠ a) (h1 : 0 ≤ j) (h2 : j < z) : (mRow M a z f).1 (pl M a) j = f j := by
  show (if pl M a = a ∧ j = 1 then w3 z else if pl M a = pl M a ∧ 0 ≤ j ∧ j < z then f j else _) = f j
  rw [if_neg (fun w => h0 w.1), if_pos ⟨rfl, h1, h2⟩]
theorem mRow_Sg {T : cm_T} {M : cm_M} {a : Nat} {z : Int} {f : Int → Int32} (h : Sg T M a) (h1 : -1 ≤ z) (h2 : z ≤ (T.2.1 (pl M a) : Int)) : Sg T (mRow M a z f) a := by
  have h6 := h.2.2.2.2.2
  exact Sg_of h rfl (by rw [mRow_sz (by omega) (by omega)]; exact h1) (by rw [mRow_sz (by omega) (by omega)]; exact h2)
theorem mRow_Sgn {T : cm_T} {M : cm_M} {a b : Nat} {z : Int} {f : Int → Int32} (h : Sg T M b) (h1 : b ≠ a) (h2 : b ≠ pl M a) : Sg T (mRow M a z f) b := Sg_of h rfl (by rw [mRow_szn h1 h2]; exact h.2.2.2.1) (by rw [mRow_szn h1 h2]; exact h.2.2.2.2.1)
theorem mRow_app {T : cm_T} {M : cm_M} {a : Nat} {z : Int} {f g : Int → Int32} {v : Int32} (hne : a ≠ pl M a) (z0 : 0 ≤ z) (hf : ∀ j, 0 ≤ j → j < z → g j = f j) (hv : g z = v) : cm_wi (cm_wi (mRow M a z f) (pl M a) z v) a 1 (w3 (z + 1)) = mRow M a (z + 1) g := by
  refine Prod.ext (funext fun q => funext fun j => ?_) rfl
  show (if q = a ∧ j = 1 then w3 (z + 1) else if q = pl M a ∧ j = z then v else if q = a ∧ j = 1 then w3 z else if q = pl M a ∧ 0 ≤ j ∧ j < z then f j else M.1 q j) = (if q = a ∧ j = 1 then w3 (z + 1) else if q = pl M a ∧ 0 ≤ j ∧ j < z + 1 then g j else M.1 q j)
  by_cases c1 : q = a ∧ j = 1
  · rw [if_pos c1, if_pos c1]
  · rw [if_neg c1, if_neg c1, if_neg c1]
    by_cases c2 : q = pl M a ∧ j = z
    · rw [if_pos c2, if_pos ⟨c2.1, by omega, by omega⟩, c2.2, hv]
    · rw [if_neg c2]
      by_cases c3 : q = pl M a ∧ 0 ≤ j ∧ j < z
      · rw [if_pos c3, if_pos ⟨c3.1, by omega, by omega⟩, hf j c3.2.1 c3.2.2]
      · rw [if_neg c3, if_neg (by omega)]
theorem mRow_cong {M : cm_M} {a : Nat} {z : Int} {f g : Int → Int32} (h : ∀ j, 0 ≤ j → j < z → f j = g j) : mRow M a z f = mRow M a z g := by
  refine Prod.ext (funext fun q => funext fun j => ?_) rfl
  show (if q = a ∧ j = 1 then w3 z else if q = pl M a ∧ 0 ≤ j ∧ j < z then f j else M.1 q j) = (if q = a ∧ j = 1 then w3 z else if q = pl M a ∧ 0 ≤ j ∧ j < z then g j else M.1 q j)
  by_cases c3 : q = pl M a ∧ 0 ≤ j ∧ j < z
  · rw [if_pos c3, if_pos c3, h j c3.2.1 c3.2.2]
  · rw [if_neg c3, if_neg c3]
theorem ap_mRow {T : cm_T} {M : cm_M} {a : Nat} {z : Int} {f g : Int → Int32} {v : Int32} {K : Option Value → cm_T → cm_M → Prop} (ha : Sg T M a) (z0 : 0 ≤ z) (z1 : z < (T.2.1 (pl M a) : Int)) (hf : ∀ j, 0 ≤ j → j < z → g j = f j) (hv : g z = v) (hK : K none T (mRow M a (z + 1) g)) : SX4_append [.ref a, .int v] T (mRow M a z f) K := by
  have h60 := ha.2.2.2.2.2
  refine ⟨mRow_Sg ha (by omega) (by omega), ?_, ?_, ?_⟩
  · rw [mRow_sz (by omega) (by omega)]; exact z0
  · rw [mRow_sz (by omega) (by omega)]; exact z1
  · rw [mRow_sz (by omega) (by omega), mRow_pl, mRow_app (T := T) (ha.ne ha) z0 hf hv]
    exact hK
theorem gt_mRow {T : cm_T} {M : cm_M} {a b : Nat} {z k : Int} {f : Int → Int32} {K : Option Value → cm_T → cm_M → Prop} (ha : Sg T M a) (hb : Sg T M b) (hab : b ≠ a) (hp : pl M b ≠ pl M a) (k0 : 0 ≤ k) (k1 : k < sz M b) (hK : K (some (.int (M.1 (pl M b) k))) T (mRow M a z f)) : SX4_get [.ref b, .int (w3 k)] T (mRow M a z f) K := by
  have h60 := hb.2.2.2.2.2
  have h5 := hb.2.2.2.2.1
  have ne1 := hb.ne ha
  have ne2 := ha.ne hb
  refine ⟨mRow_Sgn hb hab ne1, ?_⟩
  rw [w3_toInt (by omega) (by omega), mRow_szn hab ne1, if_pos ⟨k0, k1⟩, mRow_pl, mRow_ne (Or.inl (fun q => ne2 q.symm)) (Or.inl hp)]
  exact hK
set_option maxHeartbeats 4000000 in
theorem lX4_becomeWith (d : Nat) (hd : 2 ≤ d) {T : cm_T} {M : cm_M} {Φ : Option Value → cm_T → cm_M → Prop} {a b : Nat} {v : Int32} {n c : Int} (ha : Sg T M a) (hb : Sg T M b) (n1 : pl M a ≠ pl M b) (n2 : a ≠ b) (hn : n = max (sz M b) 0) (hn2 : n + 1 ≤ (T.2.1 (pl M a) : Int)) (c0 : 0 ≤ c) (c1 : c ≤ n) (hS : Φ none T (mRow M a (n + 1) (fun j => if j < c then M.1 (pl M b) j else if j = c then v else M.1 (pl M b) (j - 1)))) :
    ∀ k : Int, 0 ≤ k → k ≤ n + 1 → cm_Go d cX4_becomeWith 6 0 0 JX4_becomeWith Φ 19 [some (.ref a), some (.ref b), some (.int (w3 c)), some (.int v), some (.int (w3 n)), some (.int (w3 k))] [] (0, 0) T (mRow M a (if k ≤ c then k else min (k + 1) (n + 1)) (fun j => if j < c then M.1 (pl M b) j else if j = c then v else M.1 (pl M b) (j - 1))) := by
  intro k
  induction hf : (n + 1 - k).toNat using Nat.strongRecOn generalizing k with
  | _ f ih =>
    intro k0 k1
    have h60 := ha.2.2.2.2.2
    have ne1 := ha.ne ha
    have ne2 := ha.ne hb
    have ne3 := hb.ne ha
    generalize hg : (fun j : Int => if j < c then M.1 (pl M b) j else if j = c then v else M.1 (pl M b) (j - 1)) = g at *
    refine cm_go hX4_becomeWith 200 oX4_becomeWith (eX4_becomeWith d hd) lX4_becomeWith_19 ?_
    simp only [jX4_becomeWith, kX4_becomeWith_0, fl_4_9, cn_iconst, cn_lconst0, cn_lconst1, cn_null, cn_iload, cn_aload, cn_lload, cn_lo1, cn_loa1, cn_loa2, cn_lol1, cn_get0, cn_gets, cn_put0, cn_puts, cn_istore, cn_astore, cn_astoreN, cn_lstore, cn_iinc, cn_in1, cn_iadd, cn_isub, cn_imul, cn_iand, cn_ior, cn_ixor, cn_ishl, cn_ishr, cn_iushr, cn_idiv, cn_irem, cn_ladd, cn_lmul, cn_ldiv, cn_lrem, cn_i2l, cn_l2i, cn_i2b, cn_lcmp, cn_dupi, cn_dupr, cn_dup2, cn_popi, cn_popr, cn_goto, cn_if_eq, cn_if_ne, cn_if_lt, cn_if_ge, cn_if_gt, cn_if_le, cn_ic_eq, cn_ic_ne, cn_ic_lt, cn_ic_ge, cn_ic_gt, cn_ic_le, cn_ifnullN, cn_ifnullR, cn_ifnonnullN, cn_ifnonnullR, cn_tswS, cn_tsw0, cn_tsw1, cn_lswS, cn_lsw0, cn_lsw1, cn_alen, cn_iaload, cn_laload, cn_rr1, cn_rr0, cn_aaload, cn_iastore, cn_lastore, cn_aastore, cn_getfield, cn_gf0, cn_gf1, cn_gf2, cn_gf3, cn_putfield, cn_pf0f, cn_pf1f, cn_pf2f, cn_pf3f, cn_pf0t, cn_pf1t, cn_pf2t, cn_pf3t, cn_new, cn_nw1, cn_newi, cn_newl, cn_anew, cn_an1, cn_inv_v, cn_inv_s, cn_inv_p, cn_ca1, cn_cb1, cn_pop0, cn_pops, cn_rk0, cn_rk1, cn_kcn, cn_kcs, cn_ireturn, cn_lreturn, cn_areturn, cn_return, cn_re0, cn_re1, cn_re2, cn_re3, cn_re4, cn_re5, cn_wp0, cn_wps, cn_m0, cn_m1, cn_e0, cn_en, cn_ei, cn_er, cn_eu, cn_el, cn_nl0, cn_nls, cn_nb0, cn_nb1, cn_nb2, cn_nb3, cn_bd0, cn_bds, cn_cwi, cn_cwr, cn_cwl, cn_cwn, cn_wi2, cn_wl1, cn_wl3, cn_wr1, cn_wr2, cn_wi_eq, cn_wl_eq, cb_0, cb_n0, cb_b, cm_okb0, cm_okb1, Classical.not_not, true_and, and_true, Nat.reduceAdd, Nat.reduceSub, Nat.reduceLT, Nat.reduceLeDiff, Int.reduceToNat, Int.reduceNatCast', Nat.zero_le, Nat.reduceEqDiff, false_or, or_false, or_true, true_or, Int.reduceNeg, reduceCtorEq, false_implies, implies_true, forall_const, true_implies, not_true_eq_false, not_false_eq_true, Nat.le_refl, ne_eq, if_true, if_false, ite_true, ite_false, List.cons_append, List.nil_append]
    simp (disch := omega) only [w3_le, w3_lt, w3_eq, w3_ix, w3_add, w3_sub, w3_toInt, w3_z]
    refine ⟨fun h => ?_, fun h => ⟨fun h2 => ?_, fun h2 => ?_⟩⟩
    · have e : (if k ≤ c then k else min (k + 1) (n + 1)) = n + 1 := by rw [if_neg (by omega)]; omega
      rw [e]; exact hS
    · refine ⟨fun h3 => ?_, fun h3 => ?_⟩
      · have e : mRow M a (if k ≤ c then k else min (k + 1) (n + 1)) g = mRow M a (if k + 1 ≤ c then k + 1 else min (k + 1 + 1) (n + 1)) g := by
          congr 1
          split <;> split <;> omega
        rw [e]
        exact ih _ (by omega) (k + 1) rfl (by omega) (by omega)
      · refine ⟨hb.1, gt_mRow ha hb (Ne.symm n2) (Ne.symm n1) k0 (by omega) ?_⟩
        simp only [jX4_becomeWith, kX4_becomeWith_0, fl_4_9, cn_iconst, cn_lconst0, cn_lconst1, cn_null, cn_iload, cn_aload, cn_lload, cn_lo1, cn_loa1, cn_loa2, cn_lol1, cn_get0, cn_gets, cn_put0, cn_puts, cn_istore, cn_astore, cn_astoreN, cn_lstore, cn_iinc, cn_in1, cn_iadd, cn_isub, cn_imul, cn_iand, cn_ior, cn_ixor, cn_ishl, cn_ishr, cn_iushr, cn_idiv, cn_irem, cn_ladd, cn_lmul, cn_ldiv, cn_lrem, cn_i2l, cn_l2i, cn_i2b, cn_lcmp, cn_dupi, cn_dupr, cn_dup2, cn_popi, cn_popr, cn_goto, cn_if_eq, cn_if_ne, cn_if_lt, cn_if_ge, cn_if_gt, cn_if_le, cn_ic_eq, cn_ic_ne, cn_ic_lt, cn_ic_ge, cn_ic_gt, cn_ic_le, cn_ifnullN, cn_ifnullR, cn_ifnonnullN, cn_ifnonnullR, cn_tswS, cn_tsw0, cn_tsw1, cn_lswS, cn_lsw0, cn_lsw1, cn_alen, cn_iaload, cn_laload, cn_rr1, cn_rr0, cn_aaload, cn_iastore, cn_lastore, cn_aastore, cn_getfield, cn_gf0, cn_gf1, cn_gf2, cn_gf3, cn_putfield, cn_pf0f, cn_pf1f, cn_pf2f, cn_pf3f, cn_pf0t, cn_pf1t, cn_pf2t, cn_pf3t, cn_new, cn_nw1, cn_newi, cn_newl, cn_anew, cn_an1, cn_inv_v, cn_inv_s, cn_inv_p, cn_ca1, cn_cb1, cn_pop0, cn_pops, cn_rk0, cn_rk1, cn_kcn, cn_kcs, cn_ireturn, cn_lreturn, cn_areturn, cn_return, cn_re0, cn_re1, cn_re2, cn_re3, cn_re4, cn_re5, cn_wp0, cn_wps, cn_m0, cn_m1, cn_e0, cn_en, cn_ei, cn_er, cn_eu, cn_el, cn_nl0, cn_nls, cn_nb0, cn_nb1, cn_nb2, cn_nb3, cn_bd0, cn_bds, cn_cwi, cn_cwr, cn_cwl, cn_cwn, cn_wi2, cn_wl1, cn_wl3, cn_wr1, cn_wr2, cn_wi_eq, cn_wl_eq, cb_0, cb_n0, cb_b, cm_okb0, cm_okb1, Classical.not_not, true_and, and_true, Nat.reduceAdd, Nat.reduceSub, Nat.reduceLT, Nat.reduceLeDiff, Int.reduceToNat, Int.reduceNatCast', Nat.zero_le, Nat.reduceEqDiff, false_or, or_false, or_true, true_or, Int.reduceNeg, reduceCtorEq, false_implies, implies_true, forall_const, true_implies, not_true_eq_false, not_false_eq_true, Nat.le_refl, ne_eq, if_true, if_false, ite_true, ite_false, List.cons_append, List.nil_append]
        refine ⟨ha.1, ap_mRow (g := g) ha (by split <;> omega) (by split <;> omega) (fun j _ _ => rfl) ?_ ?_⟩
        · rw [← hg]
          by_cases q : k ≤ c
          · simp only [if_pos q]
            rw [if_pos (by omega)]
          · simp only [if_neg q]
            rw [show min (k + 1) (n + 1) = k + 1 by omega, if_neg (by omega), if_neg (by omega), show k + 1 - 1 = k by omega]
        · simp only [jX4_becomeWith, kX4_becomeWith_0, fl_4_9, w3_add, cn_iconst, cn_lconst0, cn_lconst1, cn_null, cn_iload, cn_aload, cn_lload, cn_lo1, cn_loa1, cn_loa2, cn_lol1, cn_get0, cn_gets, cn_put0, cn_puts, cn_istore, cn_astore, cn_astoreN, cn_lstore, cn_iinc, cn_in1, cn_iadd, cn_isub, cn_imul, cn_iand, cn_ior, cn_ixor, cn_ishl, cn_ishr, cn_iushr, cn_idiv, cn_irem, cn_ladd, cn_lmul, cn_ldiv, cn_lrem, cn_i2l, cn_l2i, cn_i2b, cn_lcmp, cn_dupi, cn_dupr, cn_dup2, cn_popi, cn_popr, cn_goto, cn_if_eq, cn_if_ne, cn_if_lt, cn_if_ge, cn_if_gt, cn_if_le, cn_ic_eq, cn_ic_ne, cn_ic_lt, cn_ic_ge, cn_ic_gt, cn_ic_le, cn_ifnullN, cn_ifnullR, cn_ifnonnullN, cn_ifnonnullR, cn_tswS, cn_tsw0, cn_tsw1, cn_lswS, cn_lsw0, cn_lsw1, cn_alen, cn_iaload, cn_laload, cn_rr1, cn_rr0, cn_aaload, cn_iastore, cn_lastore, cn_aastore, cn_getfield, cn_gf0, cn_gf1, cn_gf2, cn_gf3, cn_putfield, cn_pf0f, cn_pf1f, cn_pf2f, cn_pf3f, cn_pf0t, cn_pf1t, cn_pf2t, cn_pf3t, cn_new, cn_nw1, cn_newi, cn_newl, cn_anew, cn_an1, cn_inv_v, cn_inv_s, cn_inv_p, cn_ca1, cn_cb1, cn_pop0, cn_pops, cn_rk0, cn_rk1, cn_kcn, cn_kcs, cn_ireturn, cn_lreturn, cn_areturn, cn_return, cn_re0, cn_re1, cn_re2, cn_re3, cn_re4, cn_re5, cn_wp0, cn_wps, cn_m0, cn_m1, cn_e0, cn_en, cn_ei, cn_er, cn_eu, cn_el, cn_nl0, cn_nls, cn_nb0, cn_nb1, cn_nb2, cn_nb3, cn_bd0, cn_bds, cn_cwi, cn_cwr, cn_cwl, cn_cwn, cn_wi2, cn_wl1, cn_wl3, cn_wr1, cn_wr2, cn_wi_eq, cn_wl_eq, cb_0, cb_n0, cb_b, cm_okb0, cm_okb1, Classical.not_not, true_and, and_true, Nat.reduceAdd, Nat.reduceSub, Nat.reduceLT, Nat.reduceLeDiff, Int.reduceToNat, Int.reduceNatCast', Nat.zero_le, Nat.reduceEqDiff, false_or, or_false, or_true, true_or, Int.reduceNeg, reduceCtorEq, false_implies, implies_true, forall_const, true_implies, not_true_eq_false, not_false_eq_true, Nat.le_refl, ne_eq, if_true, if_false, ite_true, ite_false, List.cons_append, List.nil_append]
          have e : mRow M a ((if k ≤ c then k else min (k + 1) (n + 1)) + 1) g = mRow M a (if k + 1 ≤ c then k + 1 else min (k + 1 + 1) (n + 1)) g := by
            congr 1
            split <;> split <;> omega
          rw [e]
          exact ih _ (by omega) (k + 1) rfl (by omega) (by omega)
    · have h2 : k = c := by omega
      subst h2
      refine ⟨ha.1, ?_⟩
      simp only [Int.le_refl, if_true]
      refine ap_mRow (g := g) ha k0 (by omega) (fun j _ _ => rfl) ?_ ?_
      · rw [← hg]
        simp only [Int.lt_irrefl, if_false, if_true]
      simp only [jX4_becomeWith, kX4_becomeWith_0, fl_4_9, cn_iconst, cn_lconst0, cn_lconst1, cn_null, cn_iload, cn_aload, cn_lload, cn_lo1, cn_loa1, cn_loa2, cn_lol1, cn_get0, cn_gets, cn_put0, cn_puts, cn_istore, cn_astore, cn_astoreN, cn_lstore, cn_iinc, cn_in1, cn_iadd, cn_isub, cn_imul, cn_iand, cn_ior, cn_ixor, cn_ishl, cn_ishr, cn_iushr, cn_idiv, cn_irem, cn_ladd, cn_lmul, cn_ldiv, cn_lrem, cn_i2l, cn_l2i, cn_i2b, cn_lcmp, cn_dupi, cn_dupr, cn_dup2, cn_popi, cn_popr, cn_goto, cn_if_eq, cn_if_ne, cn_if_lt, cn_if_ge, cn_if_gt, cn_if_le, cn_ic_eq, cn_ic_ne, cn_ic_lt, cn_ic_ge, cn_ic_gt, cn_ic_le, cn_ifnullN, cn_ifnullR, cn_ifnonnullN, cn_ifnonnullR, cn_tswS, cn_tsw0, cn_tsw1, cn_lswS, cn_lsw0, cn_lsw1, cn_alen, cn_iaload, cn_laload, cn_rr1, cn_rr0, cn_aaload, cn_iastore, cn_lastore, cn_aastore, cn_getfield, cn_gf0, cn_gf1, cn_gf2, cn_gf3, cn_putfield, cn_pf0f, cn_pf1f, cn_pf2f, cn_pf3f, cn_pf0t, cn_pf1t, cn_pf2t, cn_pf3t, cn_new, cn_nw1, cn_newi, cn_newl, cn_anew, cn_an1, cn_inv_v, cn_inv_s, cn_inv_p, cn_ca1, cn_cb1, cn_pop0, cn_pops, cn_rk0, cn_rk1, cn_kcn, cn_kcs, cn_ireturn, cn_lreturn, cn_areturn, cn_return, cn_re0, cn_re1, cn_re2, cn_re3, cn_re4, cn_re5, cn_wp0, cn_wps, cn_m0, cn_m1, cn_e0, cn_en, cn_ei, cn_er, cn_eu, cn_el, cn_nl0, cn_nls, cn_nb0, cn_nb1, cn_nb2, cn_nb3, cn_bd0, cn_bds, cn_cwi, cn_cwr, cn_cwl, cn_cwn, cn_wi2, cn_wl1, cn_wl3, cn_wr1, cn_wr2, cn_wi_eq, cn_wl_eq, cb_0, cb_n0, cb_b, cm_okb0, cm_okb1, Classical.not_not, true_and, and_true, Nat.reduceAdd, Nat.reduceSub, Nat.reduceLT, Nat.reduceLeDiff, Int.reduceToNat, Int.reduceNatCast', Nat.zero_le, Nat.reduceEqDiff, false_or, or_false, or_true, true_or, Int.reduceNeg, reduceCtorEq, false_implies, implies_true, forall_const, true_implies, not_true_eq_false, not_false_eq_true, Nat.le_refl, ne_eq, if_true, if_false, ite_true, ite_false, List.cons_append, List.nil_append]
      simp (disch := omega) only [w3_le, w3_lt, w3_eq, w3_ix, w3_add, w3_sub, w3_toInt, w3_z]
      refine ⟨fun h3 => ?_, fun h3 => ?_⟩
      · have e : mRow M a (k + 1) g = mRow M a (if k + 1 ≤ k then k + 1 else min (k + 1 + 1) (n + 1)) g := by
          congr 1
          split <;> omega
        rw [e]
        exact ih _ (by omega) (k + 1) rfl (by omega) (by omega)
      · refine ⟨hb.1, gt_mRow ha hb (Ne.symm n2) (Ne.symm n1) k0 (by omega) ?_⟩
        simp only [jX4_becomeWith, kX4_becomeWith_0, fl_4_9, cn_iconst, cn_lconst0, cn_lconst1, cn_null, cn_iload, cn_aload, cn_lload, cn_lo1, cn_loa1, cn_loa2, cn_lol1, cn_get0, cn_gets, cn_put0, cn_puts, cn_istore, cn_astore, cn_astoreN, cn_lstore, cn_iinc, cn_in1, cn_iadd, cn_isub, cn_imul, cn_iand, cn_ior, cn_ixor, cn_ishl, cn_ishr, cn_iushr, cn_idiv, cn_irem, cn_ladd, cn_lmul, cn_ldiv, cn_lrem, cn_i2l, cn_l2i, cn_i2b, cn_lcmp, cn_dupi, cn_dupr, cn_dup2, cn_popi, cn_popr, cn_goto, cn_if_eq, cn_if_ne, cn_if_lt, cn_if_ge, cn_if_gt, cn_if_le, cn_ic_eq, cn_ic_ne, cn_ic_lt, cn_ic_ge, cn_ic_gt, cn_ic_le, cn_ifnullN, cn_ifnullR, cn_ifnonnullN, cn_ifnonnullR, cn_tswS, cn_tsw0, cn_tsw1, cn_lswS, cn_lsw0, cn_lsw1, cn_alen, cn_iaload, cn_laload, cn_rr1, cn_rr0, cn_aaload, cn_iastore, cn_lastore, cn_aastore, cn_getfield, cn_gf0, cn_gf1, cn_gf2, cn_gf3, cn_putfield, cn_pf0f, cn_pf1f, cn_pf2f, cn_pf3f, cn_pf0t, cn_pf1t, cn_pf2t, cn_pf3t, cn_new, cn_nw1, cn_newi, cn_newl, cn_anew, cn_an1, cn_inv_v, cn_inv_s, cn_inv_p, cn_ca1, cn_cb1, cn_pop0, cn_pops, cn_rk0, cn_rk1, cn_kcn, cn_kcs, cn_ireturn, cn_lreturn, cn_areturn, cn_return, cn_re0, cn_re1, cn_re2, cn_re3, cn_re4, cn_re5, cn_wp0, cn_wps, cn_m0, cn_m1, cn_e0, cn_en, cn_ei, cn_er, cn_eu, cn_el, cn_nl0, cn_nls, cn_nb0, cn_nb1, cn_nb2, cn_nb3, cn_bd0, cn_bds, cn_cwi, cn_cwr, cn_cwl, cn_cwn, cn_wi2, cn_wl1, cn_wl3, cn_wr1, cn_wr2, cn_wi_eq, cn_wl_eq, cb_0, cb_n0, cb_b, cm_okb0, cm_okb1, Classical.not_not, true_and, and_true, Nat.reduceAdd, Nat.reduceSub, Nat.reduceLT, Nat.reduceLeDiff, Int.reduceToNat, Int.reduceNatCast', Nat.zero_le, Nat.reduceEqDiff, false_or, or_false, or_true, true_or, Int.reduceNeg, reduceCtorEq, false_implies, implies_true, forall_const, true_implies, not_true_eq_false, not_false_eq_true, Nat.le_refl, ne_eq, if_true, if_false, ite_true, ite_false, List.cons_append, List.nil_append]
        refine ⟨ha.1, ap_mRow (g := g) ha (by omega) (by omega) (fun j _ _ => rfl) ?_ ?_⟩
        · rw [← hg]
          show (if k + 1 < k then _ else if k + 1 = k then v else M.1 (pl M b) (k + 1 - 1)) = _
          rw [if_neg (by omega), if_neg (by omega), show k + 1 - 1 = k by omega]
        · simp only [jX4_becomeWith, kX4_becomeWith_0, fl_4_9, w3_add, cn_iconst, cn_lconst0, cn_lconst1, cn_null, cn_iload, cn_aload, cn_lload, cn_lo1, cn_loa1, cn_loa2, cn_lol1, cn_get0, cn_gets, cn_put0, cn_puts, cn_istore, cn_astore, cn_astoreN, cn_lstore, cn_iinc, cn_in1, cn_iadd, cn_isub, cn_imul, cn_iand, cn_ior, cn_ixor, cn_ishl, cn_ishr, cn_iushr, cn_idiv, cn_irem, cn_ladd, cn_lmul, cn_ldiv, cn_lrem, cn_i2l, cn_l2i, cn_i2b, cn_lcmp, cn_dupi, cn_dupr, cn_dup2, cn_popi, cn_popr, cn_goto, cn_if_eq, cn_if_ne, cn_if_lt, cn_if_ge, cn_if_gt, cn_if_le, cn_ic_eq, cn_ic_ne, cn_ic_lt, cn_ic_ge, cn_ic_gt, cn_ic_le, cn_ifnullN, cn_ifnullR, cn_ifnonnullN, cn_ifnonnullR, cn_tswS, cn_tsw0, cn_tsw1, cn_lswS, cn_lsw0, cn_lsw1, cn_alen, cn_iaload, cn_laload, cn_rr1, cn_rr0, cn_aaload, cn_iastore, cn_lastore, cn_aastore, cn_getfield, cn_gf0, cn_gf1, cn_gf2, cn_gf3, cn_putfield, cn_pf0f, cn_pf1f, cn_pf2f, cn_pf3f, cn_pf0t, cn_pf1t, cn_pf2t, cn_pf3t, cn_new, cn_nw1, cn_newi, cn_newl, cn_anew, cn_an1, cn_inv_v, cn_inv_s, cn_inv_p, cn_ca1, cn_cb1, cn_pop0, cn_pops, cn_rk0, cn_rk1, cn_kcn, cn_kcs, cn_ireturn, cn_lreturn, cn_areturn, cn_return, cn_re0, cn_re1, cn_re2, cn_re3, cn_re4, cn_re5, cn_wp0, cn_wps, cn_m0, cn_m1, cn_e0, cn_en, cn_ei, cn_er, cn_eu, cn_el, cn_nl0, cn_nls, cn_nb0, cn_nb1, cn_nb2, cn_nb3, cn_bd0, cn_bds, cn_cwi, cn_cwr, cn_cwl, cn_cwn, cn_wi2, cn_wl1, cn_wl3, cn_wr1, cn_wr2, cn_wi_eq, cn_wl_eq, cb_0, cb_n0, cb_b, cm_okb0, cm_okb1, Classical.not_not, true_and, and_true, Nat.reduceAdd, Nat.reduceSub, Nat.reduceLT, Nat.reduceLeDiff, Int.reduceToNat, Int.reduceNatCast', Nat.zero_le, Nat.reduceEqDiff, false_or, or_false, or_true, true_or, Int.reduceNeg, reduceCtorEq, false_implies, implies_true, forall_const, true_implies, not_true_eq_false, not_false_eq_true, Nat.le_refl, ne_eq, if_true, if_false, ite_true, ite_false, List.cons_append, List.nil_append]
          have e : mRow M a (k + 1 + 1) g = mRow M a (if k + 1 ≤ k then k + 1 else min (k + 1 + 1) (n + 1)) g := by
            congr 1
            split <;> omega
          rw [e]
          exact ih _ (by omega) (k + 1) rfl (by omega) (by omega)
set_option maxHeartbeats 4000000 in
theorem mX4_becomeWith (d : Nat) (hd : 2 ≤ d) : cm_Met d yX4_becomeWith cX4_becomeWith 6 none 0 0 SX4_becomeWith := by
  refine cm_meets (J := JX4_becomeWith) (by decide) rfl (fun h => by cases h) trivial ?_
  intro as T M Φ hS
  match as, hS with
  | [.ref a, .ref b, .int i, .int v], ⟨n, c, ha, hb, n1, n2, hn, hn2, hi, c0, c1, hS⟩ =>
    refine ⟨Nat.le_of_ble_eq_true rfl, ?_⟩
    subst hi
    have h60 := ha.2.2.2.2.2
    have hz : M.1 b 1 = w3 (sz M b) := sz_w
    have g4 := hb.2.2.2.1
    have g5 := hb.2.2.2.2.1
    have g6 := hb.2.2.2.2.2
    have hmax : (if w3 (sz M b) < w3 0 then w3 0 else w3 (sz M b)) = w3 n := by
      by_cases q : sz M b < 0
      · rw [if_pos (by rw [w3_lt (by omega) (by omega) (by omega) (by omega)]; exact q)]
        congr 1; omega
      · rw [if_neg (by rw [w3_lt (by omega) (by omega) (by omega) (by omega)]; exact q)]
        congr 1; omega
    refine cm_go hX4_becomeWith 200 oX4_becomeWith (eX4_becomeWith d hd) lX4_becomeWith_0 ?_
    simp only [jX4_becomeWith, kX4_becomeWith_0, fl_4_9, SJ9_max_7cf53, hb.1, ha.1, hz, hmax, cn_iconst, cn_lconst0, cn_lconst1, cn_null, cn_iload, cn_aload, cn_lload, cn_lo1, cn_loa1, cn_loa2, cn_lol1, cn_get0, cn_gets, cn_put0, cn_puts, cn_istore, cn_astore, cn_astoreN, cn_lstore, cn_iinc, cn_in1, cn_iadd, cn_isub, cn_imul, cn_iand, cn_ior, cn_ixor, cn_ishl, cn_ishr, cn_iushr, cn_idiv, cn_irem, cn_ladd, cn_lmul, cn_ldiv, cn_lrem, cn_i2l, cn_l2i, cn_i2b, cn_lcmp, cn_dupi, cn_dupr, cn_dup2, cn_popi, cn_popr, cn_goto, cn_if_eq, cn_if_ne, cn_if_lt, cn_if_ge, cn_if_gt, cn_if_le, cn_ic_eq, cn_ic_ne, cn_ic_lt, cn_ic_ge, cn_ic_gt, cn_ic_le, cn_ifnullN, cn_ifnullR, cn_ifnonnullN, cn_ifnonnullR, cn_tswS, cn_tsw0, cn_tsw1, cn_lswS, cn_lsw0, cn_lsw1, cn_alen, cn_iaload, cn_laload, cn_rr1, cn_rr0, cn_aaload, cn_iastore, cn_lastore, cn_aastore, cn_getfield, cn_gf0, cn_gf1, cn_gf2, cn_gf3, cn_putfield, cn_pf0f, cn_pf1f, cn_pf2f, cn_pf3f, cn_pf0t, cn_pf1t, cn_pf2t, cn_pf3t, cn_new, cn_nw1, cn_newi, cn_newl, cn_anew, cn_an1, cn_inv_v, cn_inv_s, cn_inv_p, cn_ca1, cn_cb1, cn_pop0, cn_pops, cn_rk0, cn_rk1, cn_kcn, cn_kcs, cn_ireturn, cn_lreturn, cn_areturn, cn_return, cn_re0, cn_re1, cn_re2, cn_re3, cn_re4, cn_re5, cn_wp0, cn_wps, cn_m0, cn_m1, cn_e0, cn_en, cn_ei, cn_er, cn_eu, cn_el, cn_nl0, cn_nls, cn_nb0, cn_nb1, cn_nb2, cn_nb3, cn_bd0, cn_bds, cn_cwi, cn_cwr, cn_cwl, cn_cwn, cn_wi2, cn_wl1, cn_wl3, cn_wr1, cn_wr2, cn_wi_eq, cn_wl_eq, cb_0, cb_n0, cb_b, cm_okb0, cm_okb1, Classical.not_not, true_and, and_true, Nat.reduceAdd, Nat.reduceSub, Nat.reduceLT, Nat.reduceLeDiff, Int.reduceToNat, Int.reduceNatCast', Nat.zero_le, Nat.reduceEqDiff, false_or, or_false, or_true, true_or, Int.reduceNeg, reduceCtorEq, false_implies, implies_true, forall_const, true_implies, not_true_eq_false, not_false_eq_true, Nat.le_refl, ne_eq, if_true, if_false, ite_true, ite_false, List.cons_append, List.nil_append]
    refine ⟨0, ha, by rw [w3_toInt (by omega) (by omega)]; omega, ?_⟩
    simp only [jX4_becomeWith, kX4_becomeWith_0, fl_4_9, cn_iconst, cn_lconst0, cn_lconst1, cn_null, cn_iload, cn_aload, cn_lload, cn_lo1, cn_loa1, cn_loa2, cn_lol1, cn_get0, cn_gets, cn_put0, cn_puts, cn_istore, cn_astore, cn_astoreN, cn_lstore, cn_iinc, cn_in1, cn_iadd, cn_isub, cn_imul, cn_iand, cn_ior, cn_ixor, cn_ishl, cn_ishr, cn_iushr, cn_idiv, cn_irem, cn_ladd, cn_lmul, cn_ldiv, cn_lrem, cn_i2l, cn_l2i, cn_i2b, cn_lcmp, cn_dupi, cn_dupr, cn_dup2, cn_popi, cn_popr, cn_goto, cn_if_eq, cn_if_ne, cn_if_lt, cn_if_ge, cn_if_gt, cn_if_le, cn_ic_eq, cn_ic_ne, cn_ic_lt, cn_ic_ge, cn_ic_gt, cn_ic_le, cn_ifnullN, cn_ifnullR, cn_ifnonnullN, cn_ifnonnullR, cn_tswS, cn_tsw0, cn_tsw1, cn_lswS, cn_lsw0, cn_lsw1, cn_alen, cn_iaload, cn_laload, cn_rr1, cn_rr0, cn_aaload, cn_iastore, cn_lastore, cn_aastore, cn_getfield, cn_gf0, cn_gf1, cn_gf2, cn_gf3, cn_putfield, cn_pf0f, cn_pf1f, cn_pf2f, cn_pf3f, cn_pf0t, cn_pf1t, cn_pf2t, cn_pf3t, cn_new, cn_nw1, cn_newi, cn_newl, cn_anew, cn_an1, cn_inv_v, cn_inv_s, cn_inv_p, cn_ca1, cn_cb1, cn_pop0, cn_pops, cn_rk0, cn_rk1, cn_kcn, cn_kcs, cn_ireturn, cn_lreturn, cn_areturn, cn_return, cn_re0, cn_re1, cn_re2, cn_re3, cn_re4, cn_re5, cn_wp0, cn_wps, cn_m0, cn_m1, cn_e0, cn_en, cn_ei, cn_er, cn_eu, cn_el, cn_nl0, cn_nls, cn_nb0, cn_nb1, cn_nb2, cn_nb3, cn_bd0, cn_bds, cn_cwi, cn_cwr, cn_cwl, cn_cwn, cn_wi2, cn_wl1, cn_wl3, cn_wr1, cn_wr2, cn_wi_eq, cn_wl_eq, cb_0, cb_n0, cb_b, cm_okb0, cm_okb1, Classical.not_not, true_and, and_true, Nat.reduceAdd, Nat.reduceSub, Nat.reduceLT, Nat.reduceLeDiff, Int.reduceToNat, Int.reduceNatCast', Nat.zero_le, Nat.reduceEqDiff, false_or, or_false, or_true, true_or, Int.reduceNeg, reduceCtorEq, false_implies, implies_true, forall_const, true_implies, not_true_eq_false, not_false_eq_true, Nat.le_refl, ne_eq, if_true, if_false, ite_true, ite_false, List.cons_append, List.nil_append]
    have := lX4_becomeWith d hd ha hb n1 n2 hn hn2 c0 c1 hS 0 (by omega) (by omega)
    rw [if_pos c0] at this
    rw [mRow_cong (g := fun j => if j < c then M.1 (pl M b) j else if j = c then v else M.1 (pl M b) (j - 1)) (fun j a1 a2 => by omega)]
    exact this

theorem tn_z {T : cm_T} {k n : Nat} : (cm_tn T k n).2.2 = T.2.2 + 1 := Eq.trans rfl rfl
theorem tn_ke {T : cm_T} {k n q : Nat} (h : q = T.2.2) : (cm_tn T k n).1 q = k := if_pos h
theorem tn_kn {T : cm_T} {k n q : Nat} (h : q ≠ T.2.2) : (cm_tn T k n).1 q = T.1 q := if_neg h
theorem tn_le {T : cm_T} {k n q : Nat} (h : q = T.2.2) : (cm_tn T k n).2.1 q = n := if_pos h
theorem tn_ln {T : cm_T} {k n q : Nat} (h : q ≠ T.2.2) : (cm_tn T k n).2.1 q = T.2.1 q := if_neg h
theorem zm_1e {M : cm_M} {a q : Nat} (h : q = a) : (cm_zm M a).1 q = fun _ => w3 0 := funext fun _ => if_pos h
theorem zm_1n {M : cm_M} {a q : Nat} (h : q ≠ a) : (cm_zm M a).1 q = M.1 q := funext fun _ => if_neg h
theorem zm_2e {M : cm_M} {a q : Nat} (h : q = a) : (cm_zm M a).2.1 q = fun _ => w6 0 := funext fun _ => if_pos h
theorem zm_2n {M : cm_M} {a q : Nat} (h : q ≠ a) : (cm_zm M a).2.1 q = M.2.1 q := funext fun _ => if_neg h
theorem zm_3e {M : cm_M} {a q : Nat} (h : q = a) : (cm_zm M a).2.2 q = fun _ => none := funext fun _ => if_pos h
theorem zm_3n {M : cm_M} {a q : Nat} (h : q ≠ a) : (cm_zm M a).2.2 q = M.2.2 q := funext fun _ => if_neg h
theorem wi_r {M : cm_M} {a q : Nat} {k : Int} {v : Int32} (h : q ≠ a) : (cm_wi M a k v).1 q = M.1 q := funext fun _ => cn_wi_ne (Or.inl h)
theorem wl_r {M : cm_M} {a q : Nat} {k : Int} {v : Int64} (h : q ≠ a) : (cm_wl M a k v).2.1 q = M.2.1 q := funext fun _ => cn_wl_ne (Or.inl h)
theorem cn_wr_eq {M : cm_M} {a : Nat} {k : Int} {v : Option Nat} : (cm_wr M a k v).2.2 a k = v := by rw [cn_wr3, if_pos ⟨rfl, rfl⟩]
theorem cn_wr_ne {M : cm_M} {a b : Nat} {k j : Int} {v : Option Nat} (h : b ≠ a ∨ j ≠ k) : (cm_wr M a k v).2.2 b j = M.2.2 b j := by rw [cn_wr3, if_neg (fun q => h.elim (fun z => z q.1) (fun z => z q.2))]
def ltn (a n : Nat) : Prop := a < n
theorem wr_r {M : cm_M} {a q : Nat} {k : Int} {v : Option Nat} (h : q ≠ a) : (cm_wr M a k v).2.2 q = M.2.2 q := funext fun _ => by rw [cn_wr3, if_neg (fun w => h w.1)]
/-- below n all is as it was, but for what a holds -/
def Ag (n a : Nat) (T : cm_T) (M : cm_M) (T' : cm_T) (M' : cm_M) : Prop := (∀ q, q < n → T'.1 q = T.1 q) ∧ (∀ q, q < n → T'.2.1 q = T.2.1 q) ∧ (∀ q, q < n → q ≠ a → M'.1 q = M.1 q) ∧ (∀ q, q < n → q ≠ a → M'.2.1 q = M.2.1 q) ∧ (∀ q, q < n → q ≠ a → M'.2.2 q = M.2.2 q)
theorem TrG.ag {T T' : cm_T} {M M' : cm_M} {t : Nat} (h : TrG T M t) (h1 : ∀ q, t ≤ q → q < t + 8 → T'.1 q = T.1 q) (h2 : ∀ q, t ≤ q → q < t + 8 → T'.2.1 q = T.2.1 q) (h3 : ∀ q, t ≤ q → q < t + 8 → M'.1 q = M.1 q) (h4 : ∀ q, t ≤ q → q < t + 8 → M'.2.2 q = M.2.2 q) : TrG T' M' t ∧ trv M' t = trv M t := by
  obtain ⟨⟨p1, q1⟩, ⟨p2, q2⟩, ⟨p3, q3⟩⟩ := h.sg
  obtain ⟨⟨g1, g2, g3, g4, ⟨g5, g6, g7⟩, ⟨g8, g9, g10⟩, ⟨g11, g12, g13⟩, ⟨g14, g15, g16⟩, g17, g18, g19⟩, s1, s2, s3⟩ := h
  have e2 : sz M' (t + 2) = sz M (t + 2) := by unfold sz; rw [h3 (t + 2) (by omega) (by omega)]
  have e4 : sz M' (t + 4) = sz M (t + 4) := by unfold sz; rw [h3 (t + 4) (by omega) (by omega)]
  have e6 : sz M' (t + 6) = sz M (t + 6) := by unfold sz; rw [h3 (t + 6) (by omega) (by omega)]
  refine ⟨⟨⟨?_, ?_, ?_, ?_, ⟨?_, ?_, ?_⟩, ⟨?_, ?_, ?_⟩, ⟨?_, ?_, ?_⟩, ⟨?_, ?_, ?_⟩, ?_, ?_, ?_⟩, ?_, ?_, ?_⟩, ?_⟩
  · rw [h1 _ (by omega) (by omega)]; exact g1
  · rw [h4 _ (by omega) (by omega)]; exact g2
  · rw [h1 _ (by omega) (by omega)]; exact g3
  · rw [h2 _ (by omega) (by omega)]; exact g4
  · rw [h4 _ (by omega) (by omega)]; exact g5
  · rw [h4 _ (by omega) (by omega)]; exact g6
  · rw [h4 _ (by omega) (by omega)]; exact g7
  · rw [h1 _ (by omega) (by omega)]; exact g8
  · rw [h1 _ (by omega) (by omega)]; exact g9
  · rw [h1 _ (by omega) (by omega)]; exact g10
  · rw [h4 _ (by omega) (by omega)]; exact g11
  · rw [h4 _ (by omega) (by omega)]; exact g12
  · rw [h4 _ (by omega) (by omega)]; exact g13
  · rw [h1 _ (by omega) (by omega)]; exact g14
  · rw [h1 _ (by omega) (by omega)]; exact g15
  · rw [h1 _ (by omega) (by omega)]; exact g16
  · rw [h2 _ (by omega) (by omega)]; exact g17
  · rw [h2 _ (by omega) (by omega)]; exact g18
  · rw [h2 _ (by omega) (by omega)]; exact g19
  · unfold szb; rw [e2]; exact s1
  · unfold szb; rw [e4]; exact s2
  · unfold szb; rw [e6]; exact s3
  · have f2 : fl M' (t + 2) = fl M (t + 2) := fl_keep (by rw [h4 _ (by omega) (by omega)]) (by rw [h3 _ (by omega) (by omega)]) (by rw [q1]; exact h3 _ (by omega) (by omega))
    have f4 : fl M' (t + 4) = fl M (t + 4) := fl_keep (by rw [h4 _ (by omega) (by omega)]) (by rw [h3 _ (by omega) (by omega)]) (by rw [q2]; exact h3 _ (by omega) (by omega))
    have f6 : fl M' (t + 6) = fl M (t + 6) := fl_keep (by rw [h4 _ (by omega) (by omega)]) (by rw [h3 _ (by omega) (by omega)]) (by rw [q3]; exact h3 _ (by omega) (by omega))
    unfold trv
    rw [f2, f4, f6, h3 t (by omega) (by omega)]
def SX4_init : cm_CT := fun as T M Φ => match as with
  | [.ref a, .int n] => ∃ z : Nat, n = w3 (z : Int) ∧ z ≤ 60 ∧ T.1 a = 5 ∧ ltn a T.2.2 ∧ ∀ T1 M1, T1.2.2 = T.2.2 + 1 → Ag T.2.2 a T M T1 M1 → T1.1 T.2.2 = 20 → T1.2.1 T.2.2 = z → M1.2.2 a 0 = some T.2.2 → M1.1 a 1 = w3 (-1) → Φ none T1 M1
  | _ => False
def JX4_init : cm_J := (4, true, 0, [], [(15, 2, 0, 0, 0, SJ9_max_7cf53)], [(3, 1, 0, 0, 0, cm_Sobj)])
theorem jX4_init : JX4_init.1 = 4 ∧ JX4_init.2.1 = true ∧ JX4_init.2.2.1 = 0 ∧ cm_gs JX4_init 15 = some (2, 0, 0, 0, SJ9_max_7cf53) ∧ cm_gp JX4_init 3 = some (1, 0, 0, 0, cm_Sobj) := ⟨rfl, rfl, rfl, rfl, rfl⟩
theorem eX4_init (d : Nat) (hd : 1 ≤ d) : cm_Cok d JX4_init := ⟨(fun q h => by cases h), (List.forall_mem_cons.mpr ⟨(cm_calMx (cm_w 116 (by decide +kernel) rfl)), (fun q h => by cases h)⟩), (List.forall_mem_cons.mpr ⟨q4_3, (fun q h => by cases h)⟩)⟩
set_option maxHeartbeats 4000000 in
theorem mX4_init (d : Nat) (hd : 1 ≤ d) : cm_Met d yX4_init cX4_init 2 none 1 60 SX4_init := by
  refine cm_meets (J := JX4_init) (by decide) rfl (fun _ => rfl) trivial ?_
  intro as T M Φ hS
  match as, hS with
  | [.ref a, .int n], ⟨z, hn, hz, ka, ha, hS⟩ =>
    refine ⟨Nat.le_of_ble_eq_true rfl, ?_⟩
    subst hn
    unfold ltn at ha
    have mx : (if w3 (z : Int) < w3 0 then w3 0 else w3 (z : Int)) = w3 (z : Int) := by rw [w3_mx3 (by omega) (by omega) (by omega) (by omega)]; congr 1; omega
    have ez : (w3 (z : Int)).toInt = (z : Int) := w3_toInt (by omega) (by omega)
    have en : ((z : Int)).toNat = z := by omega
    have ka2 : (cm_tn T 20 z).1 a = 5 := by rw [tn_kn (by omega)]; exact ka
    refine cm_go hX4_init 200 oX4_init (eX4_init d hd) lX4_init_0 ?_
    simp only [jX4_init, kX4_init_0, fl_4_9, fl_4_21, SJ9_max_7cf53, mx, ez, en, ka, ka2, cn_iconst, cn_lconst0, cn_lconst1, cn_null, cn_iload, cn_aload, cn_lload, cn_lo1, cn_loa1, cn_loa2, cn_lol1, cn_get0, cn_gets, cn_put0, cn_puts, cn_istore, cn_astore, cn_astoreN, cn_lstore, cn_iinc, cn_in1, cn_iadd, cn_isub, cn_imul, cn_iand, cn_ior, cn_ixor, cn_ishl, cn_ishr, cn_iushr, cn_idiv, cn_irem, cn_ladd, cn_lmul, cn_ldiv, cn_lrem, cn_i2l, cn_l2i, cn_i2b, cn_lcmp, cn_dupi, cn_dupr, cn_dup2, cn_popi, cn_popr, cn_goto, cn_if_eq, cn_if_ne, cn_if_lt, cn_if_ge, cn_if_gt, cn_if_le, cn_ic_eq, cn_ic_ne, cn_ic_lt, cn_ic_ge, cn_ic_gt, cn_ic_le, cn_ifnullN, cn_ifnullR, cn_ifnonnullN, cn_ifnonnullR, cn_tswS, cn_tsw0, cn_tsw1, cn_lswS, cn_lsw0, cn_lsw1, cn_alen, cn_iaload, cn_laload, cn_rr1, cn_rr0, cn_aaload, cn_iastore, cn_lastore, cn_aastore, cn_getfield, cn_gf0, cn_gf1, cn_gf2, cn_gf3, cn_putfield, cn_pf0f, cn_pf1f, cn_pf2f, cn_pf3f, cn_pf0t, cn_pf1t, cn_pf2t, cn_pf3t, cn_new, cn_nw1, cn_newi, cn_newl, cn_anew, cn_an1, cn_inv_v, cn_inv_s, cn_inv_p, cn_ca1, cn_cb1, cn_pop0, cn_pops, cn_rk0, cn_rk1, cn_kcn, cn_kcs, cn_ireturn, cn_lreturn, cn_areturn, cn_return, cn_re0, cn_re1, cn_re2, cn_re3, cn_re4, cn_re5, cn_wp0, cn_wps, cn_m0, cn_m1, cn_e0, cn_en, cn_ei, cn_er, cn_eu, cn_el, cn_nl0, cn_nls, cn_nb0, cn_nb1, cn_nb2, cn_nb3, cn_bd0, cn_bds, cn_cwi, cn_cwr, cn_cwl, cn_cwn, cn_wi2, cn_wl1, cn_wl3, cn_wr1, cn_wr2, cn_wi_eq, cn_wl_eq, cb_0, cb_n0, cb_b, cm_okb0, cm_okb1, Classical.not_not, true_and, and_true, Nat.reduceAdd, Nat.reduceSub, Nat.reduceLT, Nat.reduceLeDiff, Int.reduceToNat, Int.reduceNatCast', Nat.zero_le, Nat.reduceEqDiff, false_or, or_false, or_true, true_or, Int.reduceNeg, reduceCtorEq, false_implies, implies_true, forall_const, true_implies, not_true_eq_false, not_false_eq_true, Nat.le_refl, ne_eq, if_true, if_false, ite_true, ite_false, List.cons_append, List.nil_append]
    refine ⟨a, rfl, ?_⟩
    simp only [jX4_init, kX4_init_0, fl_4_9, fl_4_21, cm_Sobj, SJ9_max_7cf53, mx, ez, en, ka, ka2, cn_iconst, cn_lconst0, cn_lconst1, cn_null, cn_iload, cn_aload, cn_lload, cn_lo1, cn_loa1, cn_loa2, cn_lol1, cn_get0, cn_gets, cn_put0, cn_puts, cn_istore, cn_astore, cn_astoreN, cn_lstore, cn_iinc, cn_in1, cn_iadd, cn_isub, cn_imul, cn_iand, cn_ior, cn_ixor, cn_ishl, cn_ishr, cn_iushr, cn_idiv, cn_irem, cn_ladd, cn_lmul, cn_ldiv, cn_lrem, cn_i2l, cn_l2i, cn_i2b, cn_lcmp, cn_dupi, cn_dupr, cn_dup2, cn_popi, cn_popr, cn_goto, cn_if_eq, cn_if_ne, cn_if_lt, cn_if_ge, cn_if_gt, cn_if_le, cn_ic_eq, cn_ic_ne, cn_ic_lt, cn_ic_ge, cn_ic_gt, cn_ic_le, cn_ifnullN, cn_ifnullR, cn_ifnonnullN, cn_ifnonnullR, cn_tswS, cn_tsw0, cn_tsw1, cn_lswS, cn_lsw0, cn_lsw1, cn_alen, cn_iaload, cn_laload, cn_rr1, cn_rr0, cn_aaload, cn_iastore, cn_lastore, cn_aastore, cn_getfield, cn_gf0, cn_gf1, cn_gf2, cn_gf3, cn_putfield, cn_pf0f, cn_pf1f, cn_pf2f, cn_pf3f, cn_pf0t, cn_pf1t, cn_pf2t, cn_pf3t, cn_new, cn_nw1, cn_newi, cn_newl, cn_anew, cn_an1, cn_inv_v, cn_inv_s, cn_inv_p, cn_ca1, cn_cb1, cn_pop0, cn_pops, cn_rk0, cn_rk1, cn_kcn, cn_kcs, cn_ireturn, cn_lreturn, cn_areturn, cn_return, cn_re0, cn_re1, cn_re2, cn_re3, cn_re4, cn_re5, cn_wp0, cn_wps, cn_m0, cn_m1, cn_e0, cn_en, cn_ei, cn_er, cn_eu, cn_el, cn_nl0, cn_nls, cn_nb0, cn_nb1, cn_nb2, cn_nb3, cn_bd0, cn_bds, cn_cwi, cn_cwr, cn_cwl, cn_cwn, cn_wi2, cn_wl1, cn_wl3, cn_wr1, cn_wr2, cn_wi_eq, cn_wl_eq, cb_0, cb_n0, cb_b, cm_okb0, cm_okb1, Classical.not_not, true_and, and_true, Nat.reduceAdd, Nat.reduceSub, Nat.reduceLT, Nat.reduceLeDiff, Int.reduceToNat, Int.reduceNatCast', Nat.zero_le, Nat.reduceEqDiff, false_or, or_false, or_true, true_or, Int.reduceNeg, reduceCtorEq, false_implies, implies_true, forall_const, true_implies, not_true_eq_false, not_false_eq_true, Nat.le_refl, ne_eq, if_true, if_false, ite_true, ite_false, List.cons_append, List.nil_append]
    refine ⟨by omega, by omega, by omega, ?_⟩
    refine hS _ _ rfl ⟨fun q hq => tn_kn (by omega), fun q hq => tn_ln (by omega), fun q hq hne => ?_, fun q hq hne => ?_, fun q hq hne => ?_⟩ (tn_ke rfl) (tn_le rfl) cn_wr_eq ?_
    · rw [cn_wr1, zm_1n (by omega), wi_r hne]
    · rw [cn_wr2, zm_2n (by omega), cn_wi2]
    · rw [wr_r hne, zm_3n (by omega), cn_wi2]
    · rw [cn_wr1, zm_1n (by omega), cn_wi_eq]
def SX1_init : cm_CT := fun as T M Φ => match as with
  | [.ref a] => T.1 a = 2 ∧ T.2.2 = a + 1 ∧ ∀ T1 M1, T1.2.2 = a + 3 → Ag (a + 1) a T M T1 M1 → TLL T1 M1.2.2 a → M1.1 (a + 2) 0 = w3 0 → Φ none T1 M1
  | _ => False
def JX1_init : cm_J := (1, true, 0, [], [], [(3, 1, 0, 0, 0, cm_Sobj)])
theorem jX1_init : JX1_init.1 = 1 ∧ JX1_init.2.1 = true ∧ JX1_init.2.2.1 = 0 ∧ cm_gp JX1_init 3 = some (1, 0, 0, 0, cm_Sobj) := ⟨rfl, rfl, rfl, rfl⟩
theorem eX1_init (d : Nat) (hd : 1 ≤ d) : cm_Cok d JX1_init := ⟨(fun q h => by cases h), (fun q h => by cases h), (List.forall_mem_cons.mpr ⟨q1_3, (fun q h => by cases h)⟩)⟩
set_option maxHeartbeats 4000000 in
theorem mX1_init (d : Nat) (hd : 1 ≤ d) : cm_Met d yX1_init cX1_init 1 none 2 241 SX1_init := by
  refine cm_meets (J := JX1_init) (by decide) rfl (fun _ => rfl) trivial ?_
  intro as T M Φ hS
  match as, hS with
  | [.ref a], ⟨ka, hT, hS⟩ =>
    refine ⟨Nat.le_of_ble_eq_true rfl, ?_⟩
    have e1 : (w3 120).toInt = 120 := by decide
    have e2 : (w3 121).toInt = 121 := by decide
    have n1 : Int.toNat 120 = 120 := rfl
    have n2 : Int.toNat 121 = 121 := rfl
    have ka1 : (cm_tn T 20 120).1 a = 2 := by rw [tn_kn (by omega)]; exact ka
    have ka2 : (cm_tn (cm_tn T 20 120) 20 121).1 a = 2 := by rw [tn_kn (by rw [tn_z]; omega)]; exact ka1
    refine cm_go hX1_init 200 oX1_init (eX1_init d hd) lX1_init_0 ?_
    simp only [jX1_init, kX1_init_0, fl_1_9, fl_1_15, fl_1_18, e1, e2, n1, n2, ka, ka1, ka2, tn_z, hT, cn_iconst, cn_lconst0, cn_lconst1, cn_null, cn_iload, cn_aload, cn_lload, cn_lo1, cn_loa1, cn_loa2, cn_lol1, cn_get0, cn_gets, cn_put0, cn_puts, cn_istore, cn_astore, cn_astoreN, cn_lstore, cn_iinc, cn_in1, cn_iadd, cn_isub, cn_imul, cn_iand, cn_ior, cn_ixor, cn_ishl, cn_ishr, cn_iushr, cn_idiv, cn_irem, cn_ladd, cn_lmul, cn_ldiv, cn_lrem, cn_i2l, cn_l2i, cn_i2b, cn_lcmp, cn_dupi, cn_dupr, cn_dup2, cn_popi, cn_popr, cn_goto, cn_if_eq, cn_if_ne, cn_if_lt, cn_if_ge, cn_if_gt, cn_if_le, cn_ic_eq, cn_ic_ne, cn_ic_lt, cn_ic_ge, cn_ic_gt, cn_ic_le, cn_ifnullN, cn_ifnullR, cn_ifnonnullN, cn_ifnonnullR, cn_tswS, cn_tsw0, cn_tsw1, cn_lswS, cn_lsw0, cn_lsw1, cn_alen, cn_iaload, cn_laload, cn_rr1, cn_rr0, cn_aaload, cn_iastore, cn_lastore, cn_aastore, cn_getfield, cn_gf0, cn_gf1, cn_gf2, cn_gf3, cn_putfield, cn_pf0f, cn_pf1f, cn_pf2f, cn_pf3f, cn_pf0t, cn_pf1t, cn_pf2t, cn_pf3t, cn_new, cn_nw1, cn_newi, cn_newl, cn_anew, cn_an1, cn_inv_v, cn_inv_s, cn_inv_p, cn_ca1, cn_cb1, cn_pop0, cn_pops, cn_rk0, cn_rk1, cn_kcn, cn_kcs, cn_ireturn, cn_lreturn, cn_areturn, cn_return, cn_re0, cn_re1, cn_re2, cn_re3, cn_re4, cn_re5, cn_wp0, cn_wps, cn_m0, cn_m1, cn_e0, cn_en, cn_ei, cn_er, cn_eu, cn_el, cn_nl0, cn_nls, cn_nb0, cn_nb1, cn_nb2, cn_nb3, cn_bd0, cn_bds, cn_cwi, cn_cwr, cn_cwl, cn_cwn, cn_wi2, cn_wl1, cn_wl3, cn_wr1, cn_wr2, cn_wi_eq, cn_wl_eq, cb_0, cb_n0, cb_b, cm_okb0, cm_okb1, Classical.not_not, true_and, and_true, Nat.reduceAdd, Nat.reduceSub, Nat.reduceLT, Nat.reduceLeDiff, Int.reduceToNat, Int.reduceNatCast', Nat.zero_le, Nat.reduceEqDiff, false_or, or_false, or_true, true_or, Int.reduceNeg, reduceCtorEq, false_implies, implies_true, forall_const, true_implies, not_true_eq_false, not_false_eq_true, Nat.le_refl, ne_eq, if_true, if_false, ite_true, ite_false, List.cons_append, List.nil_append]
    refine ⟨a, rfl, ?_⟩
    simp only [jX1_init, kX1_init_0, fl_1_9, fl_1_15, fl_1_18, e1, e2, n1, n2, ka, ka1, ka2, tn_z, hT, Int.reduceLE, cn_iconst, cn_lconst0, cn_lconst1, cn_null, cn_iload, cn_aload, cn_lload, cn_lo1, cn_loa1, cn_loa2, cn_lol1, cn_get0, cn_gets, cn_put0, cn_puts, cn_istore, cn_astore, cn_astoreN, cn_lstore, cn_iinc, cn_in1, cn_iadd, cn_isub, cn_imul, cn_iand, cn_ior, cn_ixor, cn_ishl, cn_ishr, cn_iushr, cn_idiv, cn_irem, cn_ladd, cn_lmul, cn_ldiv, cn_lrem, cn_i2l, cn_l2i, cn_i2b, cn_lcmp, cn_dupi, cn_dupr, cn_dup2, cn_popi, cn_popr, cn_goto, cn_if_eq, cn_if_ne, cn_if_lt, cn_if_ge, cn_if_gt, cn_if_le, cn_ic_eq, cn_ic_ne, cn_ic_lt, cn_ic_ge, cn_ic_gt, cn_ic_le, cn_ifnullN, cn_ifnullR, cn_ifnonnullN, cn_ifnonnullR, cn_tswS, cn_tsw0, cn_tsw1, cn_lswS, cn_lsw0, cn_lsw1, cn_alen, cn_iaload, cn_laload, cn_rr1, cn_rr0, cn_aaload, cn_iastore, cn_lastore, cn_aastore, cn_getfield, cn_gf0, cn_gf1, cn_gf2, cn_gf3, cn_putfield, cn_pf0f, cn_pf1f, cn_pf2f, cn_pf3f, cn_pf0t, cn_pf1t, cn_pf2t, cn_pf3t, cn_new, cn_nw1, cn_newi, cn_newl, cn_anew, cn_an1, cn_inv_v, cn_inv_s, cn_inv_p, cn_ca1, cn_cb1, cn_pop0, cn_pops, cn_rk0, cn_rk1, cn_kcn, cn_kcs, cn_ireturn, cn_lreturn, cn_areturn, cn_return, cn_re0, cn_re1, cn_re2, cn_re3, cn_re4, cn_re5, cn_wp0, cn_wps, cn_m0, cn_m1, cn_e0, cn_en, cn_ei, cn_er, cn_eu, cn_el, cn_nl0, cn_nls, cn_nb0, cn_nb1, cn_nb2, cn_nb3, cn_bd0, cn_bds, cn_cwi, cn_cwr, cn_cwl, cn_cwn, cn_wi2, cn_wl1, cn_wl3, cn_wr1, cn_wr2, cn_wi_eq, cn_wl_eq, cb_0, cb_n0, cb_b, cm_okb0, cm_okb1, Classical.not_not, true_and, and_true, Nat.reduceAdd, Nat.reduceSub, Nat.reduceLT, Nat.reduceLeDiff, Int.reduceToNat, Int.reduceNatCast', Nat.zero_le, Nat.reduceEqDiff, false_or, or_false, or_true, true_or, Int.reduceNeg, reduceCtorEq, false_implies, implies_true, forall_const, true_implies, not_true_eq_false, not_false_eq_true, Nat.le_refl, ne_eq, if_true, if_false, ite_true, ite_false, List.cons_append, List.nil_append]
    refine hS _ _ (by rw [tn_z, tn_z, hT]) ⟨fun q hq => ?_, fun q hq => ?_, fun q hq hne => ?_, fun q hq hne => ?_, fun q hq hne => ?_⟩ ⟨?_, ?_, ?_, ?_, ?_, ?_, ?_⟩ ?_
    · rw [tn_kn (by rw [tn_z]; omega), tn_kn (by omega)]
    · rw [tn_ln (by rw [tn_z]; omega), tn_ln (by omega)]
    · simp (disch := omega) only [tn_z, tn_ke, tn_kn, tn_le, tn_ln, zm_1e, zm_1n, zm_2e, zm_2n, zm_3e, zm_3n, wi_r, wl_r, wr_r, cn_wi2, cn_wl1, cn_wl3, cn_wr1, cn_wr2, cn_wi_eq, cn_wl_eq, cn_wr_eq, cn_wi_ne, cn_wl_ne, cn_wr_ne]
    · simp (disch := omega) only [tn_z, tn_ke, tn_kn, tn_le, tn_ln, zm_1e, zm_1n, zm_2e, zm_2n, zm_3e, zm_3n, wi_r, wl_r, wr_r, cn_wi2, cn_wl1, cn_wl3, cn_wr1, cn_wr2, cn_wi_eq, cn_wl_eq, cn_wr_eq, cn_wi_ne, cn_wl_ne, cn_wr_ne]
    · simp (disch := omega) only [tn_z, tn_ke, tn_kn, tn_le, tn_ln, zm_1e, zm_1n, zm_2e, zm_2n, zm_3e, zm_3n, wi_r, wl_r, wr_r, cn_wi2, cn_wl1, cn_wl3, cn_wr1, cn_wr2, cn_wi_eq, cn_wl_eq, cn_wr_eq, cn_wi_ne, cn_wl_ne, cn_wr_ne]
    · exact ka2
    · simp (disch := omega) only [tn_z, tn_ke, tn_kn, tn_le, tn_ln, zm_1e, zm_1n, zm_2e, zm_2n, zm_3e, zm_3n, wi_r, wl_r, wr_r, cn_wi2, cn_wl1, cn_wl3, cn_wr1, cn_wr2, cn_wi_eq, cn_wl_eq, cn_wr_eq, cn_wi_ne, cn_wl_ne, cn_wr_ne]
    · simp (disch := (first | omega | (simp only [tn_z, hT]; done) | (simp only [tn_z, hT]; omega))) only [tn_z, tn_ke, tn_kn, tn_le, tn_ln, zm_1e, zm_1n, zm_2e, zm_2n, zm_3e, zm_3n, wi_r, wl_r, wr_r, cn_wi2, cn_wl1, cn_wl3, cn_wr1, cn_wr2, cn_wi_eq, cn_wl_eq, cn_wr_eq, cn_wi_ne, cn_wl_ne, cn_wr_ne]
    · simp (disch := (first | omega | (simp only [tn_z, hT]; done) | (simp only [tn_z, hT]; omega))) only [tn_z, tn_ke, tn_kn, tn_le, tn_ln, zm_1e, zm_1n, zm_2e, zm_2n, zm_3e, zm_3n, wi_r, wl_r, wr_r, cn_wi2, cn_wl1, cn_wl3, cn_wr1, cn_wr2, cn_wi_eq, cn_wl_eq, cn_wr_eq, cn_wi_ne, cn_wl_ne, cn_wr_ne]
    · simp (disch := omega) only [tn_z, tn_ke, tn_kn, tn_le, tn_ln, zm_1e, zm_1n, zm_2e, zm_2n, zm_3e, zm_3n, wi_r, wl_r, wr_r, cn_wi2, cn_wl1, cn_wl3, cn_wr1, cn_wr2, cn_wi_eq, cn_wl_eq, cn_wr_eq, cn_wi_ne, cn_wl_ne, cn_wr_ne]
    · simp (disch := (first | omega | (simp only [tn_z, hT]; done) | (simp only [tn_z, hT]; omega))) only [tn_z, tn_ke, tn_kn, tn_le, tn_ln, zm_1e, zm_1n, zm_2e, zm_2n, zm_3e, zm_3n, wi_r, wl_r, wr_r, cn_wi2, cn_wl1, cn_wl3, cn_wr1, cn_wr2, cn_wi_eq, cn_wl_eq, cn_wr_eq, cn_wi_ne, cn_wl_ne, cn_wr_ne]
    · simp (disch := (first | omega | (simp only [tn_z, hT]; done) | (simp only [tn_z, hT]; omega))) only [tn_z, tn_ke, tn_kn, tn_le, tn_ln, zm_1e, zm_1n, zm_2e, zm_2n, zm_3e, zm_3n, wi_r, wl_r, wr_r, cn_wi2, cn_wl1, cn_wl3, cn_wr1, cn_wr2, cn_wi_eq, cn_wl_eq, cn_wr_eq, cn_wi_ne, cn_wl_ne, cn_wr_ne]
    · simp (disch := omega) only [tn_z, tn_ke, tn_kn, tn_le, tn_ln, zm_1e, zm_1n, zm_2e, zm_2n, zm_3e, zm_3n, wi_r, wl_r, wr_r, cn_wi2, cn_wl1, cn_wl3, cn_wr1, cn_wr2, cn_wi_eq, cn_wl_eq, cn_wr_eq, cn_wi_ne, cn_wl_ne, cn_wr_ne]
def SX2_init : cm_CT := fun as T M Φ => match as with
  | [.ref a] => T.1 a = 3 ∧ T.2.2 = a + 1 ∧ ∀ T1 M1, T1.2.2 = a + 2 → Ag (a + 1) a T M T1 M1 → M1.2.2 a 0 = some (a + 1) → T1.1 (a + 1) = 20 → T1.2.1 (a + 1) = 1681 → Φ none T1 M1
  | _ => False
def JX2_init : cm_J := (2, true, 0, [], [], [(3, 1, 0, 0, 0, cm_Sobj)])
theorem jX2_init : JX2_init.1 = 2 ∧ JX2_init.2.1 = true ∧ JX2_init.2.2.1 = 0 ∧ cm_gp JX2_init 3 = some (1, 0, 0, 0, cm_Sobj) := ⟨rfl, rfl, rfl, rfl⟩
theorem eX2_init (d : Nat) (hd : 1 ≤ d) : cm_Cok d JX2_init := ⟨(fun q h => by cases h), (fun q h => by cases h), (List.forall_mem_cons.mpr ⟨q2_3, (fun q h => by cases h)⟩)⟩
set_option maxHeartbeats 4000000 in
theorem mX2_init (d : Nat) (hd : 1 ≤ d) : cm_Met d yX2_init cX2_init 1 none 1 1681 SX2_init := by
  refine cm_meets (J := JX2_init) (by decide) rfl (fun _ => rfl) trivial ?_
  intro as T M Φ hS
  match as, hS with
  | [.ref a], ⟨ka, hT, hS⟩ =>
    refine ⟨Nat.le_of_ble_eq_true rfl, ?_⟩
    have e1 : (w3 1681).toInt = 1681 := by decide
    have n1 : Int.toNat 1681 = 1681 := rfl
    have ka1 : (cm_tn T 20 1681).1 a = 3 := by rw [tn_kn (by omega)]; exact ka
    refine cm_go hX2_init 200 oX2_init (eX2_init d hd) lX2_init_0 ?_
    simp only [jX2_init, kX2_init_0, fl_2_11, e1, n1, ka, ka1, tn_z, hT, cn_iconst, cn_lconst0, cn_lconst1, cn_null, cn_iload, cn_aload, cn_lload, cn_lo1, cn_loa1, cn_loa2, cn_lol1, cn_get0, cn_gets, cn_put0, cn_puts, cn_istore, cn_astore, cn_astoreN, cn_lstore, cn_iinc, cn_in1, cn_iadd, cn_isub, cn_imul, cn_iand, cn_ior, cn_ixor, cn_ishl, cn_ishr, cn_iushr, cn_idiv, cn_irem, cn_ladd, cn_lmul, cn_ldiv, cn_lrem, cn_i2l, cn_l2i, cn_i2b, cn_lcmp, cn_dupi, cn_dupr, cn_dup2, cn_popi, cn_popr, cn_goto, cn_if_eq, cn_if_ne, cn_if_lt, cn_if_ge, cn_if_gt, cn_if_le, cn_ic_eq, cn_ic_ne, cn_ic_lt, cn_ic_ge, cn_ic_gt, cn_ic_le, cn_ifnullN, cn_ifnullR, cn_ifnonnullN, cn_ifnonnullR, cn_tswS, cn_tsw0, cn_tsw1, cn_lswS, cn_lsw0, cn_lsw1, cn_alen, cn_iaload, cn_laload, cn_rr1, cn_rr0, cn_aaload, cn_iastore, cn_lastore, cn_aastore, cn_getfield, cn_gf0, cn_gf1, cn_gf2, cn_gf3, cn_putfield, cn_pf0f, cn_pf1f, cn_pf2f, cn_pf3f, cn_pf0t, cn_pf1t, cn_pf2t, cn_pf3t, cn_new, cn_nw1, cn_newi, cn_newl, cn_anew, cn_an1, cn_inv_v, cn_inv_s, cn_inv_p, cn_ca1, cn_cb1, cn_pop0, cn_pops, cn_rk0, cn_rk1, cn_kcn, cn_kcs, cn_ireturn, cn_lreturn, cn_areturn, cn_return, cn_re0, cn_re1, cn_re2, cn_re3, cn_re4, cn_re5, cn_wp0, cn_wps, cn_m0, cn_m1, cn_e0, cn_en, cn_ei, cn_er, cn_eu, cn_el, cn_nl0, cn_nls, cn_nb0, cn_nb1, cn_nb2, cn_nb3, cn_bd0, cn_bds, cn_cwi, cn_cwr, cn_cwl, cn_cwn, cn_wi2, cn_wl1, cn_wl3, cn_wr1, cn_wr2, cn_wi_eq, cn_wl_eq, cb_0, cb_n0, cb_b, cm_okb0, cm_okb1, Classical.not_not, true_and, and_true, Nat.reduceAdd, Nat.reduceSub, Nat.reduceLT, Nat.reduceLeDiff, Int.reduceToNat, Int.reduceNatCast', Nat.zero_le, Nat.reduceEqDiff, false_or, or_false, or_true, true_or, Int.reduceNeg, reduceCtorEq, false_implies, implies_true, forall_const, true_implies, not_true_eq_false, not_false_eq_true, Nat.le_refl, ne_eq, if_true, if_false, ite_true, ite_false, List.cons_append, List.nil_append]
    refine ⟨a, rfl, ?_⟩
    simp only [jX2_init, kX2_init_0, fl_2_11, e1, n1, ka, ka1, tn_z, hT, Int.reduceLE, cn_iconst, cn_lconst0, cn_lconst1, cn_null, cn_iload, cn_aload, cn_lload, cn_lo1, cn_loa1, cn_loa2, cn_lol1, cn_get0, cn_gets, cn_put0, cn_puts, cn_istore, cn_astore, cn_astoreN, cn_lstore, cn_iinc, cn_in1, cn_iadd, cn_isub, cn_imul, cn_iand, cn_ior, cn_ixor, cn_ishl, cn_ishr, cn_iushr, cn_idiv, cn_irem, cn_ladd, cn_lmul, cn_ldiv, cn_lrem, cn_i2l, cn_l2i, cn_i2b, cn_lcmp, cn_dupi, cn_dupr, cn_dup2, cn_popi, cn_popr, cn_goto, cn_if_eq, cn_if_ne, cn_if_lt, cn_if_ge, cn_if_gt, cn_if_le, cn_ic_eq, cn_ic_ne, cn_ic_lt, cn_ic_ge, cn_ic_gt, cn_ic_le, cn_ifnullN, cn_ifnullR, cn_ifnonnullN, cn_ifnonnullR, cn_tswS, cn_tsw0, cn_tsw1, cn_lswS, cn_lsw0, cn_lsw1, cn_alen, cn_iaload, cn_laload, cn_rr1, cn_rr0, cn_aaload, cn_iastore, cn_lastore, cn_aastore, cn_getfield, cn_gf0, cn_gf1, cn_gf2, cn_gf3, cn_putfield, cn_pf0f, cn_pf1f, cn_pf2f, cn_pf3f, cn_pf0t, cn_pf1t, cn_pf2t, cn_pf3t, cn_new, cn_nw1, cn_newi, cn_newl, cn_anew, cn_an1, cn_inv_v, cn_inv_s, cn_inv_p, cn_ca1, cn_cb1, cn_pop0, cn_pops, cn_rk0, cn_rk1, cn_kcn, cn_kcs, cn_ireturn, cn_lreturn, cn_areturn, cn_return, cn_re0, cn_re1, cn_re2, cn_re3, cn_re4, cn_re5, cn_wp0, cn_wps, cn_m0, cn_m1, cn_e0, cn_en, cn_ei, cn_er, cn_eu, cn_el, cn_nl0, cn_nls, cn_nb0, cn_nb1, cn_nb2, cn_nb3, cn_bd0, cn_bds, cn_cwi, cn_cwr, cn_cwl, cn_cwn, cn_wi2, cn_wl1, cn_wl3, cn_wr1, cn_wr2, cn_wi_eq, cn_wl_eq, cb_0, cb_n0, cb_b, cm_okb0, cm_okb1, Classical.not_not, true_and, and_true, Nat.reduceAdd, Nat.reduceSub, Nat.reduceLT, Nat.reduceLeDiff, Int.reduceToNat, Int.reduceNatCast', Nat.zero_le, Nat.reduceEqDiff, false_or, or_false, or_true, true_or, Int.reduceNeg, reduceCtorEq, false_implies, implies_true, forall_const, true_implies, not_true_eq_false, not_false_eq_true, Nat.le_refl, ne_eq, if_true, if_false, ite_true, ite_false, List.cons_append, List.nil_append]
    refine hS _ _ (by rw [tn_z, hT]) ⟨fun q hq => ?_, fun q hq => ?_, fun q hq hne => ?_, fun q hq hne => ?_, fun q hq hne => ?_⟩ cn_wr_eq ?_ ?_
    · rw [tn_kn (by omega)]
    · rw [tn_ln (by omega)]
    · simp (disch := omega) only [tn_z, tn_ke, tn_kn, tn_le, tn_ln, zm_1e, zm_1n, zm_2e, zm_2n, zm_3e, zm_3n, wi_r, wl_r, wr_r, cn_wi2, cn_wl1, cn_wl3, cn_wr1, cn_wr2, cn_wi_eq, cn_wl_eq, cn_wr_eq, cn_wi_ne, cn_wl_ne, cn_wr_ne]
    · simp (disch := omega) only [tn_z, tn_ke, tn_kn, tn_le, tn_ln, zm_1e, zm_1n, zm_2e, zm_2n, zm_3e, zm_3n, wi_r, wl_r, wr_r, cn_wi2, cn_wl1, cn_wl3, cn_wr1, cn_wr2, cn_wi_eq, cn_wl_eq, cn_wr_eq, cn_wi_ne, cn_wl_ne, cn_wr_ne]
    · simp (disch := omega) only [tn_z, tn_ke, tn_kn, tn_le, tn_ln, zm_1e, zm_1n, zm_2e, zm_2n, zm_3e, zm_3n, wi_r, wl_r, wr_r, cn_wi2, cn_wl1, cn_wl3, cn_wr1, cn_wr2, cn_wi_eq, cn_wl_eq, cn_wr_eq, cn_wi_ne, cn_wl_ne, cn_wr_ne]
    · simp (disch := (first | omega | (simp only [tn_z, hT]; done) | (simp only [tn_z, hT]; omega))) only [tn_z, tn_ke, tn_kn, tn_le, tn_ln, zm_1e, zm_1n, zm_2e, zm_2n, zm_3e, zm_3n, wi_r, wl_r, wr_r, cn_wi2, cn_wl1, cn_wl3, cn_wr1, cn_wr2, cn_wi_eq, cn_wl_eq, cn_wr_eq, cn_wi_ne, cn_wl_ne, cn_wr_ne]
    · simp (disch := (first | omega | (simp only [tn_z, hT]; done) | (simp only [tn_z, hT]; omega))) only [tn_z, tn_ke, tn_kn, tn_le, tn_ln, zm_1e, zm_1n, zm_2e, zm_2n, zm_3e, zm_3n, wi_r, wl_r, wr_r, cn_wi2, cn_wl1, cn_wl3, cn_wr1, cn_wr2, cn_wi_eq, cn_wl_eq, cn_wr_eq, cn_wi_ne, cn_wl_ne, cn_wr_ne]

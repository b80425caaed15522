noncomputable def st0 : St := (fun _ => none, fun _ => none, bkE, fun _ => bkE, w3 0, w6 0, w6 1, w3 0, fun _ => w3 0)
/-- the object's own cells but for its rows and texts -/
def CmH (T : cm_T) (M : cm_M) (x : Nat) : Prop := (T.1 x = 7 ∧ (M.2.2 x 0 = some (x + 1) ∧ M.2.2 x 1 = some (x + 2) ∧ M.2.2 x 2 = some (x + 3) ∧ M.2.2 x 3 = some (x + 137) ∧ M.2.2 x 4 = some (x + 138) ∧ M.2.2 x 5 = some (x + 283) ∧ M.2.2 x 6 = some (x + 291) ∧ M.2.2 x 7 = some (x + 299) ∧ M.2.2 x 8 = some (x + 302) ∧ M.2.2 x 13 = some (x + 305)) ∧ (T.1 (x + 1) = 26 ∧ T.1 (x + 2) = 26 ∧ T.1 (x + 137) = 22 ∧ T.1 (x + 305) = 20) ∧ (T.2.1 (x + 1) = 6 ∧ T.2.1 (x + 2) = 4 ∧ T.2.1 (x + 137) = 3 ∧ T.2.1 (x + 305) = 6)) ∧ (BkG T M (x + 3) ∧ bkv M (x + 3) = bkE) ∧ SCR T M x ∧ M.2.2 (x + 137) = (fun _ => none) ∧ M.1 (x + 305) = (fun _ => w3 0) ∧ M.1 x 9 = w3 0 ∧ M.2.1 x 10 = w6 0 ∧ M.2.1 x 11 = w6 1 ∧ M.1 x 12 = w3 0
theorem BkG.ag2 {T T' : cm_T} {M M' : cm_M} {β : Nat} {B : Bk} (h : BkG T M β) (hb : bkv M β = B) (h1 : ∀ q, β ≤ q → q < β + 134 → T'.1 q = T.1 q) (h2 : ∀ q, β ≤ q → q < β + 134 → T'.2.1 q = T.2.1 q) (h3 : ∀ q, β ≤ q → q < β + 134 → M'.1 q = M.1 q) (h4 : ∀ q, β ≤ q → q < β + 134 → M'.2.2 q = M.2.2 q) : BkG T' M' β ∧ bkv M' β = B := ⟨(h.ag h1 h2 h3 h4).1, (h.ag h1 h2 h3 h4).2.trans hb⟩
theorem CmH.ag {T T' : cm_T} {M M' : cm_M} {x : Nat} (h : CmH T M x) (h1 : ∀ q, x ≤ q → q < x + 306 → T'.1 q = T.1 q) (h2 : ∀ q, x ≤ q → q < x + 306 → T'.2.1 q = T.2.1 q) (h3 : ∀ q, x ≤ q → q < x + 306 → M'.1 q = M.1 q) (h4 : M'.2.1 x = M.2.1 x) (h5 : ∀ q, x ≤ q → q < x + 306 → q ≠ x + 1 → q ≠ x + 2 → M'.2.2 q = M.2.2 q) : CmH T' M' x := by
  obtain ⟨g1, ⟨g2, g3⟩, g4, g5, g6, g7, g8, g9, g10⟩ := h
  obtain ⟨b1, b2⟩ := g2.ag (T' := T') (M' := M') (fun q a b => h1 q (by omega) (by omega)) (fun q a b => h2 q (by omega) (by omega)) (fun q a b => h3 q (by omega) (by omega)) (fun q a b => h5 q (by omega) (by omega) (by omega) (by omega))
  refine ⟨?_, ⟨b1, b2.trans g3⟩, g4.ag (fun q a b => h1 q (by omega) (by omega)) (fun q a b => h2 q (by omega) (by omega)) (fun q a b => h3 q (by omega) (by omega)) (fun q a b => h5 q (by omega) (by omega) (by omega) (by omega)), ?_, ?_, ?_, ?_, ?_, ?_⟩
  · simp (disch := omega) only [h1, h2, h5]; exact g1
  · rw [h5 _ (by omega) (by omega) (by omega) (by omega)]; exact g5
  · rw [h3 _ (by omega) (by omega)]; exact g6
  · rw [h3 _ (by omega) (by omega)]; exact g7
  · rw [h4]; exact g8
  · rw [h4]; exact g9
  · rw [h3 _ (by omega) (by omega)]; exact g10
theorem SCR.mk2 {T : cm_T} {M : cm_M} {x : Nat} (h : MgH T M (x + 138)) (lv : ∀ i : Nat, i < 16 → M.2.2 (x + 141) (i : Int) = some (x + 155 + 8 * i) ∧ TrG T M (x + 155 + 8 * i)) (t1 : TrG T M (x + 283)) (t2 : TrG T M (x + 291)) (s1 : TLL T M.2.2 (x + 299)) (s2 : M.1 (x + 301) 0 = w3 0) (s3 : TLL T M.2.2 (x + 302)) (s4 : M.1 (x + 304) 0 = w3 0) : SCR T M x := ⟨h.mg, ⟨h.2.2.2.2.1, h.2.2.2.2.2, lv⟩, ⟨t1, t2⟩, s1, s2, s3, s4⟩
theorem CmH.fin {T : cm_T} {M : cm_M} {x : Nat} (h : CmH T M x) (hz : T.2.2 = x + 326) (hr : ∀ j : Nat, j < 6 → M.2.2 (x + 1) (j : Int) = some (x + 306 + 2 * j) ∧ StN T M (x + 306 + 2 * j) 40) (ht : ∀ j : Nat, j < 4 → M.2.2 (x + 2) (j : Int) = some (x + 318 + 2 * j) ∧ StN T M (x + 318 + 2 * j) 60) : CMG T M x (x + 326) ∧ cst M x = st0 := by
  obtain ⟨⟨t1, t2, t3, t4⟩, ⟨g2, g3⟩, g4, g5, g6, g7, g8, g9, g10⟩ := h
  refine ⟨⟨⟨Nat.le_refl _, by omega⟩, ⟨t1, t2, t3, t4, fun r q => ?_, fun r q => ?_⟩, g2, ⟨fun k _ a ha => ?_, fun k l _ _ _ a b ha hb => ?_⟩, g4, fun r q => ?_, fun r q => ?_⟩, St_ext (funext fun r => ?_) (funext fun r => ?_) g3 (funext fun k => ?_) g7 g8 g9 g10 (funext fun k => ?_)⟩
  · obtain ⟨a, b1, b2, b3, b4, b5⟩ := hr r q
    rw [show x + 307 + 2 * r = x + 306 + 2 * r + 1 by omega]
    exact ⟨a, b1, b2, b3, b4⟩
  · obtain ⟨a, b1, b2, b3, b4, b5⟩ := ht r q
    rw [show x + 319 + 2 * r = x + 318 + 2 * r + 1 by omega]
    exact ⟨a, b1, b2, b3, b4⟩
  · rw [g5] at ha; cases ha
  · rw [g5] at ha; cases ha
  · have := (hr r q).2.s.1
    unfold sz1
    rw [this]
    exact ⟨by decide, by decide⟩
  · have := (ht r q).2.s.1
    unfold sz1
    rw [this]
    exact ⟨by decide, by decide⟩
  · show cRw M x r = none
    unfold cRw
    by_cases q : r < 6
    · rw [if_pos q]; exact (hr r q).2.s.2
    · rw [if_neg q]
  · show cTx M x r = none
    unfold cTx
    by_cases q : r < 4
    · rw [if_pos q]; exact (ht r q).2.s.2
    · rw [if_neg q]
  · show cKq M x k = bkE
    unfold cKq cKp
    by_cases q : k < 3
    · rw [if_pos q, g5]
    · rw [if_neg q]
  · show cCt M x k = w3 0
    unfold cCt
    by_cases q : k < 6
    · rw [if_pos q, g6]
    · rw [if_neg q]
def SX6_init : cm_CT := fun as T M Φ => match as with
  | [.ref x] => T.1 x = 7 ∧ T.2.2 = x + 1 ∧ ∀ T1 M1, T1.2.2 = x + 326 → Ag (x + 1) x T M T1 M1 → CMG T1 M1 x (x + 326) → cst M1 x = st0 → Φ none T1 M1
  | _ => False
def JX6_init : cm_J := (6, true, 0, [], [], [(3, 1, 0, 0, 0, cm_Sobj), (20, 1, 1, 133, 3136, SX0_init), (31, 1, 4, 144, 5628, SX3_init), (38, 1, 6, 7, 189, SX5_init), (48, 1, 2, 2, 241, SX1_init), (74, 2, 5, 1, 60, SX4_init)])
theorem jX6_init : JX6_init.1 = 6 ∧ JX6_init.2.1 = true ∧ JX6_init.2.2.1 = 0 ∧ cm_gp JX6_init 3 = some (1, 0, 0, 0, cm_Sobj) ∧ cm_gp JX6_init 20 = some (1, 1, 133, 3136, SX0_init) ∧ cm_gp JX6_init 31 = some (1, 4, 144, 5628, SX3_init) ∧ cm_gp JX6_init 38 = some (1, 6, 7, 189, SX5_init) ∧ cm_gp JX6_init 48 = some (1, 2, 2, 241, SX1_init) ∧ cm_gp JX6_init 74 = some (2, 5, 1, 60, SX4_init) := ⟨rfl, rfl, rfl, rfl, rfl, rfl, rfl, rfl, rfl⟩
theorem eX6_init (d : Nat) (hd : 4 ≤ d) : cm_Cok d JX6_init := ⟨(fun q h => by cases h), (fun q h => by cases h), (List.forall_mem_cons.mpr ⟨q6_3, (List.forall_mem_cons.mpr ⟨q6_20 (mX0_init (d - 1) (by omega)) (by omega), (List.forall_mem_cons.mpr ⟨q6_31 (mX3_init (d - 1) (by omega)) (by omega), (List.forall_mem_cons.mpr ⟨q6_38 (mX5_init (d - 1) (by omega)) (by omega), (List.forall_mem_cons.mpr ⟨q6_48 (mX1_init (d - 1) (by omega)) (by omega), (List.forall_mem_cons.mpr ⟨q6_74 (mX4_init (d - 1) (by omega)) (by omega), (fun q h => by cases h)⟩)⟩)⟩)⟩)⟩)⟩)⟩
set_option maxHeartbeats 4000000 in
theorem l2X6_init (d : Nat) (hd : 4 ≤ d) {T : cm_T} {M : cm_M} {Φ : Option Value → cm_T → cm_M → Prop} {x : Nat} (hS : ∀ T1 M1, T1.2.2 = x + 326 → Ag (x + 1) x T M T1 M1 → CMG T1 M1 x (x + 326) → cst M1 x = st0 → Φ none T1 M1) :
    ∀ (v : Nat) (T1 : cm_T) (M1 : cm_M), v ≤ 4 → T1.2.2 = x + 318 + 2 * v → Ag (x + 1) x T M T1 M1 → CmH T1 M1 x → (∀ j : Nat, j < 6 → M1.2.2 (x + 1) (j : Int) = some (x + 306 + 2 * j) ∧ StN T1 M1 (x + 306 + 2 * j) 40) → (∀ j : Nat, j < v → M1.2.2 (x + 2) (j : Int) = some (x + 318 + 2 * j) ∧ StN T1 M1 (x + 318 + 2 * j) 60) → cm_Go d cX6_init 2 325 10289 JX6_init Φ 154 [some (.ref x), some (.int (w3 v))] [] (2 * (4 - v) + 0, 62 * (4 - v) + 0) T1 M1 := by
  intro v
  induction hf : (4 - v) using Nat.strongRecOn generalizing v with
  | _ fu ih =>
    subst hf
    intro T1 M1 k1 hz ag hH hrw hj
    obtain ⟨a1, a2, a3, a4, a5⟩ := id ag
    have kt1 := hH.1.1
    have m2 := hH.1.2.1.2.1
    have kk := hH.1.2.2.1.2.1
    have ll := hH.1.2.2.2.2.1
    by_cases hv : v < 4
    · have ef : (w3 (v : Int)).toInt = (v : Int) := w3_toInt (by omega) (by omega)
      have ixf : cm_ix (w3 (v : Int)) 4 := by rw [w3_ix (by omega) (by omega)]; exact ⟨by omega, by omega⟩
      have kn : (cm_tn T1 5 0).1 (x + 318 + 2 * v) = 5 := tn_ke hz.symm
      refine cm_go hX6_init 200 oX6_init (eX6_init d hd) lX6_init_154 ?_
      simp only [jX6_init, kX6_init_0, kX6_init_1, kl_6_9, fl_6_11, fl_6_15, kl_6_18, fl_6_21, fl_6_25, kl_6_29, fl_6_32, kl_6_36, fl_6_39, fl_6_43, kl_6_46, fl_6_49, fl_6_53, fl_6_56, fl_6_60, fl_6_64, fl_6_67, fl_6_70, kt1, m2, hz, nf4, kn, cn_ldi, cn_ldl, cn_lki1, cn_lkk1, cn_iconst, cn_lconst0, cn_lconst1, cn_null, cn_iload, cn_aload, cn_lload, cn_lo1, cn_loa1, cn_loa2, cn_lol1, cn_get0, cn_gets, cn_put0, cn_puts, cn_istore, cn_astore, cn_astoreN, cn_lstore, cn_iinc, cn_in1, cn_iadd, cn_isub, cn_imul, cn_iand, cn_ior, cn_ixor, cn_ishl, cn_ishr, cn_iushr, cn_idiv, cn_irem, cn_ladd, cn_lmul, cn_ldiv, cn_lrem, cn_i2l, cn_l2i, cn_i2b, cn_lcmp, cn_dupi, cn_dupr, cn_dup2, cn_popi, cn_popr, cn_goto, cn_if_eq, cn_if_ne, cn_if_lt, cn_if_ge, cn_if_gt, cn_if_le, cn_ic_eq, cn_ic_ne, cn_ic_lt, cn_ic_ge, cn_ic_gt, cn_ic_le, cn_ifnullN, cn_ifnullR, cn_ifnonnullN, cn_ifnonnullR, cn_tswS, cn_tsw0, cn_tsw1, cn_lswS, cn_lsw0, cn_lsw1, cn_alen, cn_iaload, cn_laload, cn_rr1, cn_rr0, cn_aaload, cn_iastore, cn_lastore, cn_aastore, cn_getfield, cn_gf0, cn_gf1, cn_gf2, cn_gf3, cn_putfield, cn_pf0f, cn_pf1f, cn_pf2f, cn_pf3f, cn_pf0t, cn_pf1t, cn_pf2t, cn_pf3t, cn_new, cn_nw1, cn_newi, cn_newl, cn_anew, cn_an1, cn_inv_v, cn_inv_s, cn_inv_p, cn_ca1, cn_cb1, cn_pop0, cn_pops, cn_rk0, cn_rk1, cn_kcn, cn_kcs, cn_ireturn, cn_lreturn, cn_areturn, cn_return, cn_re0, cn_re1, cn_re2, cn_re3, cn_re4, cn_re5, cn_wp0, cn_wps, cn_m0, cn_m1, cn_e0, cn_en, cn_ei, cn_er, cn_eu, cn_el, cn_nl0, cn_nls, cn_nb0, cn_nb1, cn_nb2, cn_nb3, cn_bd0, cn_bds, cn_cwi, cn_cwr, cn_cwl, cn_cwn, cn_wi2, cn_wl1, cn_wl3, cn_wr1, cn_wr2, cn_wi_eq, cn_wl_eq, cb_0, cb_n0, cb_b, cm_okb0, cm_okb1, Classical.not_not, true_and, and_true, Nat.reduceAdd, Nat.reduceSub, Nat.reduceLT, Nat.reduceLeDiff, Int.reduceToNat, Int.reduceNatCast', Nat.zero_le, Nat.reduceEqDiff, false_or, or_false, or_true, true_or, Int.reduceNeg, reduceCtorEq, false_implies, implies_true, forall_const, true_implies, not_true_eq_false, not_false_eq_true, Nat.le_refl, ne_eq, if_true, if_false, ite_true, ite_false, List.cons_append, List.nil_append]
      simp (disch := omega) only [w3_le]
      refine ⟨fun q => by omega, fun _ => ⟨by omega, by omega, by omega, by omega, ?_⟩⟩
      refine ⟨60, rfl, by decide, kn, by unfold ltn; rw [tn_z]; omega, fun T3 M3 z3 ag3 p1 p2 p3 p4 => ?_⟩
      have hz2 : (cm_tn T1 5 0).2.2 = x + 319 + 2 * v := by rw [tn_z]; omega
      rw [hz2] at z3 ag3 p1 p2 p3
      obtain ⟨b1, b2, b3, b4, b5⟩ := id ag3
      have q1 : T3.1 (x + 2) = 26 := by simp (disch := omega) only [b1, tn_kn, kk]
      have q2 : T3.2.1 (x + 2) = 4 := by simp (disch := omega) only [b2, tn_ln, ll]
      have q3 : T3.1 (x + 318 + 2 * v) = 5 := by rw [b1 _ (by omega)]; exact kn
      simp only [jX6_init, kX6_init_0, kX6_init_1, kl_6_9, fl_6_11, fl_6_15, kl_6_18, fl_6_21, fl_6_25, kl_6_29, fl_6_32, kl_6_36, fl_6_39, fl_6_43, kl_6_46, fl_6_49, fl_6_53, fl_6_56, fl_6_60, fl_6_64, fl_6_67, fl_6_70, q1, q2, q3, ef, ixf, w3_add, cn_ldi, cn_ldl, cn_lki1, cn_lkk1, cn_iconst, cn_lconst0, cn_lconst1, cn_null, cn_iload, cn_aload, cn_lload, cn_lo1, cn_loa1, cn_loa2, cn_lol1, cn_get0, cn_gets, cn_put0, cn_puts, cn_istore, cn_astore, cn_astoreN, cn_lstore, cn_iinc, cn_in1, cn_iadd, cn_isub, cn_imul, cn_iand, cn_ior, cn_ixor, cn_ishl, cn_ishr, cn_iushr, cn_idiv, cn_irem, cn_ladd, cn_lmul, cn_ldiv, cn_lrem, cn_i2l, cn_l2i, cn_i2b, cn_lcmp, cn_dupi, cn_dupr, cn_dup2, cn_popi, cn_popr, cn_goto, cn_if_eq, cn_if_ne, cn_if_lt, cn_if_ge, cn_if_gt, cn_if_le, cn_ic_eq, cn_ic_ne, cn_ic_lt, cn_ic_ge, cn_ic_gt, cn_ic_le, cn_ifnullN, cn_ifnullR, cn_ifnonnullN, cn_ifnonnullR, cn_tswS, cn_tsw0, cn_tsw1, cn_lswS, cn_lsw0, cn_lsw1, cn_alen, cn_iaload, cn_laload, cn_rr1, cn_rr0, cn_aaload, cn_iastore, cn_lastore, cn_aastore, cn_getfield, cn_gf0, cn_gf1, cn_gf2, cn_gf3, cn_putfield, cn_pf0f, cn_pf1f, cn_pf2f, cn_pf3f, cn_pf0t, cn_pf1t, cn_pf2t, cn_pf3t, cn_new, cn_nw1, cn_newi, cn_newl, cn_anew, cn_an1, cn_inv_v, cn_inv_s, cn_inv_p, cn_ca1, cn_cb1, cn_pop0, cn_pops, cn_rk0, cn_rk1, cn_kcn, cn_kcs, cn_ireturn, cn_lreturn, cn_areturn, cn_return, cn_re0, cn_re1, cn_re2, cn_re3, cn_re4, cn_re5, cn_wp0, cn_wps, cn_m0, cn_m1, cn_e0, cn_en, cn_ei, cn_er, cn_eu, cn_el, cn_nl0, cn_nls, cn_nb0, cn_nb1, cn_nb2, cn_nb3, cn_bd0, cn_bds, cn_cwi, cn_cwr, cn_cwl, cn_cwn, cn_wi2, cn_wl1, cn_wl3, cn_wr1, cn_wr2, cn_wi_eq, cn_wl_eq, cb_0, cb_n0, cb_b, cm_okb0, cm_okb1, Classical.not_not, true_and, and_true, Nat.reduceAdd, Nat.reduceSub, Nat.reduceLT, Nat.reduceLeDiff, Int.reduceToNat, Int.reduceNatCast', Nat.zero_le, Nat.reduceEqDiff, false_or, or_false, or_true, true_or, Int.reduceNeg, reduceCtorEq, false_implies, implies_true, forall_const, true_implies, not_true_eq_false, not_false_eq_true, Nat.le_refl, ne_eq, if_true, if_false, ite_true, ite_false, List.cons_append, List.nil_append]
      have nx := ih (4 - (v + 1)) (by omega) (v + 1) rfl T3 (cm_wr M3 (x + 2) (v : Int) (some (x + 318 + 2 * v))) (by omega) (by omega) ⟨fun q hq => ?_, fun q hq => ?_, fun q hq hne => ?_, fun q hq hne => ?_, fun q hq hne => ?_⟩ (hH.ag (fun q hq1 hq2 => ?_) (fun q hq1 hq2 => ?_) (fun q hq1 hq2 => ?_) ?_ (fun q hq1 hq2 hq3 hq4 => ?_)) (fun j hj2 => ?_) (fun j hj2 => ?_)
      · have eb : (2 * (4 - v) + 0 - 1 - 1, 62 * (4 - v) + 0 - 2 - 60) = (2 * (4 - (v + 1)) + 0, 62 * (4 - (v + 1)) + 0) := Prod.ext (by show 2 * (4 - v) + 0 - 1 - 1 = 2 * (4 - (v + 1)) + 0; omega) (by show 62 * (4 - v) + 0 - 2 - 60 = 62 * (4 - (v + 1)) + 0; omega)
        rw [eb]
        exact nx
      · simp (disch := omega) only [b1, a1, tn_kn]
      · simp (disch := omega) only [b2, a2, tn_ln]
      · simp (disch := omega) only [cn_wr1, b3, zm_1n, a3]
      · simp (disch := omega) only [cn_wr2, b4, zm_2n, a4]
      · simp (disch := omega) only [wr_r, b5, zm_3n, a5]
      · simp (disch := omega) only [b1, tn_kn]
      · simp (disch := omega) only [b2, tn_ln]
      · simp (disch := omega) only [cn_wr1, b3, zm_1n]
      · simp (disch := omega) only [cn_wr2, b4, zm_2n]
      · simp (disch := omega) only [wr_r, b5, zm_3n]
      · obtain ⟨h1, h2⟩ := hrw j hj2
        refine ⟨?_, h2.ag (fun q hq1 hq2 => ?_) (fun q hq1 hq2 => ?_) ?_ ?_⟩
        · simp (disch := omega) only [wr_r, b5, zm_3n, h1]
        · simp (disch := omega) only [b1, tn_kn]
        · simp (disch := omega) only [b2, tn_ln]
        · simp (disch := omega) only [cn_wr1, b3, zm_1n]
        · simp (disch := omega) only [wr_r, b5, zm_3n]
      · by_cases e : j = v
        · subst e
          refine ⟨cn_wr_eq, q3, ?_, ?_, ?_, ?_⟩
          · simp (disch := omega) only [wr_r]; rw [p3]; congr 1; omega
          · rw [show x + 318 + 2 * j + 1 = x + 319 + 2 * j by omega]; exact p1
          · rw [show x + 318 + 2 * j + 1 = x + 319 + 2 * j by omega]; exact p2
          · exact p4
        · obtain ⟨h1, h2⟩ := hj j (by omega)
          refine ⟨?_, h2.ag (fun q hq1 hq2 => ?_) (fun q hq1 hq2 => ?_) ?_ ?_⟩
          · simp (disch := omega) only [cn_wr_ne, b5, zm_3n, h1]
          · simp (disch := omega) only [b1, tn_kn]
          · simp (disch := omega) only [b2, tn_ln]
          · simp (disch := omega) only [cn_wr1, b3, zm_1n]
          · simp (disch := omega) only [wr_r, b5, zm_3n]
    · have e : v = 4 := by omega
      subst e
      refine cm_go hX6_init 200 oX6_init (eX6_init d hd) lX6_init_154 ?_
      simp only [jX6_init, kX6_init_0, kX6_init_1, kl_6_9, fl_6_11, fl_6_15, kl_6_18, fl_6_21, fl_6_25, kl_6_29, fl_6_32, kl_6_36, fl_6_39, fl_6_43, kl_6_46, fl_6_49, fl_6_53, fl_6_56, fl_6_60, fl_6_64, fl_6_67, fl_6_70, kt1, cn_ldi, cn_ldl, cn_lki1, cn_lkk1, cn_iconst, cn_lconst0, cn_lconst1, cn_null, cn_iload, cn_aload, cn_lload, cn_lo1, cn_loa1, cn_loa2, cn_lol1, cn_get0, cn_gets, cn_put0, cn_puts, cn_istore, cn_astore, cn_astoreN, cn_lstore, cn_iinc, cn_in1, cn_iadd, cn_isub, cn_imul, cn_iand, cn_ior, cn_ixor, cn_ishl, cn_ishr, cn_iushr, cn_idiv, cn_irem, cn_ladd, cn_lmul, cn_ldiv, cn_lrem, cn_i2l, cn_l2i, cn_i2b, cn_lcmp, cn_dupi, cn_dupr, cn_dup2, cn_popi, cn_popr, cn_goto, cn_if_eq, cn_if_ne, cn_if_lt, cn_if_ge, cn_if_gt, cn_if_le, cn_ic_eq, cn_ic_ne, cn_ic_lt, cn_ic_ge, cn_ic_gt, cn_ic_le, cn_ifnullN, cn_ifnullR, cn_ifnonnullN, cn_ifnonnullR, cn_tswS, cn_tsw0, cn_tsw1, cn_lswS, cn_lsw0, cn_lsw1, cn_alen, cn_iaload, cn_laload, cn_rr1, cn_rr0, cn_aaload, cn_iastore, cn_lastore, cn_aastore, cn_getfield, cn_gf0, cn_gf1, cn_gf2, cn_gf3, cn_putfield, cn_pf0f, cn_pf1f, cn_pf2f, cn_pf3f, cn_pf0t, cn_pf1t, cn_pf2t, cn_pf3t, cn_new, cn_nw1, cn_newi, cn_newl, cn_anew, cn_an1, cn_inv_v, cn_inv_s, cn_inv_p, cn_ca1, cn_cb1, cn_pop0, cn_pops, cn_rk0, cn_rk1, cn_kcn, cn_kcs, cn_ireturn, cn_lreturn, cn_areturn, cn_return, cn_re0, cn_re1, cn_re2, cn_re3, cn_re4, cn_re5, cn_wp0, cn_wps, cn_m0, cn_m1, cn_e0, cn_en, cn_ei, cn_er, cn_eu, cn_el, cn_nl0, cn_nls, cn_nb0, cn_nb1, cn_nb2, cn_nb3, cn_bd0, cn_bds, cn_cwi, cn_cwr, cn_cwl, cn_cwn, cn_wi2, cn_wl1, cn_wl3, cn_wr1, cn_wr2, cn_wi_eq, cn_wl_eq, cb_0, cb_n0, cb_b, cm_okb0, cm_okb1, Classical.not_not, true_and, and_true, Nat.reduceAdd, Nat.reduceSub, Nat.reduceLT, Nat.reduceLeDiff, Int.reduceToNat, Int.reduceNatCast', Nat.zero_le, Nat.reduceEqDiff, false_or, or_false, or_true, true_or, Int.reduceNeg, reduceCtorEq, false_implies, implies_true, forall_const, true_implies, not_true_eq_false, not_false_eq_true, Nat.le_refl, ne_eq, if_true, if_false, ite_true, ite_false, List.cons_append, List.nil_append]
      refine ⟨fun _ => ?_, fun q => absurd (by decide) q⟩
      obtain ⟨g1, g2⟩ := hH.fin (by omega) hrw hj
      exact hS T1 M1 (by omega) ag g1 g2
set_option maxHeartbeats 4000000 in
theorem lX6_init (d : Nat) (hd : 4 ≤ d) {T : cm_T} {M : cm_M} {Φ : Option Value → cm_T → cm_M → Prop} {x : Nat} (hS : ∀ T1 M1, T1.2.2 = x + 326 → Ag (x + 1) x T M T1 M1 → CMG T1 M1 x (x + 326) → cst M1 x = st0 → Φ none T1 M1) :
    ∀ (v : Nat) (T1 : cm_T) (M1 : cm_M), v ≤ 6 → T1.2.2 = x + 306 + 2 * v → Ag (x + 1) x T M T1 M1 → CmH T1 M1 x → (∀ j : Nat, j < v → M1.2.2 (x + 1) (j : Int) = some (x + 306 + 2 * j) ∧ StN T1 M1 (x + 306 + 2 * j) 40) → cm_Go d cX6_init 2 325 10289 JX6_init Φ 125 [some (.ref x), some (.int (w3 v))] [] (2 * (6 - v) + 8, 62 * (6 - v) + 248) T1 M1 := by
  intro v
  induction hf : (6 - v) using Nat.strongRecOn generalizing v with
  | _ fu ih =>
    subst hf
    intro T1 M1 k1 hz ag hH hj
    obtain ⟨a1, a2, a3, a4, a5⟩ := id ag
    have kt1 := hH.1.1
    have m2 := hH.1.2.1.1
    have kk := hH.1.2.2.1.1
    have ll := hH.1.2.2.2.1
    by_cases hv : v < 6
    · have ef : (w3 (v : Int)).toInt = (v : Int) := w3_toInt (by omega) (by omega)
      have ixf : cm_ix (w3 (v : Int)) 6 := by rw [w3_ix (by omega) (by omega)]; exact ⟨by omega, by omega⟩
      have kn : (cm_tn T1 5 0).1 (x + 306 + 2 * v) = 5 := tn_ke hz.symm
      refine cm_go hX6_init 200 oX6_init (eX6_init d hd) lX6_init_125 ?_
      simp only [jX6_init, kX6_init_0, kX6_init_1, kl_6_9, fl_6_11, fl_6_15, kl_6_18, fl_6_21, fl_6_25, kl_6_29, fl_6_32, kl_6_36, fl_6_39, fl_6_43, kl_6_46, fl_6_49, fl_6_53, fl_6_56, fl_6_60, fl_6_64, fl_6_67, fl_6_70, kt1, m2, hz, nf4, kn, cn_ldi, cn_ldl, cn_lki1, cn_lkk1, cn_iconst, cn_lconst0, cn_lconst1, cn_null, cn_iload, cn_aload, cn_lload, cn_lo1, cn_loa1, cn_loa2, cn_lol1, cn_get0, cn_gets, cn_put0, cn_puts, cn_istore, cn_astore, cn_astoreN, cn_lstore, cn_iinc, cn_in1, cn_iadd, cn_isub, cn_imul, cn_iand, cn_ior, cn_ixor, cn_ishl, cn_ishr, cn_iushr, cn_idiv, cn_irem, cn_ladd, cn_lmul, cn_ldiv, cn_lrem, cn_i2l, cn_l2i, cn_i2b, cn_lcmp, cn_dupi, cn_dupr, cn_dup2, cn_popi, cn_popr, cn_goto, cn_if_eq, cn_if_ne, cn_if_lt, cn_if_ge, cn_if_gt, cn_if_le, cn_ic_eq, cn_ic_ne, cn_ic_lt, cn_ic_ge, cn_ic_gt, cn_ic_le, cn_ifnullN, cn_ifnullR, cn_ifnonnullN, cn_ifnonnullR, cn_tswS, cn_tsw0, cn_tsw1, cn_lswS, cn_lsw0, cn_lsw1, cn_alen, cn_iaload, cn_laload, cn_rr1, cn_rr0, cn_aaload, cn_iastore, cn_lastore, cn_aastore, cn_getfield, cn_gf0, cn_gf1, cn_gf2, cn_gf3, cn_putfield, cn_pf0f, cn_pf1f, cn_pf2f, cn_pf3f, cn_pf0t, cn_pf1t, cn_pf2t, cn_pf3t, cn_new, cn_nw1, cn_newi, cn_newl, cn_anew, cn_an1, cn_inv_v, cn_inv_s, cn_inv_p, cn_ca1, cn_cb1, cn_pop0, cn_pops, cn_rk0, cn_rk1, cn_kcn, cn_kcs, cn_ireturn, cn_lreturn, cn_areturn, cn_return, cn_re0, cn_re1, cn_re2, cn_re3, cn_re4, cn_re5, cn_wp0, cn_wps, cn_m0, cn_m1, cn_e0, cn_en, cn_ei, cn_er, cn_eu, cn_el, cn_nl0, cn_nls, cn_nb0, cn_nb1, cn_nb2, cn_nb3, cn_bd0, cn_bds, cn_cwi, cn_cwr, cn_cwl, cn_cwn, cn_wi2, cn_wl1, cn_wl3, cn_wr1, cn_wr2, cn_wi_eq, cn_wl_eq, cb_0, cb_n0, cb_b, cm_okb0, cm_okb1, Classical.not_not, true_and, and_true, Nat.reduceAdd, Nat.reduceSub, Nat.reduceLT, Nat.reduceLeDiff, Int.reduceToNat, Int.reduceNatCast', Nat.zero_le, Nat.reduceEqDiff, false_or, or_false, or_true, true_or, Int.reduceNeg, reduceCtorEq, false_implies, implies_true, forall_const, true_implies, not_true_eq_false, not_false_eq_true, Nat.le_refl, ne_eq, if_true, if_false, ite_true, ite_false, List.cons_append, List.nil_append]
      simp (disch := omega) only [w3_le]
      refine ⟨fun q => by omega, fun _ => ⟨by omega, by omega, ?_⟩⟩
      refine ⟨40, rfl, by decide, kn, by unfold ltn; rw [tn_z]; omega, fun T3 M3 z3 ag3 p1 p2 p3 p4 => ?_⟩
      have hz2 : (cm_tn T1 5 0).2.2 = x + 307 + 2 * v := by rw [tn_z]; omega
      rw [hz2] at z3 ag3 p1 p2 p3
      obtain ⟨b1, b2, b3, b4, b5⟩ := id ag3
      have q1 : T3.1 (x + 1) = 26 := by simp (disch := omega) only [b1, tn_kn, kk]
      have q2 : T3.2.1 (x + 1) = 6 := by simp (disch := omega) only [b2, tn_ln, ll]
      have q3 : T3.1 (x + 306 + 2 * v) = 5 := by rw [b1 _ (by omega)]; exact kn
      simp only [jX6_init, kX6_init_0, kX6_init_1, kl_6_9, fl_6_11, fl_6_15, kl_6_18, fl_6_21, fl_6_25, kl_6_29, fl_6_32, kl_6_36, fl_6_39, fl_6_43, kl_6_46, fl_6_49, fl_6_53, fl_6_56, fl_6_60, fl_6_64, fl_6_67, fl_6_70, q1, q2, q3, ef, ixf, w3_add, cn_ldi, cn_ldl, cn_lki1, cn_lkk1, cn_iconst, cn_lconst0, cn_lconst1, cn_null, cn_iload, cn_aload, cn_lload, cn_lo1, cn_loa1, cn_loa2, cn_lol1, cn_get0, cn_gets, cn_put0, cn_puts, cn_istore, cn_astore, cn_astoreN, cn_lstore, cn_iinc, cn_in1, cn_iadd, cn_isub, cn_imul, cn_iand, cn_ior, cn_ixor, cn_ishl, cn_ishr, cn_iushr, cn_idiv, cn_irem, cn_ladd, cn_lmul, cn_ldiv, cn_lrem, cn_i2l, cn_l2i, cn_i2b, cn_lcmp, cn_dupi, cn_dupr, cn_dup2, cn_popi, cn_popr, cn_goto, cn_if_eq, cn_if_ne, cn_if_lt, cn_if_ge, cn_if_gt, cn_if_le, cn_ic_eq, cn_ic_ne, cn_ic_lt, cn_ic_ge, cn_ic_gt, cn_ic_le, cn_ifnullN, cn_ifnullR, cn_ifnonnullN, cn_ifnonnullR, cn_tswS, cn_tsw0, cn_tsw1, cn_lswS, cn_lsw0, cn_lsw1, cn_alen, cn_iaload, cn_laload, cn_rr1, cn_rr0, cn_aaload, cn_iastore, cn_lastore, cn_aastore, cn_getfield, cn_gf0, cn_gf1, cn_gf2, cn_gf3, cn_putfield, cn_pf0f, cn_pf1f, cn_pf2f, cn_pf3f, cn_pf0t, cn_pf1t, cn_pf2t, cn_pf3t, cn_new, cn_nw1, cn_newi, cn_newl, cn_anew, cn_an1, cn_inv_v, cn_inv_s, cn_inv_p, cn_ca1, cn_cb1, cn_pop0, cn_pops, cn_rk0, cn_rk1, cn_kcn, cn_kcs, cn_ireturn, cn_lreturn, cn_areturn, cn_return, cn_re0, cn_re1, cn_re2, cn_re3, cn_re4, cn_re5, cn_wp0, cn_wps, cn_m0, cn_m1, cn_e0, cn_en, cn_ei, cn_er, cn_eu, cn_el, cn_nl0, cn_nls, cn_nb0, cn_nb1, cn_nb2, cn_nb3, cn_bd0, cn_bds, cn_cwi, cn_cwr, cn_cwl, cn_cwn, cn_wi2, cn_wl1, cn_wl3, cn_wr1, cn_wr2, cn_wi_eq, cn_wl_eq, cb_0, cb_n0, cb_b, cm_okb0, cm_okb1, Classical.not_not, true_and, and_true, Nat.reduceAdd, Nat.reduceSub, Nat.reduceLT, Nat.reduceLeDiff, Int.reduceToNat, Int.reduceNatCast', Nat.zero_le, Nat.reduceEqDiff, false_or, or_false, or_true, true_or, Int.reduceNeg, reduceCtorEq, false_implies, implies_true, forall_const, true_implies, not_true_eq_false, not_false_eq_true, Nat.le_refl, ne_eq, if_true, if_false, ite_true, ite_false, List.cons_append, List.nil_append]
      have nx := ih (6 - (v + 1)) (by omega) (v + 1) rfl T3 (cm_wr M3 (x + 1) (v : Int) (some (x + 306 + 2 * v))) (by omega) (by omega) ⟨fun q hq => ?_, fun q hq => ?_, fun q hq hne => ?_, fun q hq hne => ?_, fun q hq hne => ?_⟩ (hH.ag (fun q hq1 hq2 => ?_) (fun q hq1 hq2 => ?_) (fun q hq1 hq2 => ?_) ?_ (fun q hq1 hq2 hq3 hq4 => ?_)) (fun j hj2 => ?_)
      · have eb : (2 * (6 - v) + 8 - 1 - 1, 62 * (6 - v) + 248 - 2 - 60) = (2 * (6 - (v + 1)) + 8, 62 * (6 - (v + 1)) + 248) := Prod.ext (by show 2 * (6 - v) + 8 - 1 - 1 = 2 * (6 - (v + 1)) + 8; omega) (by show 62 * (6 - v) + 248 - 2 - 60 = 62 * (6 - (v + 1)) + 248; omega)
        rw [eb]
        exact nx
      · simp (disch := omega) only [b1, a1, tn_kn]
      · simp (disch := omega) only [b2, a2, tn_ln]
      · simp (disch := omega) only [cn_wr1, b3, zm_1n, a3]
      · simp (disch := omega) only [cn_wr2, b4, zm_2n, a4]
      · simp (disch := omega) only [wr_r, b5, zm_3n, a5]
      · simp (disch := omega) only [b1, tn_kn]
      · simp (disch := omega) only [b2, tn_ln]
      · simp (disch := omega) only [cn_wr1, b3, zm_1n]
      · simp (disch := omega) only [cn_wr2, b4, zm_2n]
      · simp (disch := omega) only [wr_r, b5, zm_3n]
      · by_cases e : j = v
        · subst e
          refine ⟨cn_wr_eq, q3, ?_, ?_, ?_, ?_⟩
          · simp (disch := omega) only [wr_r]; rw [p3]; congr 1; omega
          · rw [show x + 306 + 2 * j + 1 = x + 307 + 2 * j by omega]; exact p1
          · rw [show x + 306 + 2 * j + 1 = x + 307 + 2 * j by omega]; exact p2
          · exact p4
        · obtain ⟨h1, h2⟩ := hj j (by omega)
          refine ⟨?_, h2.ag (fun q hq1 hq2 => ?_) (fun q hq1 hq2 => ?_) ?_ ?_⟩
          · simp (disch := omega) only [cn_wr_ne, b5, zm_3n, h1]
          · simp (disch := omega) only [b1, tn_kn]
          · simp (disch := omega) only [b2, tn_ln]
          · simp (disch := omega) only [cn_wr1, b3, zm_1n]
          · simp (disch := omega) only [wr_r, b5, zm_3n]
    · have e : v = 6 := by omega
      subst e
      refine cm_go hX6_init 200 oX6_init (eX6_init d hd) lX6_init_125 ?_
      simp only [jX6_init, kX6_init_0, kX6_init_1, kl_6_9, fl_6_11, fl_6_15, kl_6_18, fl_6_21, fl_6_25, kl_6_29, fl_6_32, kl_6_36, fl_6_39, fl_6_43, kl_6_46, fl_6_49, fl_6_53, fl_6_56, fl_6_60, fl_6_64, fl_6_67, fl_6_70, kt1, cn_ldi, cn_ldl, cn_lki1, cn_lkk1, cn_iconst, cn_lconst0, cn_lconst1, cn_null, cn_iload, cn_aload, cn_lload, cn_lo1, cn_loa1, cn_loa2, cn_lol1, cn_get0, cn_gets, cn_put0, cn_puts, cn_istore, cn_astore, cn_astoreN, cn_lstore, cn_iinc, cn_in1, cn_iadd, cn_isub, cn_imul, cn_iand, cn_ior, cn_ixor, cn_ishl, cn_ishr, cn_iushr, cn_idiv, cn_irem, cn_ladd, cn_lmul, cn_ldiv, cn_lrem, cn_i2l, cn_l2i, cn_i2b, cn_lcmp, cn_dupi, cn_dupr, cn_dup2, cn_popi, cn_popr, cn_goto, cn_if_eq, cn_if_ne, cn_if_lt, cn_if_ge, cn_if_gt, cn_if_le, cn_ic_eq, cn_ic_ne, cn_ic_lt, cn_ic_ge, cn_ic_gt, cn_ic_le, cn_ifnullN, cn_ifnullR, cn_ifnonnullN, cn_ifnonnullR, cn_tswS, cn_tsw0, cn_tsw1, cn_lswS, cn_lsw0, cn_lsw1, cn_alen, cn_iaload, cn_laload, cn_rr1, cn_rr0, cn_aaload, cn_iastore, cn_lastore, cn_aastore, cn_getfield, cn_gf0, cn_gf1, cn_gf2, cn_gf3, cn_putfield, cn_pf0f, cn_pf1f, cn_pf2f, cn_pf3f, cn_pf0t, cn_pf1t, cn_pf2t, cn_pf3t, cn_new, cn_nw1, cn_newi, cn_newl, cn_anew, cn_an1, cn_inv_v, cn_inv_s, cn_inv_p, cn_ca1, cn_cb1, cn_pop0, cn_pops, cn_rk0, cn_rk1, cn_kcn, cn_kcs, cn_ireturn, cn_lreturn, cn_areturn, cn_return, cn_re0, cn_re1, cn_re2, cn_re3, cn_re4, cn_re5, cn_wp0, cn_wps, cn_m0, cn_m1, cn_e0, cn_en, cn_ei, cn_er, cn_eu, cn_el, cn_nl0, cn_nls, cn_nb0, cn_nb1, cn_nb2, cn_nb3, cn_bd0, cn_bds, cn_cwi, cn_cwr, cn_cwl, cn_cwn, cn_wi2, cn_wl1, cn_wl3, cn_wr1, cn_wr2, cn_wi_eq, cn_wl_eq, cb_0, cb_n0, cb_b, cm_okb0, cm_okb1, Classical.not_not, true_and, and_true, Nat.reduceAdd, Nat.reduceSub, Nat.reduceLT, Nat.reduceLeDiff, Int.reduceToNat, Int.reduceNatCast', Nat.zero_le, Nat.reduceEqDiff, false_or, or_false, or_true, true_or, Int.reduceNeg, reduceCtorEq, false_implies, implies_true, forall_const, true_implies, not_true_eq_false, not_false_eq_true, Nat.le_refl, ne_eq, if_true, if_false, ite_true, ite_false, List.cons_append, List.nil_append]
      refine ⟨fun _ => ?_, fun q => absurd (by decide) q⟩
      exact l2X6_init d hd hS 0 T1 M1 (Nat.zero_le _) (by omega) ag hH hj (fun j hj2 => absurd hj2 (Nat.not_lt_zero _))
set_option maxHeartbeats 4000000 in
theorem mX6_init (d : Nat) (hd : 4 ≤ d) : cm_Met d yX6_init cX6_init 2 none 325 10289 SX6_init := by
  refine cm_meets (J := JX6_init) (by decide) rfl (fun _ => rfl) trivial ?_
  intro as T M Φ hS
  match as, hS with
  | [.ref x0], ⟨kx, hT, hS⟩ =>
    refine ⟨Nat.le_of_ble_eq_true rfl, ?_⟩
    obtain ⟨x, hx⟩ : ∃ x : Nat, x = x0 := ⟨x0, rfl⟩
    subst hx
    have w6' : (w3 6).toInt = 6 := by decide
    have w4' : (w3 4).toInt = 4 := by decide
    have w3' : (w3 3).toInt = 3 := by decide
    have n6 : Int.toNat 6 = 6 := rfl
    have n4 : Int.toNat 4 = 4 := rfl
    have n3 : Int.toNat 3 = 3 := rfl
    have x2 : x + 1 + 1 = x + 2 := rfl
    have x3 : x + 2 + 1 = x + 3 := rfl
    have x137 : x + 136 + 1 = x + 137 := rfl
    have x138 : x + 137 + 1 = x + 138 := rfl
    have x283 : x + 282 + 1 = x + 283 := rfl
    have x291 : x + 290 + 1 = x + 291 := rfl
    have x299 : x + 298 + 1 = x + 299 := rfl
    have x302 : x + 301 + 1 = x + 302 := rfl
    have x305 : x + 304 + 1 = x + 305 := rfl
    have x306 : x + 305 + 1 = x + 306 := rfl
    have h1 : (cm_tn T 26 6).2.2 = x + 2 := by rw [tn_z]; omega
    have h2 : (cm_tn (cm_tn T 26 6) 26 4).2.2 = x + 3 := by rw [tn_z]; omega
    have k1 : (cm_tn T 26 6).1 x = 7 := by rw [tn_kn (by omega)]; exact kx
    have k2 : (cm_tn (cm_tn T 26 6) 26 4).1 x = 7 := by rw [tn_kn (by omega)]; exact k1
    have kn3 : (cm_tn (cm_tn (cm_tn T 26 6) 26 4) 1 0).1 (x + 3) = 1 := tn_ke (by omega)
    refine cm_go hX6_init 200 oX6_init (eX6_init d hd) lX6_init_0 ?_
    simp only [jX6_init, kX6_init_0, kX6_init_1, kl_6_9, fl_6_11, fl_6_15, kl_6_18, fl_6_21, fl_6_25, kl_6_29, fl_6_32, kl_6_36, fl_6_39, fl_6_43, kl_6_46, fl_6_49, fl_6_53, fl_6_56, fl_6_60, fl_6_64, fl_6_67, fl_6_70, kx, hT, h1, h2, k1, k2, kn3, w6', w4', n6, n4, nf0, cn_ldi, cn_ldl, cn_lki1, cn_lkk1, cn_iconst, cn_lconst0, cn_lconst1, cn_null, cn_iload, cn_aload, cn_lload, cn_lo1, cn_loa1, cn_loa2, cn_lol1, cn_get0, cn_gets, cn_put0, cn_puts, cn_istore, cn_astore, cn_astoreN, cn_lstore, cn_iinc, cn_in1, cn_iadd, cn_isub, cn_imul, cn_iand, cn_ior, cn_ixor, cn_ishl, cn_ishr, cn_iushr, cn_idiv, cn_irem, cn_ladd, cn_lmul, cn_ldiv, cn_lrem, cn_i2l, cn_l2i, cn_i2b, cn_lcmp, cn_dupi, cn_dupr, cn_dup2, cn_popi, cn_popr, cn_goto, cn_if_eq, cn_if_ne, cn_if_lt, cn_if_ge, cn_if_gt, cn_if_le, cn_ic_eq, cn_ic_ne, cn_ic_lt, cn_ic_ge, cn_ic_gt, cn_ic_le, cn_ifnullN, cn_ifnullR, cn_ifnonnullN, cn_ifnonnullR, cn_tswS, cn_tsw0, cn_tsw1, cn_lswS, cn_lsw0, cn_lsw1, cn_alen, cn_iaload, cn_laload, cn_rr1, cn_rr0, cn_aaload, cn_iastore, cn_lastore, cn_aastore, cn_getfield, cn_gf0, cn_gf1, cn_gf2, cn_gf3, cn_putfield, cn_pf0f, cn_pf1f, cn_pf2f, cn_pf3f, cn_pf0t, cn_pf1t, cn_pf2t, cn_pf3t, cn_new, cn_nw1, cn_newi, cn_newl, cn_anew, cn_an1, cn_inv_v, cn_inv_s, cn_inv_p, cn_ca1, cn_cb1, cn_pop0, cn_pops, cn_rk0, cn_rk1, cn_kcn, cn_kcs, cn_ireturn, cn_lreturn, cn_areturn, cn_return, cn_re0, cn_re1, cn_re2, cn_re3, cn_re4, cn_re5, cn_wp0, cn_wps, cn_m0, cn_m1, cn_e0, cn_en, cn_ei, cn_er, cn_eu, cn_el, cn_nl0, cn_nls, cn_nb0, cn_nb1, cn_nb2, cn_nb3, cn_bd0, cn_bds, cn_cwi, cn_cwr, cn_cwl, cn_cwn, cn_wi2, cn_wl1, cn_wl3, cn_wr1, cn_wr2, cn_wi_eq, cn_wl_eq, cb_0, cb_n0, cb_b, cm_okb0, cm_okb1, Classical.not_not, true_and, and_true, Nat.reduceAdd, Nat.reduceSub, Nat.reduceLT, Nat.reduceLeDiff, Int.reduceToNat, Int.reduceNatCast', Nat.zero_le, Nat.reduceEqDiff, false_or, or_false, or_true, true_or, Int.reduceNeg, reduceCtorEq, false_implies, implies_true, forall_const, true_implies, not_true_eq_false, not_false_eq_true, Nat.le_refl, ne_eq, if_true, if_false, ite_true, ite_false, List.cons_append, List.nil_append]
    refine ⟨x, rfl, ?_⟩
    simp only [jX6_init, kX6_init_0, kX6_init_1, kl_6_9, fl_6_11, fl_6_15, kl_6_18, fl_6_21, fl_6_25, kl_6_29, fl_6_32, kl_6_36, fl_6_39, fl_6_43, kl_6_46, fl_6_49, fl_6_53, fl_6_56, fl_6_60, fl_6_64, fl_6_67, fl_6_70, kx, hT, h1, h2, k1, k2, kn3, w6', w4', n6, n4, nf0, Int.reduceLE, cn_ldi, cn_ldl, cn_lki1, cn_lkk1, cn_iconst, cn_lconst0, cn_lconst1, cn_null, cn_iload, cn_aload, cn_lload, cn_lo1, cn_loa1, cn_loa2, cn_lol1, cn_get0, cn_gets, cn_put0, cn_puts, cn_istore, cn_astore, cn_astoreN, cn_lstore, cn_iinc, cn_in1, cn_iadd, cn_isub, cn_imul, cn_iand, cn_ior, cn_ixor, cn_ishl, cn_ishr, cn_iushr, cn_idiv, cn_irem, cn_ladd, cn_lmul, cn_ldiv, cn_lrem, cn_i2l, cn_l2i, cn_i2b, cn_lcmp, cn_dupi, cn_dupr, cn_dup2, cn_popi, cn_popr, cn_goto, cn_if_eq, cn_if_ne, cn_if_lt, cn_if_ge, cn_if_gt, cn_if_le, cn_ic_eq, cn_ic_ne, cn_ic_lt, cn_ic_ge, cn_ic_gt, cn_ic_le, cn_ifnullN, cn_ifnullR, cn_ifnonnullN, cn_ifnonnullR, cn_tswS, cn_tsw0, cn_tsw1, cn_lswS, cn_lsw0, cn_lsw1, cn_alen, cn_iaload, cn_laload, cn_rr1, cn_rr0, cn_aaload, cn_iastore, cn_lastore, cn_aastore, cn_getfield, cn_gf0, cn_gf1, cn_gf2, cn_gf3, cn_putfield, cn_pf0f, cn_pf1f, cn_pf2f, cn_pf3f, cn_pf0t, cn_pf1t, cn_pf2t, cn_pf3t, cn_new, cn_nw1, cn_newi, cn_newl, cn_anew, cn_an1, cn_inv_v, cn_inv_s, cn_inv_p, cn_ca1, cn_cb1, cn_pop0, cn_pops, cn_rk0, cn_rk1, cn_kcn, cn_kcs, cn_ireturn, cn_lreturn, cn_areturn, cn_return, cn_re0, cn_re1, cn_re2, cn_re3, cn_re4, cn_re5, cn_wp0, cn_wps, cn_m0, cn_m1, cn_e0, cn_en, cn_ei, cn_er, cn_eu, cn_el, cn_nl0, cn_nls, cn_nb0, cn_nb1, cn_nb2, cn_nb3, cn_bd0, cn_bds, cn_cwi, cn_cwr, cn_cwl, cn_cwn, cn_wi2, cn_wl1, cn_wl3, cn_wr1, cn_wr2, cn_wi_eq, cn_wl_eq, cb_0, cb_n0, cb_b, cm_okb0, cm_okb1, Classical.not_not, true_and, and_true, Nat.reduceAdd, Nat.reduceSub, Nat.reduceLT, Nat.reduceLeDiff, Int.reduceToNat, Int.reduceNatCast', Nat.zero_le, Nat.reduceEqDiff, false_or, or_false, or_true, true_or, Int.reduceNeg, reduceCtorEq, false_implies, implies_true, forall_const, true_implies, not_true_eq_false, not_false_eq_true, Nat.le_refl, ne_eq, if_true, if_false, ite_true, ite_false, List.cons_append, List.nil_append]
    refine ⟨kn3, by rw [tn_z, h2], fun T1 M1 z1 ag1 p1 p2 => ?_⟩
    have z1 : T1.2.2 = x + 137 := z1
    obtain ⟨a1, a2, a3, a4, a5⟩ := id ag1
    have q1 : T1.1 x = 7 := by rw [a1 _ (by omega), tn_kn (by omega)]; exact k2
    have q2 : (cm_tn T1 22 3).1 x = 7 := by rw [tn_kn (by omega)]; exact q1
    have kn138 : (cm_tn (cm_tn T1 22 3) 4 0).1 (x + 138) = 4 := tn_ke (by rw [tn_z, z1])
    simp only [jX6_init, kX6_init_0, kX6_init_1, kl_6_9, fl_6_11, fl_6_15, kl_6_18, fl_6_21, fl_6_25, kl_6_29, fl_6_32, kl_6_36, fl_6_39, fl_6_43, kl_6_46, fl_6_49, fl_6_53, fl_6_56, fl_6_60, fl_6_64, fl_6_67, fl_6_70, q1, q2, z1, tn_z, kn138, w3', n3, nf3, Int.reduceLE, x2, x3, x137, x138, x283, x291, x299, x302, x305, x306, cn_ldi, cn_ldl, cn_lki1, cn_lkk1, cn_iconst, cn_lconst0, cn_lconst1, cn_null, cn_iload, cn_aload, cn_lload, cn_lo1, cn_loa1, cn_loa2, cn_lol1, cn_get0, cn_gets, cn_put0, cn_puts, cn_istore, cn_astore, cn_astoreN, cn_lstore, cn_iinc, cn_in1, cn_iadd, cn_isub, cn_imul, cn_iand, cn_ior, cn_ixor, cn_ishl, cn_ishr, cn_iushr, cn_idiv, cn_irem, cn_ladd, cn_lmul, cn_ldiv, cn_lrem, cn_i2l, cn_l2i, cn_i2b, cn_lcmp, cn_dupi, cn_dupr, cn_dup2, cn_popi, cn_popr, cn_goto, cn_if_eq, cn_if_ne, cn_if_lt, cn_if_ge, cn_if_gt, cn_if_le, cn_ic_eq, cn_ic_ne, cn_ic_lt, cn_ic_ge, cn_ic_gt, cn_ic_le, cn_ifnullN, cn_ifnullR, cn_ifnonnullN, cn_ifnonnullR, cn_tswS, cn_tsw0, cn_tsw1, cn_lswS, cn_lsw0, cn_lsw1, cn_alen, cn_iaload, cn_laload, cn_rr1, cn_rr0, cn_aaload, cn_iastore, cn_lastore, cn_aastore, cn_getfield, cn_gf0, cn_gf1, cn_gf2, cn_gf3, cn_putfield, cn_pf0f, cn_pf1f, cn_pf2f, cn_pf3f, cn_pf0t, cn_pf1t, cn_pf2t, cn_pf3t, cn_new, cn_nw1, cn_newi, cn_newl, cn_anew, cn_an1, cn_inv_v, cn_inv_s, cn_inv_p, cn_ca1, cn_cb1, cn_pop0, cn_pops, cn_rk0, cn_rk1, cn_kcn, cn_kcs, cn_ireturn, cn_lreturn, cn_areturn, cn_return, cn_re0, cn_re1, cn_re2, cn_re3, cn_re4, cn_re5, cn_wp0, cn_wps, cn_m0, cn_m1, cn_e0, cn_en, cn_ei, cn_er, cn_eu, cn_el, cn_nl0, cn_nls, cn_nb0, cn_nb1, cn_nb2, cn_nb3, cn_bd0, cn_bds, cn_cwi, cn_cwr, cn_cwl, cn_cwn, cn_wi2, cn_wl1, cn_wl3, cn_wr1, cn_wr2, cn_wi_eq, cn_wl_eq, cb_0, cb_n0, cb_b, cm_okb0, cm_okb1, Classical.not_not, true_and, and_true, Nat.reduceAdd, Nat.reduceSub, Nat.reduceLT, Nat.reduceLeDiff, Int.reduceToNat, Int.reduceNatCast', Nat.zero_le, Nat.reduceEqDiff, false_or, or_false, or_true, true_or, Int.reduceNeg, reduceCtorEq, false_implies, implies_true, forall_const, true_implies, not_true_eq_false, not_false_eq_true, Nat.le_refl, ne_eq, if_true, if_false, ite_true, ite_false, List.cons_append, List.nil_append]
    refine ⟨kn138, by rw [tn_z, tn_z, z1], fun T2 M2 z2 ag2 p3 p4 => ?_⟩
    have z2 : T2.2.2 = x + 283 := z2
    obtain ⟨b1, b2, b3, b4, b5⟩ := id ag2
    have q3 : T2.1 x = 7 := by rw [b1 _ (by omega), tn_kn (by rw [tn_z]; omega)]; exact q2
    have kn283 : (cm_tn T2 6 0).1 (x + 283) = 6 := tn_ke z2.symm
    simp only [jX6_init, kX6_init_0, kX6_init_1, kl_6_9, fl_6_11, fl_6_15, kl_6_18, fl_6_21, fl_6_25, kl_6_29, fl_6_32, kl_6_36, fl_6_39, fl_6_43, kl_6_46, fl_6_49, fl_6_53, fl_6_56, fl_6_60, fl_6_64, fl_6_67, fl_6_70, q3, z2, tn_z, kn283, nf5, Int.reduceLE, x2, x3, x137, x138, x283, x291, x299, x302, x305, x306, cn_ldi, cn_ldl, cn_lki1, cn_lkk1, cn_iconst, cn_lconst0, cn_lconst1, cn_null, cn_iload, cn_aload, cn_lload, cn_lo1, cn_loa1, cn_loa2, cn_lol1, cn_get0, cn_gets, cn_put0, cn_puts, cn_istore, cn_astore, cn_astoreN, cn_lstore, cn_iinc, cn_in1, cn_iadd, cn_isub, cn_imul, cn_iand, cn_ior, cn_ixor, cn_ishl, cn_ishr, cn_iushr, cn_idiv, cn_irem, cn_ladd, cn_lmul, cn_ldiv, cn_lrem, cn_i2l, cn_l2i, cn_i2b, cn_lcmp, cn_dupi, cn_dupr, cn_dup2, cn_popi, cn_popr, cn_goto, cn_if_eq, cn_if_ne, cn_if_lt, cn_if_ge, cn_if_gt, cn_if_le, cn_ic_eq, cn_ic_ne, cn_ic_lt, cn_ic_ge, cn_ic_gt, cn_ic_le, cn_ifnullN, cn_ifnullR, cn_ifnonnullN, cn_ifnonnullR, cn_tswS, cn_tsw0, cn_tsw1, cn_lswS, cn_lsw0, cn_lsw1, cn_alen, cn_iaload, cn_laload, cn_rr1, cn_rr0, cn_aaload, cn_iastore, cn_lastore, cn_aastore, cn_getfield, cn_gf0, cn_gf1, cn_gf2, cn_gf3, cn_putfield, cn_pf0f, cn_pf1f, cn_pf2f, cn_pf3f, cn_pf0t, cn_pf1t, cn_pf2t, cn_pf3t, cn_new, cn_nw1, cn_newi, cn_newl, cn_anew, cn_an1, cn_inv_v, cn_inv_s, cn_inv_p, cn_ca1, cn_cb1, cn_pop0, cn_pops, cn_rk0, cn_rk1, cn_kcn, cn_kcs, cn_ireturn, cn_lreturn, cn_areturn, cn_return, cn_re0, cn_re1, cn_re2, cn_re3, cn_re4, cn_re5, cn_wp0, cn_wps, cn_m0, cn_m1, cn_e0, cn_en, cn_ei, cn_er, cn_eu, cn_el, cn_nl0, cn_nls, cn_nb0, cn_nb1, cn_nb2, cn_nb3, cn_bd0, cn_bds, cn_cwi, cn_cwr, cn_cwl, cn_cwn, cn_wi2, cn_wl1, cn_wl3, cn_wr1, cn_wr2, cn_wi_eq, cn_wl_eq, cb_0, cb_n0, cb_b, cm_okb0, cm_okb1, Classical.not_not, true_and, and_true, Nat.reduceAdd, Nat.reduceSub, Nat.reduceLT, Nat.reduceLeDiff, Int.reduceToNat, Int.reduceNatCast', Nat.zero_le, Nat.reduceEqDiff, false_or, or_false, or_true, true_or, Int.reduceNeg, reduceCtorEq, false_implies, implies_true, forall_const, true_implies, not_true_eq_false, not_false_eq_true, Nat.le_refl, ne_eq, if_true, if_false, ite_true, ite_false, List.cons_append, List.nil_append]
    refine ⟨kn283, by rw [tn_z, z2], fun T3 M3 z3 ag3 p5 p5' => ?_⟩
    have z3 : T3.2.2 = x + 291 := z3
    obtain ⟨c1, c2, c3, c4, c5⟩ := id ag3
    have q4 : T3.1 x = 7 := by rw [c1 _ (by omega), tn_kn (by omega)]; exact q3
    have kn291 : (cm_tn T3 6 0).1 (x + 291) = 6 := tn_ke z3.symm
    simp only [jX6_init, kX6_init_0, kX6_init_1, kl_6_9, fl_6_11, fl_6_15, kl_6_18, fl_6_21, fl_6_25, kl_6_29, fl_6_32, kl_6_36, fl_6_39, fl_6_43, kl_6_46, fl_6_49, fl_6_53, fl_6_56, fl_6_60, fl_6_64, fl_6_67, fl_6_70, q4, z3, tn_z, kn291, nf5, Int.reduceLE, x2, x3, x137, x138, x283, x291, x299, x302, x305, x306, cn_ldi, cn_ldl, cn_lki1, cn_lkk1, cn_iconst, cn_lconst0, cn_lconst1, cn_null, cn_iload, cn_aload, cn_lload, cn_lo1, cn_loa1, cn_loa2, cn_lol1, cn_get0, cn_gets, cn_put0, cn_puts, cn_istore, cn_astore, cn_astoreN, cn_lstore, cn_iinc, cn_in1, cn_iadd, cn_isub, cn_imul, cn_iand, cn_ior, cn_ixor, cn_ishl, cn_ishr, cn_iushr, cn_idiv, cn_irem, cn_ladd, cn_lmul, cn_ldiv, cn_lrem, cn_i2l, cn_l2i, cn_i2b, cn_lcmp, cn_dupi, cn_dupr, cn_dup2, cn_popi, cn_popr, cn_goto, cn_if_eq, cn_if_ne, cn_if_lt, cn_if_ge, cn_if_gt, cn_if_le, cn_ic_eq, cn_ic_ne, cn_ic_lt, cn_ic_ge, cn_ic_gt, cn_ic_le, cn_ifnullN, cn_ifnullR, cn_ifnonnullN, cn_ifnonnullR, cn_tswS, cn_tsw0, cn_tsw1, cn_lswS, cn_lsw0, cn_lsw1, cn_alen, cn_iaload, cn_laload, cn_rr1, cn_rr0, cn_aaload, cn_iastore, cn_lastore, cn_aastore, cn_getfield, cn_gf0, cn_gf1, cn_gf2, cn_gf3, cn_putfield, cn_pf0f, cn_pf1f, cn_pf2f, cn_pf3f, cn_pf0t, cn_pf1t, cn_pf2t, cn_pf3t, cn_new, cn_nw1, cn_newi, cn_newl, cn_anew, cn_an1, cn_inv_v, cn_inv_s, cn_inv_p, cn_ca1, cn_cb1, cn_pop0, cn_pops, cn_rk0, cn_rk1, cn_kcn, cn_kcs, cn_ireturn, cn_lreturn, cn_areturn, cn_return, cn_re0, cn_re1, cn_re2, cn_re3, cn_re4, cn_re5, cn_wp0, cn_wps, cn_m0, cn_m1, cn_e0, cn_en, cn_ei, cn_er, cn_eu, cn_el, cn_nl0, cn_nls, cn_nb0, cn_nb1, cn_nb2, cn_nb3, cn_bd0, cn_bds, cn_cwi, cn_cwr, cn_cwl, cn_cwn, cn_wi2, cn_wl1, cn_wl3, cn_wr1, cn_wr2, cn_wi_eq, cn_wl_eq, cb_0, cb_n0, cb_b, cm_okb0, cm_okb1, Classical.not_not, true_and, and_true, Nat.reduceAdd, Nat.reduceSub, Nat.reduceLT, Nat.reduceLeDiff, Int.reduceToNat, Int.reduceNatCast', Nat.zero_le, Nat.reduceEqDiff, false_or, or_false, or_true, true_or, Int.reduceNeg, reduceCtorEq, false_implies, implies_true, forall_const, true_implies, not_true_eq_false, not_false_eq_true, Nat.le_refl, ne_eq, if_true, if_false, ite_true, ite_false, List.cons_append, List.nil_append]
    refine ⟨kn291, by rw [tn_z, z3], fun T4 M4 z4 ag4 p6 p6' => ?_⟩
    have z4 : T4.2.2 = x + 299 := z4
    obtain ⟨d1, d2, d3, d4, d5⟩ := id ag4
    have q5 : T4.1 x = 7 := by rw [d1 _ (by omega), tn_kn (by omega)]; exact q4
    have kn299 : (cm_tn T4 2 0).1 (x + 299) = 2 := tn_ke z4.symm
    simp only [jX6_init, kX6_init_0, kX6_init_1, kl_6_9, fl_6_11, fl_6_15, kl_6_18, fl_6_21, fl_6_25, kl_6_29, fl_6_32, kl_6_36, fl_6_39, fl_6_43, kl_6_46, fl_6_49, fl_6_53, fl_6_56, fl_6_60, fl_6_64, fl_6_67, fl_6_70, q5, z4, tn_z, kn299, nf1, Int.reduceLE, x2, x3, x137, x138, x283, x291, x299, x302, x305, x306, cn_ldi, cn_ldl, cn_lki1, cn_lkk1, cn_iconst, cn_lconst0, cn_lconst1, cn_null, cn_iload, cn_aload, cn_lload, cn_lo1, cn_loa1, cn_loa2, cn_lol1, cn_get0, cn_gets, cn_put0, cn_puts, cn_istore, cn_astore, cn_astoreN, cn_lstore, cn_iinc, cn_in1, cn_iadd, cn_isub, cn_imul, cn_iand, cn_ior, cn_ixor, cn_ishl, cn_ishr, cn_iushr, cn_idiv, cn_irem, cn_ladd, cn_lmul, cn_ldiv, cn_lrem, cn_i2l, cn_l2i, cn_i2b, cn_lcmp, cn_dupi, cn_dupr, cn_dup2, cn_popi, cn_popr, cn_goto, cn_if_eq, cn_if_ne, cn_if_lt, cn_if_ge, cn_if_gt, cn_if_le, cn_ic_eq, cn_ic_ne, cn_ic_lt, cn_ic_ge, cn_ic_gt, cn_ic_le, cn_ifnullN, cn_ifnullR, cn_ifnonnullN, cn_ifnonnullR, cn_tswS, cn_tsw0, cn_tsw1, cn_lswS, cn_lsw0, cn_lsw1, cn_alen, cn_iaload, cn_laload, cn_rr1, cn_rr0, cn_aaload, cn_iastore, cn_lastore, cn_aastore, cn_getfield, cn_gf0, cn_gf1, cn_gf2, cn_gf3, cn_putfield, cn_pf0f, cn_pf1f, cn_pf2f, cn_pf3f, cn_pf0t, cn_pf1t, cn_pf2t, cn_pf3t, cn_new, cn_nw1, cn_newi, cn_newl, cn_anew, cn_an1, cn_inv_v, cn_inv_s, cn_inv_p, cn_ca1, cn_cb1, cn_pop0, cn_pops, cn_rk0, cn_rk1, cn_kcn, cn_kcs, cn_ireturn, cn_lreturn, cn_areturn, cn_return, cn_re0, cn_re1, cn_re2, cn_re3, cn_re4, cn_re5, cn_wp0, cn_wps, cn_m0, cn_m1, cn_e0, cn_en, cn_ei, cn_er, cn_eu, cn_el, cn_nl0, cn_nls, cn_nb0, cn_nb1, cn_nb2, cn_nb3, cn_bd0, cn_bds, cn_cwi, cn_cwr, cn_cwl, cn_cwn, cn_wi2, cn_wl1, cn_wl3, cn_wr1, cn_wr2, cn_wi_eq, cn_wl_eq, cb_0, cb_n0, cb_b, cm_okb0, cm_okb1, Classical.not_not, true_and, and_true, Nat.reduceAdd, Nat.reduceSub, Nat.reduceLT, Nat.reduceLeDiff, Int.reduceToNat, Int.reduceNatCast', Nat.zero_le, Nat.reduceEqDiff, false_or, or_false, or_true, true_or, Int.reduceNeg, reduceCtorEq, false_implies, implies_true, forall_const, true_implies, not_true_eq_false, not_false_eq_true, Nat.le_refl, ne_eq, if_true, if_false, ite_true, ite_false, List.cons_append, List.nil_append]
    refine ⟨kn299, by rw [tn_z, z4], fun T5 M5 z5 ag5 p7 p7' => ?_⟩
    have z5 : T5.2.2 = x + 302 := z5
    obtain ⟨e1, e2, e3, e4, e5⟩ := id ag5
    have q6 : T5.1 x = 7 := by rw [e1 _ (by omega), tn_kn (by omega)]; exact q5
    have kn302 : (cm_tn T5 2 0).1 (x + 302) = 2 := tn_ke z5.symm
    simp only [jX6_init, kX6_init_0, kX6_init_1, kl_6_9, fl_6_11, fl_6_15, kl_6_18, fl_6_21, fl_6_25, kl_6_29, fl_6_32, kl_6_36, fl_6_39, fl_6_43, kl_6_46, fl_6_49, fl_6_53, fl_6_56, fl_6_60, fl_6_64, fl_6_67, fl_6_70, q6, z5, tn_z, kn302, nf1, Int.reduceLE, x2, x3, x137, x138, x283, x291, x299, x302, x305, x306, cn_ldi, cn_ldl, cn_lki1, cn_lkk1, cn_iconst, cn_lconst0, cn_lconst1, cn_null, cn_iload, cn_aload, cn_lload, cn_lo1, cn_loa1, cn_loa2, cn_lol1, cn_get0, cn_gets, cn_put0, cn_puts, cn_istore, cn_astore, cn_astoreN, cn_lstore, cn_iinc, cn_in1, cn_iadd, cn_isub, cn_imul, cn_iand, cn_ior, cn_ixor, cn_ishl, cn_ishr, cn_iushr, cn_idiv, cn_irem, cn_ladd, cn_lmul, cn_ldiv, cn_lrem, cn_i2l, cn_l2i, cn_i2b, cn_lcmp, cn_dupi, cn_dupr, cn_dup2, cn_popi, cn_popr, cn_goto, cn_if_eq, cn_if_ne, cn_if_lt, cn_if_ge, cn_if_gt, cn_if_le, cn_ic_eq, cn_ic_ne, cn_ic_lt, cn_ic_ge, cn_ic_gt, cn_ic_le, cn_ifnullN, cn_ifnullR, cn_ifnonnullN, cn_ifnonnullR, cn_tswS, cn_tsw0, cn_tsw1, cn_lswS, cn_lsw0, cn_lsw1, cn_alen, cn_iaload, cn_laload, cn_rr1, cn_rr0, cn_aaload, cn_iastore, cn_lastore, cn_aastore, cn_getfield, cn_gf0, cn_gf1, cn_gf2, cn_gf3, cn_putfield, cn_pf0f, cn_pf1f, cn_pf2f, cn_pf3f, cn_pf0t, cn_pf1t, cn_pf2t, cn_pf3t, cn_new, cn_nw1, cn_newi, cn_newl, cn_anew, cn_an1, cn_inv_v, cn_inv_s, cn_inv_p, cn_ca1, cn_cb1, cn_pop0, cn_pops, cn_rk0, cn_rk1, cn_kcn, cn_kcs, cn_ireturn, cn_lreturn, cn_areturn, cn_return, cn_re0, cn_re1, cn_re2, cn_re3, cn_re4, cn_re5, cn_wp0, cn_wps, cn_m0, cn_m1, cn_e0, cn_en, cn_ei, cn_er, cn_eu, cn_el, cn_nl0, cn_nls, cn_nb0, cn_nb1, cn_nb2, cn_nb3, cn_bd0, cn_bds, cn_cwi, cn_cwr, cn_cwl, cn_cwn, cn_wi2, cn_wl1, cn_wl3, cn_wr1, cn_wr2, cn_wi_eq, cn_wl_eq, cb_0, cb_n0, cb_b, cm_okb0, cm_okb1, Classical.not_not, true_and, and_true, Nat.reduceAdd, Nat.reduceSub, Nat.reduceLT, Nat.reduceLeDiff, Int.reduceToNat, Int.reduceNatCast', Nat.zero_le, Nat.reduceEqDiff, false_or, or_false, or_true, true_or, Int.reduceNeg, reduceCtorEq, false_implies, implies_true, forall_const, true_implies, not_true_eq_false, not_false_eq_true, Nat.le_refl, ne_eq, if_true, if_false, ite_true, ite_false, List.cons_append, List.nil_append]
    refine ⟨kn302, by rw [tn_z, z5], fun T6 M6 z6 ag6 p8 p8' => ?_⟩
    have z6 : T6.2.2 = x + 305 := z6
    obtain ⟨f1, f2, f3, f4, f5⟩ := id ag6
    have q7 : T6.1 x = 7 := by rw [f1 _ (by omega), tn_kn (by omega)]; exact q6
    have q8 : (cm_tn T6 20 6).1 x = 7 := by rw [tn_kn (by omega)]; exact q7
    simp only [jX6_init, kX6_init_0, kX6_init_1, kl_6_9, fl_6_11, fl_6_15, kl_6_18, fl_6_21, fl_6_25, kl_6_29, fl_6_32, kl_6_36, fl_6_39, fl_6_43, kl_6_46, fl_6_49, fl_6_53, fl_6_56, fl_6_60, fl_6_64, fl_6_67, fl_6_70, q7, q8, z6, tn_z, w6', n6, Int.reduceLE, x2, x3, x137, x138, x283, x291, x299, x302, x305, x306, cn_ldi, cn_ldl, cn_lki1, cn_lkk1, cn_iconst, cn_lconst0, cn_lconst1, cn_null, cn_iload, cn_aload, cn_lload, cn_lo1, cn_loa1, cn_loa2, cn_lol1, cn_get0, cn_gets, cn_put0, cn_puts, cn_istore, cn_astore, cn_astoreN, cn_lstore, cn_iinc, cn_in1, cn_iadd, cn_isub, cn_imul, cn_iand, cn_ior, cn_ixor, cn_ishl, cn_ishr, cn_iushr, cn_idiv, cn_irem, cn_ladd, cn_lmul, cn_ldiv, cn_lrem, cn_i2l, cn_l2i, cn_i2b, cn_lcmp, cn_dupi, cn_dupr, cn_dup2, cn_popi, cn_popr, cn_goto, cn_if_eq, cn_if_ne, cn_if_lt, cn_if_ge, cn_if_gt, cn_if_le, cn_ic_eq, cn_ic_ne, cn_ic_lt, cn_ic_ge, cn_ic_gt, cn_ic_le, cn_ifnullN, cn_ifnullR, cn_ifnonnullN, cn_ifnonnullR, cn_tswS, cn_tsw0, cn_tsw1, cn_lswS, cn_lsw0, cn_lsw1, cn_alen, cn_iaload, cn_laload, cn_rr1, cn_rr0, cn_aaload, cn_iastore, cn_lastore, cn_aastore, cn_getfield, cn_gf0, cn_gf1, cn_gf2, cn_gf3, cn_putfield, cn_pf0f, cn_pf1f, cn_pf2f, cn_pf3f, cn_pf0t, cn_pf1t, cn_pf2t, cn_pf3t, cn_new, cn_nw1, cn_newi, cn_newl, cn_anew, cn_an1, cn_inv_v, cn_inv_s, cn_inv_p, cn_ca1, cn_cb1, cn_pop0, cn_pops, cn_rk0, cn_rk1, cn_kcn, cn_kcs, cn_ireturn, cn_lreturn, cn_areturn, cn_return, cn_re0, cn_re1, cn_re2, cn_re3, cn_re4, cn_re5, cn_wp0, cn_wps, cn_m0, cn_m1, cn_e0, cn_en, cn_ei, cn_er, cn_eu, cn_el, cn_nl0, cn_nls, cn_nb0, cn_nb1, cn_nb2, cn_nb3, cn_bd0, cn_bds, cn_cwi, cn_cwr, cn_cwl, cn_cwn, cn_wi2, cn_wl1, cn_wl3, cn_wr1, cn_wr2, cn_wi_eq, cn_wl_eq, cb_0, cb_n0, cb_b, cm_okb0, cm_okb1, Classical.not_not, true_and, and_true, Nat.reduceAdd, Nat.reduceSub, Nat.reduceLT, Nat.reduceLeDiff, Int.reduceToNat, Int.reduceNatCast', Nat.zero_le, Nat.reduceEqDiff, false_or, or_false, or_true, true_or, Int.reduceNeg, reduceCtorEq, false_implies, implies_true, forall_const, true_implies, not_true_eq_false, not_false_eq_true, Nat.le_refl, ne_eq, if_true, if_false, ite_true, ite_false, List.cons_append, List.nil_append]
    have W6 : ∀ q, q < x + 305 → q ≠ x → (cm_tn T6 20 6).1 q = T6.1 q ∧ (cm_tn T6 20 6).2.1 q = T6.2.1 q ∧ (cm_wr (cm_zm (cm_wi (cm_wl (cm_wl (cm_wi (cm_wr M6 x 8 (some (x + 302))) x 9 (w3 0)) x 10 (w6 0)) x 11 (w6 1)) x 12 (w3 0)) (x + 305)) x 13 (some (x + 305))).1 q = M6.1 q ∧ (cm_wr (cm_zm (cm_wi (cm_wl (cm_wl (cm_wi (cm_wr M6 x 8 (some (x + 302))) x 9 (w3 0)) x 10 (w6 0)) x 11 (w6 1)) x 12 (w3 0)) (x + 305)) x 13 (some (x + 305))).2.1 q = M6.2.1 q ∧ (cm_wr (cm_zm (cm_wi (cm_wl (cm_wl (cm_wi (cm_wr M6 x 8 (some (x + 302))) x 9 (w3 0)) x 10 (w6 0)) x 11 (w6 1)) x 12 (w3 0)) (x + 305)) x 13 (some (x + 305))).2.2 q = M6.2.2 q := by
      intro q hq hne
      refine ⟨tn_kn (by omega), tn_ln (by omega), ?_, ?_, ?_⟩
      · rw [cn_wr1, zm_1n (by omega), wi_r hne, cn_wl1, cn_wl1, wi_r hne, cn_wr1]
      · rw [cn_wr2, zm_2n (by omega), cn_wi2, wl_r hne, wl_r hne, cn_wi2, cn_wr2]
      · rw [wr_r hne, zm_3n (by omega), cn_wi2, cn_wl3, cn_wl3, cn_wi2, wr_r hne]
    have W5 : ∀ q, q < x + 302 → q ≠ x → (cm_tn T6 20 6).1 q = T5.1 q ∧ (cm_tn T6 20 6).2.1 q = T5.2.1 q ∧ (cm_wr (cm_zm (cm_wi (cm_wl (cm_wl (cm_wi (cm_wr M6 x 8 (some (x + 302))) x 9 (w3 0)) x 10 (w6 0)) x 11 (w6 1)) x 12 (w3 0)) (x + 305)) x 13 (some (x + 305))).1 q = M5.1 q ∧ (cm_wr (cm_zm (cm_wi (cm_wl (cm_wl (cm_wi (cm_wr M6 x 8 (some (x + 302))) x 9 (w3 0)) x 10 (w6 0)) x 11 (w6 1)) x 12 (w3 0)) (x + 305)) x 13 (some (x + 305))).2.1 q = M5.2.1 q ∧ (cm_wr (cm_zm (cm_wi (cm_wl (cm_wl (cm_wi (cm_wr M6 x 8 (some (x + 302))) x 9 (w3 0)) x 10 (w6 0)) x 11 (w6 1)) x 12 (w3 0)) (x + 305)) x 13 (some (x + 305))).2.2 q = M5.2.2 q := by
      intro q hq hne
      obtain ⟨w1, w2, w3, w4, w5⟩ := W6 q (by omega) hne
      refine ⟨w1.trans ?_, w2.trans ?_, w3.trans ?_, w4.trans ?_, w5.trans ?_⟩
      · rw [f1 q (by omega), tn_kn (by omega)]
      · rw [f2 q (by omega), tn_ln (by omega)]
      · rw [f3 q (by omega) (by omega), zm_1n (by omega), cn_wr1]
      · rw [f4 q (by omega) (by omega), zm_2n (by omega), cn_wr2]
      · rw [f5 q (by omega) (by omega), zm_3n (by omega), wr_r hne]
    have W4 : ∀ q, q < x + 299 → q ≠ x → (cm_tn T6 20 6).1 q = T4.1 q ∧ (cm_tn T6 20 6).2.1 q = T4.2.1 q ∧ (cm_wr (cm_zm (cm_wi (cm_wl (cm_wl (cm_wi (cm_wr M6 x 8 (some (x + 302))) x 9 (w3 0)) x 10 (w6 0)) x 11 (w6 1)) x 12 (w3 0)) (x + 305)) x 13 (some (x + 305))).1 q = M4.1 q ∧ (cm_wr (cm_zm (cm_wi (cm_wl (cm_wl (cm_wi (cm_wr M6 x 8 (some (x + 302))) x 9 (w3 0)) x 10 (w6 0)) x 11 (w6 1)) x 12 (w3 0)) (x + 305)) x 13 (some (x + 305))).2.1 q = M4.2.1 q ∧ (cm_wr (cm_zm (cm_wi (cm_wl (cm_wl (cm_wi (cm_wr M6 x 8 (some (x + 302))) x 9 (w3 0)) x 10 (w6 0)) x 11 (w6 1)) x 12 (w3 0)) (x + 305)) x 13 (some (x + 305))).2.2 q = M4.2.2 q := by
      intro q hq hne
      obtain ⟨w1, w2, w3, w4, w5⟩ := W5 q (by omega) hne
      refine ⟨w1.trans ?_, w2.trans ?_, w3.trans ?_, w4.trans ?_, w5.trans ?_⟩
      · rw [e1 q (by omega), tn_kn (by omega)]
      · rw [e2 q (by omega), tn_ln (by omega)]
      · rw [e3 q (by omega) (by omega), zm_1n (by omega), cn_wr1]
      · rw [e4 q (by omega) (by omega), zm_2n (by omega), cn_wr2]
      · rw [e5 q (by omega) (by omega), zm_3n (by omega), wr_r hne]
    have W3 : ∀ q, q < x + 291 → q ≠ x → (cm_tn T6 20 6).1 q = T3.1 q ∧ (cm_tn T6 20 6).2.1 q = T3.2.1 q ∧ (cm_wr (cm_zm (cm_wi (cm_wl (cm_wl (cm_wi (cm_wr M6 x 8 (some (x + 302))) x 9 (w3 0)) x 10 (w6 0)) x 11 (w6 1)) x 12 (w3 0)) (x + 305)) x 13 (some (x + 305))).1 q = M3.1 q ∧ (cm_wr (cm_zm (cm_wi (cm_wl (cm_wl (cm_wi (cm_wr M6 x 8 (some (x + 302))) x 9 (w3 0)) x 10 (w6 0)) x 11 (w6 1)) x 12 (w3 0)) (x + 305)) x 13 (some (x + 305))).2.1 q = M3.2.1 q ∧ (cm_wr (cm_zm (cm_wi (cm_wl (cm_wl (cm_wi (cm_wr M6 x 8 (some (x + 302))) x 9 (w3 0)) x 10 (w6 0)) x 11 (w6 1)) x 12 (w3 0)) (x + 305)) x 13 (some (x + 305))).2.2 q = M3.2.2 q := by
      intro q hq hne
      obtain ⟨w1, w2, w3, w4, w5⟩ := W4 q (by omega) hne
      refine ⟨w1.trans ?_, w2.trans ?_, w3.trans ?_, w4.trans ?_, w5.trans ?_⟩
      · rw [d1 q (by omega), tn_kn (by omega)]
      · rw [d2 q (by omega), tn_ln (by omega)]
      · rw [d3 q (by omega) (by omega), zm_1n (by omega), cn_wr1]
      · rw [d4 q (by omega) (by omega), zm_2n (by omega), cn_wr2]
      · rw [d5 q (by omega) (by omega), zm_3n (by omega), wr_r hne]
    have W2 : ∀ q, q < x + 283 → q ≠ x → (cm_tn T6 20 6).1 q = T2.1 q ∧ (cm_tn T6 20 6).2.1 q = T2.2.1 q ∧ (cm_wr (cm_zm (cm_wi (cm_wl (cm_wl (cm_wi (cm_wr M6 x 8 (some (x + 302))) x 9 (w3 0)) x 10 (w6 0)) x 11 (w6 1)) x 12 (w3 0)) (x + 305)) x 13 (some (x + 305))).1 q = M2.1 q ∧ (cm_wr (cm_zm (cm_wi (cm_wl (cm_wl (cm_wi (cm_wr M6 x 8 (some (x + 302))) x 9 (w3 0)) x 10 (w6 0)) x 11 (w6 1)) x 12 (w3 0)) (x + 305)) x 13 (some (x + 305))).2.1 q = M2.2.1 q ∧ (cm_wr (cm_zm (cm_wi (cm_wl (cm_wl (cm_wi (cm_wr M6 x 8 (some (x + 302))) x 9 (w3 0)) x 10 (w6 0)) x 11 (w6 1)) x 12 (w3 0)) (x + 305)) x 13 (some (x + 305))).2.2 q = M2.2.2 q := by
      intro q hq hne
      obtain ⟨w1, w2, w3, w4, w5⟩ := W3 q (by omega) hne
      refine ⟨w1.trans ?_, w2.trans ?_, w3.trans ?_, w4.trans ?_, w5.trans ?_⟩
      · rw [c1 q (by omega), tn_kn (by omega)]
      · rw [c2 q (by omega), tn_ln (by omega)]
      · rw [c3 q (by omega) (by omega), zm_1n (by omega), cn_wr1]
      · rw [c4 q (by omega) (by omega), zm_2n (by omega), cn_wr2]
      · rw [c5 q (by omega) (by omega), zm_3n (by omega), wr_r hne]
    have W1k : (cm_tn T6 20 6).1 (x + 137) = 22 ∧ (cm_tn T6 20 6).2.1 (x + 137) = 3 ∧ (cm_wr (cm_zm (cm_wi (cm_wl (cm_wl (cm_wi (cm_wr M6 x 8 (some (x + 302))) x 9 (w3 0)) x 10 (w6 0)) x 11 (w6 1)) x 12 (w3 0)) (x + 305)) x 13 (some (x + 305))).2.2 (x + 137) = fun _ => none := by
      obtain ⟨w1, w2, w3, w4, w5⟩ := W2 (x + 137) (by omega) (by omega)
      refine ⟨w1.trans ?_, w2.trans ?_, w5.trans ?_⟩
      · rw [b1 _ (by omega), tn_kn (by rw [tn_z]; omega), tn_ke (by omega)]
      · rw [b2 _ (by omega), tn_ln (by rw [tn_z]; omega), tn_le (by omega)]
      · rw [b5 _ (by omega) (by omega), zm_3n (by omega), wr_r (by omega), zm_3e rfl]
    have W1 : ∀ q, q < x + 137 → q ≠ x → (cm_tn T6 20 6).1 q = T1.1 q ∧ (cm_tn T6 20 6).2.1 q = T1.2.1 q ∧ (cm_wr (cm_zm (cm_wi (cm_wl (cm_wl (cm_wi (cm_wr M6 x 8 (some (x + 302))) x 9 (w3 0)) x 10 (w6 0)) x 11 (w6 1)) x 12 (w3 0)) (x + 305)) x 13 (some (x + 305))).1 q = M1.1 q ∧ (cm_wr (cm_zm (cm_wi (cm_wl (cm_wl (cm_wi (cm_wr M6 x 8 (some (x + 302))) x 9 (w3 0)) x 10 (w6 0)) x 11 (w6 1)) x 12 (w3 0)) (x + 305)) x 13 (some (x + 305))).2.1 q = M1.2.1 q ∧ (cm_wr (cm_zm (cm_wi (cm_wl (cm_wl (cm_wi (cm_wr M6 x 8 (some (x + 302))) x 9 (w3 0)) x 10 (w6 0)) x 11 (w6 1)) x 12 (w3 0)) (x + 305)) x 13 (some (x + 305))).2.2 q = M1.2.2 q := by
      intro q hq hne
      obtain ⟨w1, w2, w3, w4, w5⟩ := W2 q (by omega) hne
      refine ⟨w1.trans ?_, w2.trans ?_, w3.trans ?_, w4.trans ?_, w5.trans ?_⟩
      · rw [b1 q (by omega), tn_kn (by rw [tn_z]; omega), tn_kn (by omega)]
      · rw [b2 q (by omega), tn_ln (by rw [tn_z]; omega), tn_ln (by omega)]
      · rw [b3 q (by omega) (by omega), zm_1n (by omega), cn_wr1, zm_1n (by omega), cn_wr1]
      · rw [b4 q (by omega) (by omega), zm_2n (by omega), cn_wr2, zm_2n (by omega), cn_wr2]
      · rw [b5 q (by omega) (by omega), zm_3n (by omega), wr_r hne, zm_3n (by omega), wr_r hne]
    have W0 : ∀ q, q < x → (cm_tn T6 20 6).1 q = T.1 q ∧ (cm_tn T6 20 6).2.1 q = T.2.1 q ∧ (cm_wr (cm_zm (cm_wi (cm_wl (cm_wl (cm_wi (cm_wr M6 x 8 (some (x + 302))) x 9 (w3 0)) x 10 (w6 0)) x 11 (w6 1)) x 12 (w3 0)) (x + 305)) x 13 (some (x + 305))).1 q = M.1 q ∧ (cm_wr (cm_zm (cm_wi (cm_wl (cm_wl (cm_wi (cm_wr M6 x 8 (some (x + 302))) x 9 (w3 0)) x 10 (w6 0)) x 11 (w6 1)) x 12 (w3 0)) (x + 305)) x 13 (some (x + 305))).2.1 q = M.2.1 q ∧ (cm_wr (cm_zm (cm_wi (cm_wl (cm_wl (cm_wi (cm_wr M6 x 8 (some (x + 302))) x 9 (w3 0)) x 10 (w6 0)) x 11 (w6 1)) x 12 (w3 0)) (x + 305)) x 13 (some (x + 305))).2.2 q = M.2.2 q := by
      intro q hq
      obtain ⟨w1, w2, w3, w4, w5⟩ := W1 q (by omega) (by omega)
      refine ⟨w1.trans ?_, w2.trans ?_, w3.trans ?_, w4.trans ?_, w5.trans ?_⟩
      · rw [a1 q (by omega), tn_kn (by omega), tn_kn (by omega), tn_kn (by omega)]
      · rw [a2 q (by omega), tn_ln (by omega), tn_ln (by omega), tn_ln (by omega)]
      · rw [a3 q (by omega) (by omega), zm_1n (by omega), cn_wr1, zm_1n (by omega), cn_wr1, zm_1n (by omega)]
      · rw [a4 q (by omega) (by omega), zm_2n (by omega), cn_wr2, zm_2n (by omega), cn_wr2, zm_2n (by omega)]
      · rw [a5 q (by omega) (by omega), zm_3n (by omega), wr_r (by omega), zm_3n (by omega), wr_r (by omega), zm_3n (by omega)]
    have R1 : M1.2.2 x 0 = some (x + 1) ∧ M1.2.2 x 1 = some (x + 2) := by
      rw [a5 x (by omega) (by omega), zm_3n (by omega)]
      refine ⟨?_, cn_wr_eq⟩
      rw [cn_wr_ne (Or.inr (by decide)), zm_3n (by omega)]
      exact cn_wr_eq
    have R2 : M2.2.2 x 0 = some (x + 1) ∧ M2.2.2 x 1 = some (x + 2) ∧ M2.2.2 x 2 = some (x + 3) ∧ M2.2.2 x 3 = some (x + 137) := by
      rw [b5 x (by omega) (by omega), zm_3n (by omega)]
      refine ⟨?_, ?_, ?_, cn_wr_eq⟩
      · rw [cn_wr_ne (Or.inr (by decide)), zm_3n (by omega), cn_wr_ne (Or.inr (by decide))]; exact R1.1
      · rw [cn_wr_ne (Or.inr (by decide)), zm_3n (by omega), cn_wr_ne (Or.inr (by decide))]; exact R1.2
      · rw [cn_wr_ne (Or.inr (by decide)), zm_3n (by omega)]; exact cn_wr_eq
    obtain ⟨R20, R21, R22, R23⟩ := R2
    have S3 : M3.2.2 x = (cm_wr M2 x 4 (some (x + 138))).2.2 x := by rw [c5 x (by omega) (by omega), zm_3n (by omega)]
    have S4 : M4.2.2 x = (cm_wr M3 x 5 (some (x + 283))).2.2 x := by rw [d5 x (by omega) (by omega), zm_3n (by omega)]
    have S5 : M5.2.2 x = (cm_wr M4 x 6 (some (x + 291))).2.2 x := by rw [e5 x (by omega) (by omega), zm_3n (by omega)]
    have S6 : M6.2.2 x = (cm_wr M5 x 7 (some (x + 299))).2.2 x := by rw [f5 x (by omega) (by omega), zm_3n (by omega)]
    have S7 : (cm_wr (cm_zm (cm_wi (cm_wl (cm_wl (cm_wi (cm_wr M6 x 8 (some (x + 302))) x 9 (w3 0)) x 10 (w6 0)) x 11 (w6 1)) x 12 (w3 0)) (x + 305)) x 13 (some (x + 305))).2.2 x = (cm_wr (cm_wr M6 x 8 (some (x + 302))) x 13 (some (x + 305))).2.2 x := by
      funext j
      by_cases hj : j = 13
      · subst hj; rw [cn_wr_eq, cn_wr_eq]
      · rw [cn_wr_ne (Or.inr hj), zm_3n (by omega), cn_wr_ne (Or.inr hj)]; rfl
    refine lX6_init d hd hS 0 (cm_tn T6 20 6) (cm_wr (cm_zm (cm_wi (cm_wl (cm_wl (cm_wi (cm_wr M6 x 8 (some (x + 302))) x 9 (w3 0)) x 10 (w6 0)) x 11 (w6 1)) x 12 (w3 0)) (x + 305)) x 13 (some (x + 305))) (Nat.zero_le _) (by rw [tn_z, z6]) ⟨fun q hq => ?_, fun q hq => ?_, fun q hq hne => ?_, fun q hq hne => ?_, fun q hq hne => ?_⟩ ?_ (fun j hj => absurd hj (Nat.not_lt_zero _))
    · by_cases e : q = x
      · rw [e, q8, kx]
      · exact (W0 q (by omega)).1
    · by_cases e : q = x
      · rw [e, tn_ln (by omega), f2 x (by omega), tn_ln (by omega), e2 x (by omega), tn_ln (by omega), d2 x (by omega), tn_ln (by omega), c2 x (by omega), tn_ln (by omega), b2 x (by omega), tn_ln (by rw [tn_z]; omega), tn_ln (by omega), a2 x (by omega), tn_ln (by omega), tn_ln (by omega), tn_ln (by omega)]
      · exact (W0 q (by omega)).2.1
    · exact (W0 q (by omega)).2.2.1
    · exact (W0 q (by omega)).2.2.2.1
    · exact (W0 q (by omega)).2.2.2.2
    · have T12 : (cm_tn T6 20 6).1 (x + 1) = 26 ∧ (cm_tn T6 20 6).1 (x + 2) = 26 ∧ (cm_tn T6 20 6).2.1 (x + 1) = 6 ∧ (cm_tn T6 20 6).2.1 (x + 2) = 4 := by
        refine ⟨(W1 _ (by omega) (by omega)).1.trans ?_, (W1 _ (by omega) (by omega)).1.trans ?_, (W1 _ (by omega) (by omega)).2.1.trans ?_, (W1 _ (by omega) (by omega)).2.1.trans ?_⟩
        · rw [a1 _ (by omega), tn_kn (by omega), tn_kn (by omega), tn_ke (by omega)]
        · rw [a1 _ (by omega), tn_kn (by omega), tn_ke (by omega)]
        · rw [a2 _ (by omega), tn_ln (by omega), tn_ln (by omega), tn_le (by omega)]
        · rw [a2 _ (by omega), tn_ln (by omega), tn_le (by omega)]
      have E3 : ∀ j : Int, j ≠ 4 → M3.2.2 x j = M2.2.2 x j := fun j hj => by rw [S3, cn_wr_ne (Or.inr hj)]
      have E4 : ∀ j : Int, j ≠ 5 → M4.2.2 x j = M3.2.2 x j := fun j hj => by rw [S4, cn_wr_ne (Or.inr hj)]
      have E5 : ∀ j : Int, j ≠ 6 → M5.2.2 x j = M4.2.2 x j := fun j hj => by rw [S5, cn_wr_ne (Or.inr hj)]
      have E6 : ∀ j : Int, j ≠ 7 → M6.2.2 x j = M5.2.2 x j := fun j hj => by rw [S6, cn_wr_ne (Or.inr hj)]
      have E7 : ∀ j : Int, j ≠ 8 → j ≠ 13 → (cm_wr (cm_zm (cm_wi (cm_wl (cm_wl (cm_wi (cm_wr M6 x 8 (some (x + 302))) x 9 (w3 0)) x 10 (w6 0)) x 11 (w6 1)) x 12 (w3 0)) (x + 305)) x 13 (some (x + 305))).2.2 x j = M6.2.2 x j := fun j h8 hj => by rw [S7, cn_wr_ne (Or.inr hj), cn_wr_ne (Or.inr h8)]
      have V4 : M3.2.2 x 4 = some (x + 138) := by rw [S3]; exact cn_wr_eq
      have V5 : M4.2.2 x 5 = some (x + 283) := by rw [S4]; exact cn_wr_eq
      have V6 : M5.2.2 x 6 = some (x + 291) := by rw [S5]; exact cn_wr_eq
      have V7 : M6.2.2 x 7 = some (x + 299) := by rw [S6]; exact cn_wr_eq
      refine ⟨⟨q8, ⟨?_, ?_, ?_, ?_, ?_, ?_, ?_, ?_, ?_, ?_⟩, ⟨T12.1, T12.2.1, W1k.1, tn_ke (by omega)⟩, ⟨T12.2.2.1, T12.2.2.2, W1k.2.1, tn_le (by omega)⟩⟩, ?_, ?_, W1k.2.2, ?_, ?_, ?_, ?_, ?_⟩
      · rw [E7 _ (by decide) (by decide), E6 _ (by decide), E5 _ (by decide), E4 _ (by decide), E3 _ (by decide)]; exact R20
      · rw [E7 _ (by decide) (by decide), E6 _ (by decide), E5 _ (by decide), E4 _ (by decide), E3 _ (by decide)]; exact R21
      · rw [E7 _ (by decide) (by decide), E6 _ (by decide), E5 _ (by decide), E4 _ (by decide), E3 _ (by decide)]; exact R22
      · rw [E7 _ (by decide) (by decide), E6 _ (by decide), E5 _ (by decide), E4 _ (by decide), E3 _ (by decide)]; exact R23
      · rw [E7 _ (by decide) (by decide), E6 _ (by decide), E5 _ (by decide), E4 _ (by decide)]; exact V4
      · rw [E7 _ (by decide) (by decide), E6 _ (by decide), E5 _ (by decide)]; exact V5
      · rw [E7 _ (by decide) (by decide), E6 _ (by decide)]; exact V6
      · rw [E7 _ (by decide) (by decide)]; exact V7
      · rw [S7, cn_wr_ne (Or.inr (by decide))]; exact cn_wr_eq
      · rw [S7]; exact cn_wr_eq
      · exact p1.ag2 p2 (fun q hq1 hq2 => (W1 q (by omega) (by omega)).1) (fun q hq1 hq2 => (W1 q (by omega) (by omega)).2.1) (fun q hq1 hq2 => (W1 q (by omega) (by omega)).2.2.1) (fun q hq1 hq2 => (W1 q (by omega) (by omega)).2.2.2.2)
      · refine SCR.mk2 (p3.ag (fun q hq1 hq2 => (W2 q (by omega) (by omega)).1) (fun q hq1 hq2 => (W2 q (by omega) (by omega)).2.1) (fun q hq1 hq2 => (W2 q (by omega) (by omega)).2.2.1) (fun q hq1 hq2 hq3 => (W2 q (by omega) (by omega)).2.2.2.2)) (fun i hi => ?_) ?_ ?_ ?_ ?_ ?_ ?_
        · obtain ⟨r1, r2⟩ := p4 i hi
          refine ⟨?_, (r2.ag (fun q hq1 hq2 => (W2 q (by omega) (by omega)).1) (fun q hq1 hq2 => (W2 q (by omega) (by omega)).2.1) (fun q hq1 hq2 => (W2 q (by omega) (by omega)).2.2.1) (fun q hq1 hq2 => (W2 q (by omega) (by omega)).2.2.2.2)).1⟩
          rw [(W2 (x + 141) (by omega) (by omega)).2.2.2.2]
          exact r1
        · exact (p5.ag (fun q hq1 hq2 => (W3 q (by omega) (by omega)).1) (fun q hq1 hq2 => (W3 q (by omega) (by omega)).2.1) (fun q hq1 hq2 => (W3 q (by omega) (by omega)).2.2.1) (fun q hq1 hq2 => (W3 q (by omega) (by omega)).2.2.2.2)).1
        · exact (p6.ag (fun q hq1 hq2 => (W4 q (by omega) (by omega)).1) (fun q hq1 hq2 => (W4 q (by omega) (by omega)).2.1) (fun q hq1 hq2 => (W4 q (by omega) (by omega)).2.2.1) (fun q hq1 hq2 => (W4 q (by omega) (by omega)).2.2.2.2)).1
        · obtain ⟨l1, l2, l3, l4, l5, l6, l7⟩ := p7
          exact ⟨by rw [(W5 _ (by omega) (by omega)).1]; exact l1, by rw [(W5 _ (by omega) (by omega)).2.2.2.2]; exact l2, by rw [(W5 _ (by omega) (by omega)).1]; exact l3, by rw [(W5 _ (by omega) (by omega)).2.1]; exact l4, by rw [(W5 _ (by omega) (by omega)).2.2.2.2]; exact l5, by rw [(W5 _ (by omega) (by omega)).1]; exact l6, by rw [(W5 _ (by omega) (by omega)).2.1]; exact l7⟩
        · rw [(W5 (x + 301) (by omega) (by omega)).2.2.1]; exact p7'
        · obtain ⟨l1, l2, l3, l4, l5, l6, l7⟩ := p8
          exact ⟨by rw [(W6 _ (by omega) (by omega)).1]; exact l1, by rw [(W6 _ (by omega) (by omega)).2.2.2.2]; exact l2, by rw [(W6 _ (by omega) (by omega)).1]; exact l3, by rw [(W6 _ (by omega) (by omega)).2.1]; exact l4, by rw [(W6 _ (by omega) (by omega)).2.2.2.2]; exact l5, by rw [(W6 _ (by omega) (by omega)).1]; exact l6, by rw [(W6 _ (by omega) (by omega)).2.1]; exact l7⟩
        · rw [(W6 (x + 304) (by omega) (by omega)).2.2.1]; exact p8'
      · rw [cn_wr1, zm_1e rfl]
      · rw [cn_wr1, zm_1n (by omega), cn_wi_ne (Or.inr (by decide)), cn_wl1, cn_wl1]; exact cn_wi_eq
      · rw [cn_wr2, zm_2n (by omega), cn_wi2, cn_wl_ne (Or.inr (by decide))]; exact cn_wl_eq
      · rw [cn_wr2, zm_2n (by omega), cn_wi2]; exact cn_wl_eq
      · rw [cn_wr1, zm_1n (by omega)]; exact cn_wi_eq

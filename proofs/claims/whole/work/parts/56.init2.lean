theorem nf4 : cm_nf 4 = 2 := rfl
theorem nf5 : cm_nf 5 = 2 := rfl
theorem nf0 : cm_nf 0 = 6 := rfl
theorem nf1 : cm_nf 1 = 3 := rfl
theorem nf2 : cm_nf 2 = 1 := rfl
theorem nf3 : cm_nf 3 = 10 := rfl
theorem nf6 : cm_nf 6 = 14 := rfl
theorem nf7 : cm_nf 7 = 29 := rfl
/-- a strip as its constructor leaves it -/
def StN (T : cm_T) (M : cm_M) (a c : Nat) : Prop := T.1 a = 5 ∧ M.2.2 a 0 = some (a + 1) ∧ T.1 (a + 1) = 20 ∧ T.2.1 (a + 1) = c ∧ M.1 a 1 = w3 (-1)
theorem StN.ag {T T' : cm_T} {M M' : cm_M} {a c : Nat} (h : StN T M a c) (h1 : ∀ q, a ≤ q → q < a + 2 → T'.1 q = T.1 q) (h2 : ∀ q, a ≤ q → q < a + 2 → T'.2.1 q = T.2.1 q) (h3 : M'.1 a = M.1 a) (h4 : M'.2.2 a = M.2.2 a) : StN T' M' a c := by
  obtain ⟨g1, g2, g3, g4, g5⟩ := h
  exact ⟨by rw [h1 _ (by omega) (by omega)]; exact g1, by rw [h4]; exact g2, by rw [h1 _ (by omega) (by omega)]; exact g3, by rw [h2 _ (by omega) (by omega)]; exact g4, by rw [h3]; exact g5⟩
theorem StN.s {T : cm_T} {M : cm_M} {a c : Nat} (h : StN T M a c) : sz M a = -1 ∧ fl M a = none := by
  have e : sz M a = -1 := by unfold sz; rw [h.2.2.2.2]; decide
  exact ⟨e, flm_mkn (by rw [e]; decide)⟩
def SX5_init : cm_CT := fun as T M Φ => match as with
  | [.ref t] => T.1 t = 6 ∧ T.2.2 = t + 1 ∧ ∀ T1 M1, T1.2.2 = t + 8 → Ag (t + 1) t T M T1 M1 → TrG T1 M1 t → trv M1 t = tv0 → Φ none T1 M1
  | _ => False
def JX5_init : cm_J := (5, true, 0, [], [], [(3, 1, 0, 0, 0, cm_Sobj), (21, 2, 5, 1, 60, SX4_init)])
theorem jX5_init : JX5_init.1 = 5 ∧ JX5_init.2.1 = true ∧ JX5_init.2.2.1 = 0 ∧ cm_gp JX5_init 3 = some (1, 0, 0, 0, cm_Sobj) ∧ cm_gp JX5_init 21 = some (2, 5, 1, 60, SX4_init) := ⟨rfl, rfl, rfl, rfl, rfl⟩
theorem eX5_init (d : Nat) (hd : 2 ≤ d) : cm_Cok d JX5_init := ⟨(fun q h => by cases h), (fun q h => by cases h), (List.forall_mem_cons.mpr ⟨q5_3, (List.forall_mem_cons.mpr ⟨q5_21 (mX4_init (d - 1) (by omega)) (by omega), (fun q h => by cases h)⟩)⟩)⟩
set_option maxHeartbeats 4000000 in
theorem lX5_init (d : Nat) (hd : 2 ≤ d) {T : cm_T} {M : cm_M} {Φ : Option Value → cm_T → cm_M → Prop} {t : Nat} (kt : T.1 t = 6) (hS : ∀ T1 M1, T1.2.2 = t + 8 → Ag (t + 1) t T M T1 M1 → TrG T1 M1 t → trv M1 t = tv0 → Φ none T1 M1) :
    ∀ (φ : Nat) (T1 : cm_T) (M1 : cm_M), φ ≤ 3 → T1.2.2 = t + 2 + 2 * φ → Ag (t + 1) t T M T1 M1 → M1.1 t 1 = w3 0 → M1.2.2 t 0 = some (t + 1) → T1.1 (t + 1) = 26 → T1.2.1 (t + 1) = 3 → (∀ j : Nat, j < φ → M1.2.2 (t + 1) (j : Int) = some (t + 2 + 2 * j) ∧ StN T1 M1 (t + 2 + 2 * j) 40) → cm_Go d cX5_init 2 7 189 JX5_init Φ 19 [some (.ref t), some (.int (w3 φ))] [] (2 * (3 - φ), 62 * (3 - φ)) T1 M1 := by
  intro φ
  induction hf : (3 - φ) using Nat.strongRecOn generalizing φ with
  | _ fu ih =>
    subst hf
    intro T1 M1 k1 hz ag m1 m2 kk ll hj
    obtain ⟨a1, a2, a3, a4, a5⟩ := id ag
    have kt1 : T1.1 t = 6 := by rw [a1 t (by omega)]; exact kt
    by_cases hφ : φ < 3
    · have ef : (w3 (φ : Int)).toInt = (φ : Int) := w3_toInt (by omega) (by omega)
      have ixf : cm_ix (w3 (φ : Int)) 3 := by rw [w3_ix (by omega) (by omega)]; exact ⟨by omega, by omega⟩
      have kn : (cm_tn T1 5 0).1 (t + 2 + 2 * φ) = 5 := tn_ke hz.symm
      refine cm_go hX5_init 200 oX5_init (eX5_init d hd) lX5_init_19 ?_
      simp only [jX5_init, kX5_init_0, kl_5_9, fl_5_11, fl_5_17, kt1, m2, hz, nf4, kn, cn_iconst, cn_lconst0, cn_lconst1, cn_null, cn_iload, cn_aload, cn_lload, cn_lo1, cn_loa1, cn_loa2, cn_lol1, cn_get0, cn_gets, cn_put0, cn_puts, cn_istore, cn_astore, cn_astoreN, cn_lstore, cn_iinc, cn_in1, cn_iadd, cn_isub, cn_imul, cn_iand, cn_ior, cn_ixor, cn_ishl, cn_ishr, cn_iushr, cn_idiv, cn_irem, cn_ladd, cn_lmul, cn_ldiv, cn_lrem, cn_i2l, cn_l2i, cn_i2b, cn_lcmp, cn_dupi, cn_dupr, cn_dup2, cn_popi, cn_popr, cn_goto, cn_if_eq, cn_if_ne, cn_if_lt, cn_if_ge, cn_if_gt, cn_if_le, cn_ic_eq, cn_ic_ne, cn_ic_lt, cn_ic_ge, cn_ic_gt, cn_ic_le, cn_ifnullN, cn_ifnullR, cn_ifnonnullN, cn_ifnonnullR, cn_tswS, cn_tsw0, cn_tsw1, cn_lswS, cn_lsw0, cn_lsw1, cn_alen, cn_iaload, cn_laload, cn_rr1, cn_rr0, cn_aaload, cn_iastore, cn_lastore, cn_aastore, cn_getfield, cn_gf0, cn_gf1, cn_gf2, cn_gf3, cn_putfield, cn_pf0f, cn_pf1f, cn_pf2f, cn_pf3f, cn_pf0t, cn_pf1t, cn_pf2t, cn_pf3t, cn_new, cn_nw1, cn_newi, cn_newl, cn_anew, cn_an1, cn_inv_v, cn_inv_s, cn_inv_p, cn_ca1, cn_cb1, cn_pop0, cn_pops, cn_rk0, cn_rk1, cn_kcn, cn_kcs, cn_ireturn, cn_lreturn, cn_areturn, cn_return, cn_re0, cn_re1, cn_re2, cn_re3, cn_re4, cn_re5, cn_wp0, cn_wps, cn_m0, cn_m1, cn_e0, cn_en, cn_ei, cn_er, cn_eu, cn_el, cn_nl0, cn_nls, cn_nb0, cn_nb1, cn_nb2, cn_nb3, cn_bd0, cn_bds, cn_cwi, cn_cwr, cn_cwl, cn_cwn, cn_wi2, cn_wl1, cn_wl3, cn_wr1, cn_wr2, cn_wi_eq, cn_wl_eq, cb_0, cb_n0, cb_b, cm_okb0, cm_okb1, Classical.not_not, true_and, and_true, Nat.reduceAdd, Nat.reduceSub, Nat.reduceLT, Nat.reduceLeDiff, Int.reduceToNat, Int.reduceNatCast', Nat.zero_le, Nat.reduceEqDiff, false_or, or_false, or_true, true_or, Int.reduceNeg, reduceCtorEq, false_implies, implies_true, forall_const, true_implies, not_true_eq_false, not_false_eq_true, Nat.le_refl, ne_eq, if_true, if_false, ite_true, ite_false, List.cons_append, List.nil_append]
      simp (disch := omega) only [w3_le]
      refine ⟨fun q => by omega, fun _ => ⟨by omega, by omega, by omega, by omega, ?_⟩⟩
      refine ⟨40, rfl, by decide, kn, by unfold ltn; rw [tn_z]; omega, fun T3 M3 z3 ag3 p1 p2 p3 p4 => ?_⟩
      have hz2 : (cm_tn T1 5 0).2.2 = t + 3 + 2 * φ := by rw [tn_z]; omega
      rw [hz2] at z3 ag3 p1 p2 p3
      obtain ⟨b1, b2, b3, b4, b5⟩ := id ag3
      have q1 : T3.1 (t + 1) = 26 := by simp (disch := omega) only [b1, tn_kn, kk]
      have q2 : T3.2.1 (t + 1) = 3 := by simp (disch := omega) only [b2, tn_ln, ll]
      have q3 : T3.1 (t + 2 + 2 * φ) = 5 := by rw [b1 _ (by omega)]; exact kn
      simp only [jX5_init, kX5_init_0, kl_5_9, fl_5_11, fl_5_17, q1, q2, q3, ef, ixf, w3_add, cn_iconst, cn_lconst0, cn_lconst1, cn_null, cn_iload, cn_aload, cn_lload, cn_lo1, cn_loa1, cn_loa2, cn_lol1, cn_get0, cn_gets, cn_put0, cn_puts, cn_istore, cn_astore, cn_astoreN, cn_lstore, cn_iinc, cn_in1, cn_iadd, cn_isub, cn_imul, cn_iand, cn_ior, cn_ixor, cn_ishl, cn_ishr, cn_iushr, cn_idiv, cn_irem, cn_ladd, cn_lmul, cn_ldiv, cn_lrem, cn_i2l, cn_l2i, cn_i2b, cn_lcmp, cn_dupi, cn_dupr, cn_dup2, cn_popi, cn_popr, cn_goto, cn_if_eq, cn_if_ne, cn_if_lt, cn_if_ge, cn_if_gt, cn_if_le, cn_ic_eq, cn_ic_ne, cn_ic_lt, cn_ic_ge, cn_ic_gt, cn_ic_le, cn_ifnullN, cn_ifnullR, cn_ifnonnullN, cn_ifnonnullR, cn_tswS, cn_tsw0, cn_tsw1, cn_lswS, cn_lsw0, cn_lsw1, cn_alen, cn_iaload, cn_laload, cn_rr1, cn_rr0, cn_aaload, cn_iastore, cn_lastore, cn_aastore, cn_getfield, cn_gf0, cn_gf1, cn_gf2, cn_gf3, cn_putfield, cn_pf0f, cn_pf1f, cn_pf2f, cn_pf3f, cn_pf0t, cn_pf1t, cn_pf2t, cn_pf3t, cn_new, cn_nw1, cn_newi, cn_newl, cn_anew, cn_an1, cn_inv_v, cn_inv_s, cn_inv_p, cn_ca1, cn_cb1, cn_pop0, cn_pops, cn_rk0, cn_rk1, cn_kcn, cn_kcs, cn_ireturn, cn_lreturn, cn_areturn, cn_return, cn_re0, cn_re1, cn_re2, cn_re3, cn_re4, cn_re5, cn_wp0, cn_wps, cn_m0, cn_m1, cn_e0, cn_en, cn_ei, cn_er, cn_eu, cn_el, cn_nl0, cn_nls, cn_nb0, cn_nb1, cn_nb2, cn_nb3, cn_bd0, cn_bds, cn_cwi, cn_cwr, cn_cwl, cn_cwn, cn_wi2, cn_wl1, cn_wl3, cn_wr1, cn_wr2, cn_wi_eq, cn_wl_eq, cb_0, cb_n0, cb_b, cm_okb0, cm_okb1, Classical.not_not, true_and, and_true, Nat.reduceAdd, Nat.reduceSub, Nat.reduceLT, Nat.reduceLeDiff, Int.reduceToNat, Int.reduceNatCast', Nat.zero_le, Nat.reduceEqDiff, false_or, or_false, or_true, true_or, Int.reduceNeg, reduceCtorEq, false_implies, implies_true, forall_const, true_implies, not_true_eq_false, not_false_eq_true, Nat.le_refl, ne_eq, if_true, if_false, ite_true, ite_false, List.cons_append, List.nil_append]
      have nx := ih (3 - (φ + 1)) (by omega) (φ + 1) rfl T3 (cm_wr M3 (t + 1) (φ : Int) (some (t + 2 + 2 * φ))) (by omega) (by omega) ⟨fun q hq => ?_, fun q hq => ?_, fun q hq hne => ?_, fun q hq hne => ?_, fun q hq hne => ?_⟩ ?_ ?_ q1 q2 (fun j hj2 => ?_)
      · have eb : (2 * (3 - φ) - 1 - 1, 62 * (3 - φ) - 2 - 60) = (2 * (3 - (φ + 1)), 62 * (3 - (φ + 1))) := Prod.ext (by show 2 * (3 - φ) - 1 - 1 = 2 * (3 - (φ + 1)); omega) (by show 62 * (3 - φ) - 2 - 60 = 62 * (3 - (φ + 1)); omega)
        rw [eb]
        exact nx
      · simp (disch := omega) only [b1, a1, tn_kn]
      · simp (disch := omega) only [b2, a2, tn_ln]
      · simp (disch := omega) only [cn_wr1, b3, zm_1n, a3]
      · simp (disch := omega) only [cn_wr2, b4, zm_2n, a4]
      · simp (disch := omega) only [wr_r, b5, zm_3n, a5]
      · simp (disch := omega) only [cn_wr1, b3, zm_1n, m1]
      · simp (disch := omega) only [wr_r, b5, zm_3n, m2]
      · by_cases e : j = φ
        · subst e
          refine ⟨cn_wr_eq, q3, ?_, ?_, ?_, ?_⟩
          · simp (disch := omega) only [wr_r]; rw [p3]; congr 1; omega
          · rw [show t + 2 + 2 * j + 1 = t + 3 + 2 * j by omega]; exact p1
          · rw [show t + 2 + 2 * j + 1 = t + 3 + 2 * j by omega]; exact p2
          · exact p4
        · obtain ⟨h1, h2⟩ := hj j (by omega)
          refine ⟨?_, h2.ag (fun q hq1 hq2 => ?_) (fun q hq1 hq2 => ?_) ?_ ?_⟩
          · simp (disch := omega) only [cn_wr_ne, b5, zm_3n, h1]
          · simp (disch := omega) only [b1, tn_kn]
          · simp (disch := omega) only [b2, tn_ln]
          · simp (disch := omega) only [cn_wr1, b3, zm_1n]
          · simp (disch := omega) only [wr_r, b5, zm_3n]
    · have e : φ = 3 := by omega
      subst e
      refine cm_go hX5_init 200 oX5_init (eX5_init d hd) lX5_init_19 ?_
      simp only [jX5_init, kX5_init_0, kl_5_9, fl_5_11, fl_5_17, kt1, cn_iconst, cn_lconst0, cn_lconst1, cn_null, cn_iload, cn_aload, cn_lload, cn_lo1, cn_loa1, cn_loa2, cn_lol1, cn_get0, cn_gets, cn_put0, cn_puts, cn_istore, cn_astore, cn_astoreN, cn_lstore, cn_iinc, cn_in1, cn_iadd, cn_isub, cn_imul, cn_iand, cn_ior, cn_ixor, cn_ishl, cn_ishr, cn_iushr, cn_idiv, cn_irem, cn_ladd, cn_lmul, cn_ldiv, cn_lrem, cn_i2l, cn_l2i, cn_i2b, cn_lcmp, cn_dupi, cn_dupr, cn_dup2, cn_popi, cn_popr, cn_goto, cn_if_eq, cn_if_ne, cn_if_lt, cn_if_ge, cn_if_gt, cn_if_le, cn_ic_eq, cn_ic_ne, cn_ic_lt, cn_ic_ge, cn_ic_gt, cn_ic_le, cn_ifnullN, cn_ifnullR, cn_ifnonnullN, cn_ifnonnullR, cn_tswS, cn_tsw0, cn_tsw1, cn_lswS, cn_lsw0, cn_lsw1, cn_alen, cn_iaload, cn_laload, cn_rr1, cn_rr0, cn_aaload, cn_iastore, cn_lastore, cn_aastore, cn_getfield, cn_gf0, cn_gf1, cn_gf2, cn_gf3, cn_putfield, cn_pf0f, cn_pf1f, cn_pf2f, cn_pf3f, cn_pf0t, cn_pf1t, cn_pf2t, cn_pf3t, cn_new, cn_nw1, cn_newi, cn_newl, cn_anew, cn_an1, cn_inv_v, cn_inv_s, cn_inv_p, cn_ca1, cn_cb1, cn_pop0, cn_pops, cn_rk0, cn_rk1, cn_kcn, cn_kcs, cn_ireturn, cn_lreturn, cn_areturn, cn_return, cn_re0, cn_re1, cn_re2, cn_re3, cn_re4, cn_re5, cn_wp0, cn_wps, cn_m0, cn_m1, cn_e0, cn_en, cn_ei, cn_er, cn_eu, cn_el, cn_nl0, cn_nls, cn_nb0, cn_nb1, cn_nb2, cn_nb3, cn_bd0, cn_bds, cn_cwi, cn_cwr, cn_cwl, cn_cwn, cn_wi2, cn_wl1, cn_wl3, cn_wr1, cn_wr2, cn_wi_eq, cn_wl_eq, cb_0, cb_n0, cb_b, cm_okb0, cm_okb1, Classical.not_not, true_and, and_true, Nat.reduceAdd, Nat.reduceSub, Nat.reduceLT, Nat.reduceLeDiff, Int.reduceToNat, Int.reduceNatCast', Nat.zero_le, Nat.reduceEqDiff, false_or, or_false, or_true, true_or, Int.reduceNeg, reduceCtorEq, false_implies, implies_true, forall_const, true_implies, not_true_eq_false, not_false_eq_true, Nat.le_refl, ne_eq, if_true, if_false, ite_true, ite_false, List.cons_append, List.nil_append]
      refine ⟨fun _ => ?_, fun q => absurd (by decide) q⟩
      obtain ⟨f0, s0⟩ := hj 0 (by omega)
      obtain ⟨f1, s1⟩ := hj 1 (by omega)
      obtain ⟨f2, s2⟩ := hj 2 (by omega)
      obtain ⟨y0, z0⟩ := s0.s
      obtain ⟨y1, z1⟩ := s1.s
      obtain ⟨y2, z2⟩ := s2.s
      refine hS T1 M1 (by omega) ag ⟨⟨kt1, m2, kk, ll, ⟨f0, f1, f2⟩, ⟨s0.1, s1.1, s2.1⟩, ⟨s0.2.1, s1.2.1, s2.2.1⟩, ⟨s0.2.2.1, s1.2.2.1, s2.2.2.1⟩, s0.2.2.2.1, s1.2.2.2.1, s2.2.2.2.1⟩, ⟨?_, ?_⟩, ⟨?_, ?_⟩, ⟨?_, ?_⟩⟩ ?_
      · show -1 ≤ sz M1 (t + 2 + 2 * 0); rw [y0]; decide
      · show sz M1 (t + 2 + 2 * 0) ≤ 40; rw [y0]; decide
      · show -1 ≤ sz M1 (t + 2 + 2 * 1); rw [y1]; decide
      · show sz M1 (t + 2 + 2 * 1) ≤ 40; rw [y1]; decide
      · show -1 ≤ sz M1 (t + 2 + 2 * 2); rw [y2]; decide
      · show sz M1 (t + 2 + 2 * 2) ≤ 40; rw [y2]; decide
      · exact Prod.ext m1 (Prod.ext z0 (Prod.ext z1 z2))
set_option maxHeartbeats 4000000 in
theorem mX5_init (d : Nat) (hd : 2 ≤ d) : cm_Met d yX5_init cX5_init 2 none 7 189 SX5_init := by
  refine cm_meets (J := JX5_init) (by decide) rfl (fun _ => rfl) trivial ?_
  intro as T M Φ hS
  match as, hS with
  | [.ref t], ⟨kt, hT, hS⟩ =>
    refine ⟨Nat.le_of_ble_eq_true rfl, ?_⟩
    have e3 : (w3 3).toInt = 3 := by decide
    have n3 : Int.toNat 3 = 3 := rfl
    have kt1 : (cm_tn T 26 3).1 t = 6 := by rw [tn_kn (by omega)]; exact kt
    refine cm_go hX5_init 200 oX5_init (eX5_init d hd) lX5_init_0 ?_
    simp only [jX5_init, kX5_init_0, kl_5_9, fl_5_11, fl_5_17, e3, n3, kt, kt1, hT, cn_iconst, cn_lconst0, cn_lconst1, cn_null, cn_iload, cn_aload, cn_lload, cn_lo1, cn_loa1, cn_loa2, cn_lol1, cn_get0, cn_gets, cn_put0, cn_puts, cn_istore, cn_astore, cn_astoreN, cn_lstore, cn_iinc, cn_in1, cn_iadd, cn_isub, cn_imul, cn_iand, cn_ior, cn_ixor, cn_ishl, cn_ishr, cn_iushr, cn_idiv, cn_irem, cn_ladd, cn_lmul, cn_ldiv, cn_lrem, cn_i2l, cn_l2i, cn_i2b, cn_lcmp, cn_dupi, cn_dupr, cn_dup2, cn_popi, cn_popr, cn_goto, cn_if_eq, cn_if_ne, cn_if_lt, cn_if_ge, cn_if_gt, cn_if_le, cn_ic_eq, cn_ic_ne, cn_ic_lt, cn_ic_ge, cn_ic_gt, cn_ic_le, cn_ifnullN, cn_ifnullR, cn_ifnonnullN, cn_ifnonnullR, cn_tswS, cn_tsw0, cn_tsw1, cn_lswS, cn_lsw0, cn_lsw1, cn_alen, cn_iaload, cn_laload, cn_rr1, cn_rr0, cn_aaload, cn_iastore, cn_lastore, cn_aastore, cn_getfield, cn_gf0, cn_gf1, cn_gf2, cn_gf3, cn_putfield, cn_pf0f, cn_pf1f, cn_pf2f, cn_pf3f, cn_pf0t, cn_pf1t, cn_pf2t, cn_pf3t, cn_new, cn_nw1, cn_newi, cn_newl, cn_anew, cn_an1, cn_inv_v, cn_inv_s, cn_inv_p, cn_ca1, cn_cb1, cn_pop0, cn_pops, cn_rk0, cn_rk1, cn_kcn, cn_kcs, cn_ireturn, cn_lreturn, cn_areturn, cn_return, cn_re0, cn_re1, cn_re2, cn_re3, cn_re4, cn_re5, cn_wp0, cn_wps, cn_m0, cn_m1, cn_e0, cn_en, cn_ei, cn_er, cn_eu, cn_el, cn_nl0, cn_nls, cn_nb0, cn_nb1, cn_nb2, cn_nb3, cn_bd0, cn_bds, cn_cwi, cn_cwr, cn_cwl, cn_cwn, cn_wi2, cn_wl1, cn_wl3, cn_wr1, cn_wr2, cn_wi_eq, cn_wl_eq, cb_0, cb_n0, cb_b, cm_okb0, cm_okb1, Classical.not_not, true_and, and_true, Nat.reduceAdd, Nat.reduceSub, Nat.reduceLT, Nat.reduceLeDiff, Int.reduceToNat, Int.reduceNatCast', Nat.zero_le, Nat.reduceEqDiff, false_or, or_false, or_true, true_or, Int.reduceNeg, reduceCtorEq, false_implies, implies_true, forall_const, true_implies, not_true_eq_false, not_false_eq_true, Nat.le_refl, ne_eq, if_true, if_false, ite_true, ite_false, List.cons_append, List.nil_append]
    refine ⟨t, rfl, ?_⟩
    simp only [jX5_init, kX5_init_0, kl_5_9, fl_5_11, fl_5_17, e3, n3, kt, kt1, hT, Int.reduceLE, cn_iconst, cn_lconst0, cn_lconst1, cn_null, cn_iload, cn_aload, cn_lload, cn_lo1, cn_loa1, cn_loa2, cn_lol1, cn_get0, cn_gets, cn_put0, cn_puts, cn_istore, cn_astore, cn_astoreN, cn_lstore, cn_iinc, cn_in1, cn_iadd, cn_isub, cn_imul, cn_iand, cn_ior, cn_ixor, cn_ishl, cn_ishr, cn_iushr, cn_idiv, cn_irem, cn_ladd, cn_lmul, cn_ldiv, cn_lrem, cn_i2l, cn_l2i, cn_i2b, cn_lcmp, cn_dupi, cn_dupr, cn_dup2, cn_popi, cn_popr, cn_goto, cn_if_eq, cn_if_ne, cn_if_lt, cn_if_ge, cn_if_gt, cn_if_le, cn_ic_eq, cn_ic_ne, cn_ic_lt, cn_ic_ge, cn_ic_gt, cn_ic_le, cn_ifnullN, cn_ifnullR, cn_ifnonnullN, cn_ifnonnullR, cn_tswS, cn_tsw0, cn_tsw1, cn_lswS, cn_lsw0, cn_lsw1, cn_alen, cn_iaload, cn_laload, cn_rr1, cn_rr0, cn_aaload, cn_iastore, cn_lastore, cn_aastore, cn_getfield, cn_gf0, cn_gf1, cn_gf2, cn_gf3, cn_putfield, cn_pf0f, cn_pf1f, cn_pf2f, cn_pf3f, cn_pf0t, cn_pf1t, cn_pf2t, cn_pf3t, cn_new, cn_nw1, cn_newi, cn_newl, cn_anew, cn_an1, cn_inv_v, cn_inv_s, cn_inv_p, cn_ca1, cn_cb1, cn_pop0, cn_pops, cn_rk0, cn_rk1, cn_kcn, cn_kcs, cn_ireturn, cn_lreturn, cn_areturn, cn_return, cn_re0, cn_re1, cn_re2, cn_re3, cn_re4, cn_re5, cn_wp0, cn_wps, cn_m0, cn_m1, cn_e0, cn_en, cn_ei, cn_er, cn_eu, cn_el, cn_nl0, cn_nls, cn_nb0, cn_nb1, cn_nb2, cn_nb3, cn_bd0, cn_bds, cn_cwi, cn_cwr, cn_cwl, cn_cwn, cn_wi2, cn_wl1, cn_wl3, cn_wr1, cn_wr2, cn_wi_eq, cn_wl_eq, cb_0, cb_n0, cb_b, cm_okb0, cm_okb1, Classical.not_not, true_and, and_true, Nat.reduceAdd, Nat.reduceSub, Nat.reduceLT, Nat.reduceLeDiff, Int.reduceToNat, Int.reduceNatCast', Nat.zero_le, Nat.reduceEqDiff, false_or, or_false, or_true, true_or, Int.reduceNeg, reduceCtorEq, false_implies, implies_true, forall_const, true_implies, not_true_eq_false, not_false_eq_true, Nat.le_refl, ne_eq, if_true, if_false, ite_true, ite_false, List.cons_append, List.nil_append]
    refine lX5_init d hd kt hS 0 _ _ (Nat.zero_le _) (by rw [tn_z]; omega) ⟨fun q hq => ?_, fun q hq => ?_, fun q hq hne => ?_, fun q hq hne => ?_, fun q hq hne => ?_⟩ ?_ ?_ ?_ ?_ (fun j hj => absurd hj (Nat.not_lt_zero _))
    · rw [tn_kn (by omega)]
    · rw [tn_ln (by omega)]
    · simp (disch := omega) only [tn_z, tn_ke, tn_kn, tn_le, tn_ln, zm_1e, zm_1n, zm_2e, zm_2n, zm_3e, zm_3n, wi_r, wl_r, wr_r, cn_wi2, cn_wl1, cn_wl3, cn_wr1, cn_wr2, cn_wi_eq, cn_wl_eq, cn_wr_eq, cn_wi_ne, cn_wl_ne, cn_wr_ne]
    · simp (disch := omega) only [tn_z, tn_ke, tn_kn, tn_le, tn_ln, zm_1e, zm_1n, zm_2e, zm_2n, zm_3e, zm_3n, wi_r, wl_r, wr_r, cn_wi2, cn_wl1, cn_wl3, cn_wr1, cn_wr2, cn_wi_eq, cn_wl_eq, cn_wr_eq, cn_wi_ne, cn_wl_ne, cn_wr_ne]
    · simp (disch := omega) only [tn_z, tn_ke, tn_kn, tn_le, tn_ln, zm_1e, zm_1n, zm_2e, zm_2n, zm_3e, zm_3n, wi_r, wl_r, wr_r, cn_wi2, cn_wl1, cn_wl3, cn_wr1, cn_wr2, cn_wi_eq, cn_wl_eq, cn_wr_eq, cn_wi_ne, cn_wl_ne, cn_wr_ne]
    · simp (disch := omega) only [tn_z, tn_ke, tn_kn, tn_le, tn_ln, zm_1e, zm_1n, zm_2e, zm_2n, zm_3e, zm_3n, wi_r, wl_r, wr_r, cn_wi2, cn_wl1, cn_wl3, cn_wr1, cn_wr2, cn_wi_eq, cn_wl_eq, cn_wr_eq, cn_wi_ne, cn_wl_ne, cn_wr_ne]
    · simp (disch := omega) only [tn_z, tn_ke, tn_kn, tn_le, tn_ln, zm_1e, zm_1n, zm_2e, zm_2n, zm_3e, zm_3n, wi_r, wl_r, wr_r, cn_wi2, cn_wl1, cn_wl3, cn_wr1, cn_wr2, cn_wi_eq, cn_wl_eq, cn_wr_eq, cn_wi_ne, cn_wl_ne, cn_wr_ne]
    · exact tn_ke hT.symm
    · exact tn_le hT.symm

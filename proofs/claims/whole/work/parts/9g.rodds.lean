/-- only long rows of the reference's have been written -/
def LG (M M1 : cm_M) (m : Nat) : Prop := M1.1 = M.1 ∧ M1.2.2 = M.2.2 ∧ ∀ q : Nat, q ≠ m + 19 → M1.2.1 q = M.2.1 q
theorem LG.rf {M : cm_M} {m : Nat} : LG M M m := ⟨rfl, rfl, fun _ _ => rfl⟩
theorem LG.wl {M M1 : cm_M} {m : Nat} {k : Int} {v : Int64} (h : LG M M1 m) : LG M (cm_wl M1 (m + 19) k v) m := ⟨h.1, h.2.1, fun q hq => by rw [← h.2.2 q hq]; exact funext fun j => cn_wl_ne (Or.inl hq)⟩
theorem md_lng {T : cm_T} {M M1 : cm_M} {m : Nat} (hD : MD T M m) (h1 : M1.1 = M.1) (h3 : M1.2.2 = M.2.2) (h2 : ∀ q : Nat, q < m ∨ m + 20 ≤ q → M1.2.1 q = M.2.1 q) : MD T M1 m ∧ FrM M M1 m ∧ mst M1 m = stU (mst M m) (M1.2.1 m 7) (M1.2.1 m 8) := by
  have eb : mbk M1 m = mbk M m := by unfold mbk; rw [h1]
  refine ⟨⟨by rw [h3]; exact hD.1, ?_, ?_⟩, ⟨fun q hq => ⟨by rw [h1], h2 q hq⟩, h3⟩, ?_⟩
  · unfold MDB
    rw [eb, h1]
    exact hD.2.1
  · unfold MDR
    rw [h1]
    exact hD.2.2
  · refine St_ext (funext fun r => ?_) (funext fun t => ?_) eb (funext fun k => ?_) ?_ (@rfl _ (M1.2.1 m 7)) (@rfl _ (M1.2.1 m 8)) ?_ (funext fun k => ?_)
    · show mRw M1 m r = mRw M m r
      unfold mRw
      rw [h1]
    · show mTx M1 m t = mTx M m t
      unfold mTx
      rw [h1]
    · show mKq M1 m k = mKq M m k
      unfold mKq
      rw [h1]
    · show M1.1 m 4 = M.1 m 4
      rw [h1]
    · show M1.1 m 5 = M.1 m 5
      rw [h1]
    · show mCt M1 m k = mCt M m k
      unfold mCt
      rw [h1]
theorem stU_s {M : cm_M} {m : Nat} : stU (mst M m) (M.2.1 m 7) (M.2.1 m 8) = mst M m := St_ext (@rfl _ (mst M m).1) (@rfl _ (mst M m).2.1) (@rfl _ (mbk M m)) (@rfl _ (mKq M m)) (@rfl _ (M.1 m 4)) (@rfl _ (M.2.1 m 7)) (@rfl _ (M.2.1 m 8)) (@rfl _ (M.1 m 5)) (@rfl _ (mCt M m))
theorem LG.md {T : cm_T} {M M1 : cm_M} {m : Nat} (hD : MD T M m) (h : LG M M1 m) : MD T M1 m ∧ mst M1 m = mst M m ∧ FrM M M1 m := by
  obtain ⟨a, b, c⟩ := md_lng hD h.1 h.2.1 (fun q hq => h.2.2 q (by omega))
  refine ⟨a, ?_, b⟩
  rw [c, h.2.2 m (by omega), stU_s]
def SX7_ways : cm_CT := fun as T M Φ => match as with
  | [.ref m, .int v] => MD T M m ∧ mPo T M m Φ (fWys (mst M m) v.toInt)
  | _ => False
def JX7_ways : cm_J := (7, false, 1, [(223, 2, 8, 0, 0, SX7_isVersion)], [], [])
theorem jX7_ways : JX7_ways.1 = 7 ∧ JX7_ways.2.1 = false ∧ JX7_ways.2.2.1 = 1 ∧ cm_gv JX7_ways 223 = some (2, 8, 0, 0, SX7_isVersion) := ⟨rfl, rfl, rfl, rfl⟩
theorem eX7_ways (d : Nat) (hd : 2 ≤ d) : cm_Cok d JX7_ways := ⟨(List.forall_mem_cons.mpr ⟨q7_223 (mX7_isVersion (d - 1) (by omega)) (by omega), (fun q h => by cases h)⟩), (fun q h => by cases h), (fun q h => by cases h)⟩
set_option maxHeartbeats 8000000 in
theorem lX7_ways (d : Nat) (hd : 2 ≤ d) {T : cm_T} {M : cm_M} {Φ : Option Value → cm_T → cm_M → Prop} {m ν : Nat} (hD : MD T M m) (hν : ν < (mbk M m).1) (hS : ∀ M1, LG M M1 m → Φ (some (.int (w3 (wys (mbk M m) ν : Int)))) T M1) :
    ∀ (g u : Nat) (M1 : cm_M) (o3 : Option Value), g + u = ν + 1 → 1 ≤ u → LG M M1 m → (∀ w : Nat, w < u → M1.2.1 (m + 19) (w : Int) = w6 (wys (mbk M m) w : Int)) → cm_Go d cX7_ways 4 0 0 JX7_ways Φ 19 [some (.ref m), some (.int (w3 (ν : Int))), some (.int (w3 (u : Int))), o3] [] (0, 0) T M1 := by
  have hT := hD.1
  obtain ⟨k0, ⟨r0, r2, r3, r6, r9, r10, r11, r12, r13, r14, r15, r16, r17, r18, r19, r22, r25, r26, r27⟩, ⟨c1, c2, c3, c4, c5, c6, c7, c8, c9, c10, c11, c12, c13, c14, c15, c16, c17, c18, c19⟩, ⟨l1, l2, l3, l4, l5, l6, l7, l8, l9, l10, l11, l12, l13, l14, l15, l16, l17, l18, l19⟩⟩ := id hT
  have h16 := hD.n.2
  have hB : BW (M.1 (m + 1)) 0 (mbk M m).1 := hD.2.1.2.1
  intro g
  induction g with
  | zero =>
    intro u M1 o3 hu h1 F hw
    have eu : u = ν + 1 := by omega
    subst eu
    have e1 := F.1
    have e3 := F.2.1
    have rd := hw ν (by omega)
    have q0 : ((ν : Int) < ((ν + 1 : Nat) : Int)) = True := eq_true (by omega)
    refine cm_go hX7_ways 60 oX7_ways (eX7_ways d hd) lX7_ways_19 ?_
    simp (disch := omega) only [jX7_ways, kX7_ways_0, fl_7_68, fl_7_7, e1, e3, q0, rd, w6_i, k0, r0, r2, r3, r6, r9, r10, r11, r12, r13, r14, r15, r16, r17, r18, r19, r22, r25, r26, r27, c1, c2, c3, c4, c5, c6, c7, c8, c9, c10, c11, c12, c13, c14, c15, c16, c17, c18, c19, l1, l2, l3, l4, l5, l6, l7, l8, l9, l10, l11, l12, l13, l14, l15, l16, l17, l18, l19, cn_iconst, cn_lconst0, cn_lconst1, cn_null, cn_iload, cn_aload, cn_lload, cn_lo1, cn_loa1, cn_loa2, cn_lol1, cn_get0, cn_gets, cn_put0, cn_puts, cn_istore, cn_astore, cn_astoreN, cn_lstore, cn_iinc, cn_in1, cn_iadd, cn_isub, cn_imul, cn_iand, cn_ior, cn_ixor, cn_ishl, cn_ishr, cn_iushr, cn_idiv, cn_irem, cn_ladd, cn_lmul, cn_ldiv, cn_lrem, cn_i2l, cn_l2i, cn_i2b, cn_lcmp, cn_dupi, cn_dupr, cn_dup2, cn_popi, cn_popr, cn_goto, cn_if_eq, cn_if_ne, cn_if_lt, cn_if_ge, cn_if_gt, cn_if_le, cn_ic_eq, cn_ic_ne, cn_ic_lt, cn_ic_ge, cn_ic_gt, cn_ic_le, cn_ifnullN, cn_ifnullR, cn_ifnonnullN, cn_ifnonnullR, cn_tswS, cn_tsw0, cn_tsw1, cn_lswS, cn_lsw0, cn_lsw1, cn_alen, cn_iaload, cn_laload, cn_rr1, cn_rr0, cn_aaload, cn_iastore, cn_lastore, cn_aastore, cn_getfield, cn_gf0, cn_gf1, cn_gf2, cn_gf3, cn_putfield, cn_pf0f, cn_pf1f, cn_pf2f, cn_pf3f, cn_pf0t, cn_pf1t, cn_pf2t, cn_pf3t, cn_new, cn_nw1, cn_newi, cn_newl, cn_anew, cn_an1, cn_inv_v, cn_inv_s, cn_inv_p, cn_ca1, cn_cb1, cn_pop0, cn_pops, cn_rk0, cn_rk1, cn_kcn, cn_kcs, cn_ireturn, cn_lreturn, cn_areturn, cn_return, cn_re0, cn_re1, cn_re2, cn_re3, cn_re4, cn_re5, cn_wp0, cn_wps, cn_m0, cn_m1, cn_e0, cn_en, cn_ei, cn_er, cn_eu, cn_el, cn_nl0, cn_nls, cn_nb0, cn_nb1, cn_nb2, cn_nb3, cn_bd0, cn_bds, cn_cwi, cn_cwr, cn_cwl, cn_cwn, cn_wi2, cn_wl1, cn_wl3, cn_wr1, cn_wr2, cn_wi_eq, cn_wl_eq, cb_0, cb_n0, cb_b, cm_okb0, cm_okb1, Classical.not_not, true_and, and_true, Nat.reduceAdd, Nat.reduceSub, Nat.reduceLT, Nat.reduceLeDiff, Int.reduceToNat, Int.reduceNatCast', Nat.zero_le, Nat.reduceEqDiff, false_or, or_false, or_true, true_or, Int.reduceNeg, reduceCtorEq, false_implies, implies_true, forall_const, true_implies, not_true_eq_false, not_false_eq_true, Nat.le_refl, ne_eq, if_true, if_false, ite_true, ite_false, List.cons_append, List.nil_append, w3_add, w3_sub, w3_mul, w3_le, w3_lt, w3_eq, w3_toInt, w3_ix, w3_00, w3_10, i0_le, i0_lt, i0_ge, i0_gt, i0_eq, Int.reduceLE, Int.reduceLT, Int.reduceAdd, Int.reduceSub, Int.reduceMul, Int.reduceEq, Int.le_refl, Int.lt_irrefl]
    repeat (with_reducible refine And.intro (by omega) ?_)
    exact hS M1 F
  | succ g ih =>
    intro u M1 o3 hu h1 F hw
    have e1 := F.1
    have e3 := F.2.1
    have q0 : ((ν : Int) < (u : Int)) = False := eq_false (by omega)
    obtain ⟨p1, p2, hp⟩ := hB.par (show u < (mbk M m).1 by omega)
    have p1 : M.1 (m + 1) (127 * (u : Int) + 1) = w3 ((mbk M m).2 u).2.1 := p1
    have p2 : M.1 (m + 1) (127 * (u : Int) + 2) = w3 ((mbk M m).2 u).2.2 := p2
    obtain ⟨f0, f1, hs⟩ := hp.2 (by omega)
    have f0 : 0 ≤ ((mbk M m).2 u).2.1 := f0
    have f1 : ((mbk M m).2 u).2.1 < (u : Int) := f1
    have hs : ((mbk M m).2 u).2.2 = -9 ∨ (0 ≤ ((mbk M m).2 u).2.2 ∧ ((mbk M m).2 u).2.2 < (u : Int)) := hs
    obtain ⟨α, eα⟩ : ∃ α : Nat, ((mbk M m).2 u).2.1 = (α : Int) := ⟨((mbk M m).2 u).2.1.toNat, by omega⟩
    rw [eα] at f0 f1 p1
    have ra := hw α (by omega)
    have ew := wys_s (mbk M m) u (by omega)
    have wa : wOf (mbk M m) u ((mbk M m).2 u).2.1 = wys (mbk M m) α := by
      rw [eα]
      exact if_pos ⟨f0, f1⟩
    rw [wa] at ew
    have nx := fun v o3 (hv : v = w6 (wys (mbk M m) u : Int)) => ih (u + 1) (cm_wl M1 (m + 19) (u : Int) v) o3 (by omega) (by omega) F.wl (fun w hw2 => by
      by_cases e : w = u
      · subst e; rw [cn_wl_eq]; exact hv
      · rw [cn_wl_ne (Or.inr (by omega))]; exact hw w (by omega))
    rcases hs with hs | ⟨s0, s1⟩
    · rw [hs] at p2
      have wb : wOf (mbk M m) u ((mbk M m).2 u).2.2 = 0 := by
        rw [hs]
        exact if_neg (by omega)
      rw [wb] at ew
      refine cm_go hX7_ways 60 oX7_ways (eX7_ways d hd) lX7_ways_19 ?_
      simp (disch := omega) only [jX7_ways, kX7_ways_0, fl_7_68, fl_7_7, e1, e3, q0, p1, p2, ra, w6_add, k0, r0, r2, r3, r6, r9, r10, r11, r12, r13, r14, r15, r16, r17, r18, r19, r22, r25, r26, r27, c1, c2, c3, c4, c5, c6, c7, c8, c9, c10, c11, c12, c13, c14, c15, c16, c17, c18, c19, l1, l2, l3, l4, l5, l6, l7, l8, l9, l10, l11, l12, l13, l14, l15, l16, l17, l18, l19, cn_iconst, cn_lconst0, cn_lconst1, cn_null, cn_iload, cn_aload, cn_lload, cn_lo1, cn_loa1, cn_loa2, cn_lol1, cn_get0, cn_gets, cn_put0, cn_puts, cn_istore, cn_astore, cn_astoreN, cn_lstore, cn_iinc, cn_in1, cn_iadd, cn_isub, cn_imul, cn_iand, cn_ior, cn_ixor, cn_ishl, cn_ishr, cn_iushr, cn_idiv, cn_irem, cn_ladd, cn_lmul, cn_ldiv, cn_lrem, cn_i2l, cn_l2i, cn_i2b, cn_lcmp, cn_dupi, cn_dupr, cn_dup2, cn_popi, cn_popr, cn_goto, cn_if_eq, cn_if_ne, cn_if_lt, cn_if_ge, cn_if_gt, cn_if_le, cn_ic_eq, cn_ic_ne, cn_ic_lt, cn_ic_ge, cn_ic_gt, cn_ic_le, cn_ifnullN, cn_ifnullR, cn_ifnonnullN, cn_ifnonnullR, cn_tswS, cn_tsw0, cn_tsw1, cn_lswS, cn_lsw0, cn_lsw1, cn_alen, cn_iaload, cn_laload, cn_rr1, cn_rr0, cn_aaload, cn_iastore, cn_lastore, cn_aastore, cn_getfield, cn_gf0, cn_gf1, cn_gf2, cn_gf3, cn_putfield, cn_pf0f, cn_pf1f, cn_pf2f, cn_pf3f, cn_pf0t, cn_pf1t, cn_pf2t, cn_pf3t, cn_new, cn_nw1, cn_newi, cn_newl, cn_anew, cn_an1, cn_inv_v, cn_inv_s, cn_inv_p, cn_ca1, cn_cb1, cn_pop0, cn_pops, cn_rk0, cn_rk1, cn_kcn, cn_kcs, cn_ireturn, cn_lreturn, cn_areturn, cn_return, cn_re0, cn_re1, cn_re2, cn_re3, cn_re4, cn_re5, cn_wp0, cn_wps, cn_m0, cn_m1, cn_e0, cn_en, cn_ei, cn_er, cn_eu, cn_el, cn_nl0, cn_nls, cn_nb0, cn_nb1, cn_nb2, cn_nb3, cn_bd0, cn_bds, cn_cwi, cn_cwr, cn_cwl, cn_cwn, cn_wi2, cn_wl1, cn_wl3, cn_wr1, cn_wr2, cn_wi_eq, cn_wl_eq, cb_0, cb_n0, cb_b, cm_okb0, cm_okb1, Classical.not_not, true_and, and_true, Nat.reduceAdd, Nat.reduceSub, Nat.reduceLT, Nat.reduceLeDiff, Int.reduceToNat, Int.reduceNatCast', Nat.zero_le, Nat.reduceEqDiff, false_or, or_false, or_true, true_or, Int.reduceNeg, reduceCtorEq, false_implies, implies_true, forall_const, true_implies, not_true_eq_false, not_false_eq_true, Nat.le_refl, ne_eq, if_true, if_false, ite_true, ite_false, List.cons_append, List.nil_append, w3_add, w3_sub, w3_mul, w3_le, w3_lt, w3_eq, w3_toInt, w3_ix, w3_00, w3_10, i0_le, i0_lt, i0_ge, i0_gt, i0_eq, Int.reduceLE, Int.reduceLT, Int.reduceAdd, Int.reduceSub, Int.reduceMul, Int.reduceEq, Int.le_refl, Int.lt_irrefl]
      repeat (with_reducible refine And.intro (by omega) ?_)
      exact nx _ _ (by rw [ew]; rfl)
    · obtain ⟨γ, eγ⟩ : ∃ γ : Nat, ((mbk M m).2 u).2.2 = (γ : Int) := ⟨((mbk M m).2 u).2.2.toNat, by omega⟩
      have wb : wOf (mbk M m) u ((mbk M m).2 u).2.2 = wys (mbk M m) γ := by
        rw [eγ] at s0 s1 ⊢
        exact if_pos ⟨s0, s1⟩
      rw [wb] at ew
      rw [eγ] at s0 s1 p2
      have rg := hw γ (by omega)
      have qs : (0 ≤ (γ : Int)) = True := eq_true s0
      refine cm_go hX7_ways 60 oX7_ways (eX7_ways d hd) lX7_ways_19 ?_
      simp (disch := omega) only [jX7_ways, kX7_ways_0, fl_7_68, fl_7_7, e1, e3, q0, p1, p2, ra, rg, qs, w6_add, k0, r0, r2, r3, r6, r9, r10, r11, r12, r13, r14, r15, r16, r17, r18, r19, r22, r25, r26, r27, c1, c2, c3, c4, c5, c6, c7, c8, c9, c10, c11, c12, c13, c14, c15, c16, c17, c18, c19, l1, l2, l3, l4, l5, l6, l7, l8, l9, l10, l11, l12, l13, l14, l15, l16, l17, l18, l19, cn_iconst, cn_lconst0, cn_lconst1, cn_null, cn_iload, cn_aload, cn_lload, cn_lo1, cn_loa1, cn_loa2, cn_lol1, cn_get0, cn_gets, cn_put0, cn_puts, cn_istore, cn_astore, cn_astoreN, cn_lstore, cn_iinc, cn_in1, cn_iadd, cn_isub, cn_imul, cn_iand, cn_ior, cn_ixor, cn_ishl, cn_ishr, cn_iushr, cn_idiv, cn_irem, cn_ladd, cn_lmul, cn_ldiv, cn_lrem, cn_i2l, cn_l2i, cn_i2b, cn_lcmp, cn_dupi, cn_dupr, cn_dup2, cn_popi, cn_popr, cn_goto, cn_if_eq, cn_if_ne, cn_if_lt, cn_if_ge, cn_if_gt, cn_if_le, cn_ic_eq, cn_ic_ne, cn_ic_lt, cn_ic_ge, cn_ic_gt, cn_ic_le, cn_ifnullN, cn_ifnullR, cn_ifnonnullN, cn_ifnonnullR, cn_tswS, cn_tsw0, cn_tsw1, cn_lswS, cn_lsw0, cn_lsw1, cn_alen, cn_iaload, cn_laload, cn_rr1, cn_rr0, cn_aaload, cn_iastore, cn_lastore, cn_aastore, cn_getfield, cn_gf0, cn_gf1, cn_gf2, cn_gf3, cn_putfield, cn_pf0f, cn_pf1f, cn_pf2f, cn_pf3f, cn_pf0t, cn_pf1t, cn_pf2t, cn_pf3t, cn_new, cn_nw1, cn_newi, cn_newl, cn_anew, cn_an1, cn_inv_v, cn_inv_s, cn_inv_p, cn_ca1, cn_cb1, cn_pop0, cn_pops, cn_rk0, cn_rk1, cn_kcn, cn_kcs, cn_ireturn, cn_lreturn, cn_areturn, cn_return, cn_re0, cn_re1, cn_re2, cn_re3, cn_re4, cn_re5, cn_wp0, cn_wps, cn_m0, cn_m1, cn_e0, cn_en, cn_ei, cn_er, cn_eu, cn_el, cn_nl0, cn_nls, cn_nb0, cn_nb1, cn_nb2, cn_nb3, cn_bd0, cn_bds, cn_cwi, cn_cwr, cn_cwl, cn_cwn, cn_wi2, cn_wl1, cn_wl3, cn_wr1, cn_wr2, cn_wi_eq, cn_wl_eq, cb_0, cb_n0, cb_b, cm_okb0, cm_okb1, Classical.not_not, true_and, and_true, Nat.reduceAdd, Nat.reduceSub, Nat.reduceLT, Nat.reduceLeDiff, Int.reduceToNat, Int.reduceNatCast', Nat.zero_le, Nat.reduceEqDiff, false_or, or_false, or_true, true_or, Int.reduceNeg, reduceCtorEq, false_implies, implies_true, forall_const, true_implies, not_true_eq_false, not_false_eq_true, Nat.le_refl, ne_eq, if_true, if_false, ite_true, ite_false, List.cons_append, List.nil_append, w3_add, w3_sub, w3_mul, w3_le, w3_lt, w3_eq, w3_toInt, w3_ix, w3_00, w3_10, i0_le, i0_lt, i0_ge, i0_gt, i0_eq, Int.reduceLE, Int.reduceLT, Int.reduceAdd, Int.reduceSub, Int.reduceMul, Int.reduceEq, Int.le_refl, Int.lt_irrefl]
      repeat (with_reducible refine And.intro (by omega) ?_)
      exact nx _ _ (by rw [ew, Int.natCast_add])
set_option maxHeartbeats 4000000 in
theorem mX7_ways (d : Nat) (hd : 2 ≤ d) : cm_Met d yX7_ways cX7_ways 4 (some .int) 0 0 SX7_ways := by
  refine cm_meets (J := JX7_ways) (by decide) rfl (fun h => by cases h) trivial ?_
  intro as T M Φ hS
  match as, hS with
  | [.ref m0, .int v], ⟨hD, hS⟩ =>
    refine ⟨Nat.le_of_ble_eq_true rfl, ?_⟩
    obtain ⟨m, hm⟩ : ∃ m : Nat, m = m0 := ⟨m0, rfl⟩
    subst hm
    have hT := hD.1
    obtain ⟨k0, ⟨r0, r2, r3, r6, r9, r10, r11, r12, r13, r14, r15, r16, r17, r18, r19, r22, r25, r26, r27⟩, ⟨c1, c2, c3, c4, c5, c6, c7, c8, c9, c10, c11, c12, c13, c14, c15, c16, c17, c18, c19⟩, ⟨l1, l2, l3, l4, l5, l6, l7, l8, l9, l10, l11, l12, l13, l14, l15, l16, l17, l18, l19⟩⟩ := id hT
    have h16 := hD.n.2
    unfold fWys at hS
    rw [ms_b] at hS
    refine cm_go hX7_ways 60 oX7_ways (eX7_ways d hd) lX7_ways_0 ?_
    simp (disch := omega) only [jX7_ways, kX7_ways_0, fl_7_68, fl_7_7, k0, r0, r2, r3, r6, r9, r10, r11, r12, r13, r14, r15, r16, r17, r18, r19, r22, r25, r26, r27, c1, c2, c3, c4, c5, c6, c7, c8, c9, c10, c11, c12, c13, c14, c15, c16, c17, c18, c19, l1, l2, l3, l4, l5, l6, l7, l8, l9, l10, l11, l12, l13, l14, l15, l16, l17, l18, l19, cn_iconst, cn_lconst0, cn_lconst1, cn_null, cn_iload, cn_aload, cn_lload, cn_lo1, cn_loa1, cn_loa2, cn_lol1, cn_get0, cn_gets, cn_put0, cn_puts, cn_istore, cn_astore, cn_astoreN, cn_lstore, cn_iinc, cn_in1, cn_iadd, cn_isub, cn_imul, cn_iand, cn_ior, cn_ixor, cn_ishl, cn_ishr, cn_iushr, cn_idiv, cn_irem, cn_ladd, cn_lmul, cn_ldiv, cn_lrem, cn_i2l, cn_l2i, cn_i2b, cn_lcmp, cn_dupi, cn_dupr, cn_dup2, cn_popi, cn_popr, cn_goto, cn_if_eq, cn_if_ne, cn_if_lt, cn_if_ge, cn_if_gt, cn_if_le, cn_ic_eq, cn_ic_ne, cn_ic_lt, cn_ic_ge, cn_ic_gt, cn_ic_le, cn_ifnullN, cn_ifnullR, cn_ifnonnullN, cn_ifnonnullR, cn_tswS, cn_tsw0, cn_tsw1, cn_lswS, cn_lsw0, cn_lsw1, cn_alen, cn_iaload, cn_laload, cn_rr1, cn_rr0, cn_aaload, cn_iastore, cn_lastore, cn_aastore, cn_getfield, cn_gf0, cn_gf1, cn_gf2, cn_gf3, cn_putfield, cn_pf0f, cn_pf1f, cn_pf2f, cn_pf3f, cn_pf0t, cn_pf1t, cn_pf2t, cn_pf3t, cn_new, cn_nw1, cn_newi, cn_newl, cn_anew, cn_an1, cn_inv_v, cn_inv_s, cn_inv_p, cn_ca1, cn_cb1, cn_pop0, cn_pops, cn_rk0, cn_rk1, cn_kcn, cn_kcs, cn_ireturn, cn_lreturn, cn_areturn, cn_return, cn_re0, cn_re1, cn_re2, cn_re3, cn_re4, cn_re5, cn_wp0, cn_wps, cn_m0, cn_m1, cn_e0, cn_en, cn_ei, cn_er, cn_eu, cn_el, cn_nl0, cn_nls, cn_nb0, cn_nb1, cn_nb2, cn_nb3, cn_bd0, cn_bds, cn_cwi, cn_cwr, cn_cwl, cn_cwn, cn_wi2, cn_wl1, cn_wl3, cn_wr1, cn_wr2, cn_wi_eq, cn_wl_eq, cb_0, cb_n0, cb_b, cm_okb0, cm_okb1, Classical.not_not, true_and, and_true, Nat.reduceAdd, Nat.reduceSub, Nat.reduceLT, Nat.reduceLeDiff, Int.reduceToNat, Int.reduceNatCast', Nat.zero_le, Nat.reduceEqDiff, false_or, or_false, or_true, true_or, Int.reduceNeg, reduceCtorEq, false_implies, implies_true, forall_const, true_implies, not_true_eq_false, not_false_eq_true, Nat.le_refl, ne_eq, if_true, if_false, ite_true, ite_false, List.cons_append, List.nil_append, w3_add, w3_sub, w3_mul, w3_le, w3_lt, w3_eq, w3_toInt, w3_ix, w3_00, w3_10, i0_le, i0_lt, i0_ge, i0_gt, i0_eq, Int.reduceLE, Int.reduceLT, Int.reduceAdd, Int.reduceSub, Int.reduceMul, Int.reduceEq, Int.le_refl, Int.lt_irrefl]
    refine ⟨hD, ?_⟩
    by_cases h1 : 0 ≤ v.toInt ∧ v.toInt < ((mbk M m).1 : Int)
    · rw [cb_t h1]
      rw [if_pos h1] at hS
      obtain ⟨ν, v1, v2⟩ := i3_nat h1.1
      have hν : ν < (mbk M m).1 := by omega
      rw [v2] at hS
      have hS : mPo T M m Φ (w3 (wys (mbk M m) ν : Int), mst M m) := hS
      have hgo := lX7_ways d hd hD hν (fun M1 F => by
        obtain ⟨d1, d2, d3⟩ := F.md hD
        exact hS M1 d3 d1 d2) ν 1 (cm_wl M (m + 19) 0 (w6 1)) none rfl (Nat.le_refl _) (LG.rf.wl) (fun w hw => by
        have e : w = 0 := by omega
        subst e
        rw [wys_0]
        exact cn_wl_eq)
      rw [← v1] at hgo
      simp (disch := omega) only [jX7_ways, kX7_ways_0, fl_7_68, fl_7_7, k0, r0, r2, r3, r6, r9, r10, r11, r12, r13, r14, r15, r16, r17, r18, r19, r22, r25, r26, r27, c1, c2, c3, c4, c5, c6, c7, c8, c9, c10, c11, c12, c13, c14, c15, c16, c17, c18, c19, l1, l2, l3, l4, l5, l6, l7, l8, l9, l10, l11, l12, l13, l14, l15, l16, l17, l18, l19, cn_iconst, cn_lconst0, cn_lconst1, cn_null, cn_iload, cn_aload, cn_lload, cn_lo1, cn_loa1, cn_loa2, cn_lol1, cn_get0, cn_gets, cn_put0, cn_puts, cn_istore, cn_astore, cn_astoreN, cn_lstore, cn_iinc, cn_in1, cn_iadd, cn_isub, cn_imul, cn_iand, cn_ior, cn_ixor, cn_ishl, cn_ishr, cn_iushr, cn_idiv, cn_irem, cn_ladd, cn_lmul, cn_ldiv, cn_lrem, cn_i2l, cn_l2i, cn_i2b, cn_lcmp, cn_dupi, cn_dupr, cn_dup2, cn_popi, cn_popr, cn_goto, cn_if_eq, cn_if_ne, cn_if_lt, cn_if_ge, cn_if_gt, cn_if_le, cn_ic_eq, cn_ic_ne, cn_ic_lt, cn_ic_ge, cn_ic_gt, cn_ic_le, cn_ifnullN, cn_ifnullR, cn_ifnonnullN, cn_ifnonnullR, cn_tswS, cn_tsw0, cn_tsw1, cn_lswS, cn_lsw0, cn_lsw1, cn_alen, cn_iaload, cn_laload, cn_rr1, cn_rr0, cn_aaload, cn_iastore, cn_lastore, cn_aastore, cn_getfield, cn_gf0, cn_gf1, cn_gf2, cn_gf3, cn_putfield, cn_pf0f, cn_pf1f, cn_pf2f, cn_pf3f, cn_pf0t, cn_pf1t, cn_pf2t, cn_pf3t, cn_new, cn_nw1, cn_newi, cn_newl, cn_anew, cn_an1, cn_inv_v, cn_inv_s, cn_inv_p, cn_ca1, cn_cb1, cn_pop0, cn_pops, cn_rk0, cn_rk1, cn_kcn, cn_kcs, cn_ireturn, cn_lreturn, cn_areturn, cn_return, cn_re0, cn_re1, cn_re2, cn_re3, cn_re4, cn_re5, cn_wp0, cn_wps, cn_m0, cn_m1, cn_e0, cn_en, cn_ei, cn_er, cn_eu, cn_el, cn_nl0, cn_nls, cn_nb0, cn_nb1, cn_nb2, cn_nb3, cn_bd0, cn_bds, cn_cwi, cn_cwr, cn_cwl, cn_cwn, cn_wi2, cn_wl1, cn_wl3, cn_wr1, cn_wr2, cn_wi_eq, cn_wl_eq, cb_0, cb_n0, cb_b, cm_okb0, cm_okb1, Classical.not_not, true_and, and_true, Nat.reduceAdd, Nat.reduceSub, Nat.reduceLT, Nat.reduceLeDiff, Int.reduceToNat, Int.reduceNatCast', Nat.zero_le, Nat.reduceEqDiff, false_or, or_false, or_true, true_or, Int.reduceNeg, reduceCtorEq, false_implies, implies_true, forall_const, true_implies, not_true_eq_false, not_false_eq_true, Nat.le_refl, ne_eq, if_true, if_false, ite_true, ite_false, List.cons_append, List.nil_append, w3_add, w3_sub, w3_mul, w3_le, w3_lt, w3_eq, w3_toInt, w3_ix, w3_00, w3_10, i0_le, i0_lt, i0_ge, i0_gt, i0_eq, Int.reduceLE, Int.reduceLT, Int.reduceAdd, Int.reduceSub, Int.reduceMul, Int.reduceEq, Int.le_refl, Int.lt_irrefl]
      exact hgo
    · rw [cb_f h1]
      rw [if_neg h1] at hS
      simp (disch := omega) only [jX7_ways, kX7_ways_0, fl_7_68, fl_7_7, k0, r0, r2, r3, r6, r9, r10, r11, r12, r13, r14, r15, r16, r17, r18, r19, r22, r25, r26, r27, c1, c2, c3, c4, c5, c6, c7, c8, c9, c10, c11, c12, c13, c14, c15, c16, c17, c18, c19, l1, l2, l3, l4, l5, l6, l7, l8, l9, l10, l11, l12, l13, l14, l15, l16, l17, l18, l19, cn_iconst, cn_lconst0, cn_lconst1, cn_null, cn_iload, cn_aload, cn_lload, cn_lo1, cn_loa1, cn_loa2, cn_lol1, cn_get0, cn_gets, cn_put0, cn_puts, cn_istore, cn_astore, cn_astoreN, cn_lstore, cn_iinc, cn_in1, cn_iadd, cn_isub, cn_imul, cn_iand, cn_ior, cn_ixor, cn_ishl, cn_ishr, cn_iushr, cn_idiv, cn_irem, cn_ladd, cn_lmul, cn_ldiv, cn_lrem, cn_i2l, cn_l2i, cn_i2b, cn_lcmp, cn_dupi, cn_dupr, cn_dup2, cn_popi, cn_popr, cn_goto, cn_if_eq, cn_if_ne, cn_if_lt, cn_if_ge, cn_if_gt, cn_if_le, cn_ic_eq, cn_ic_ne, cn_ic_lt, cn_ic_ge, cn_ic_gt, cn_ic_le, cn_ifnullN, cn_ifnullR, cn_ifnonnullN, cn_ifnonnullR, cn_tswS, cn_tsw0, cn_tsw1, cn_lswS, cn_lsw0, cn_lsw1, cn_alen, cn_iaload, cn_laload, cn_rr1, cn_rr0, cn_aaload, cn_iastore, cn_lastore, cn_aastore, cn_getfield, cn_gf0, cn_gf1, cn_gf2, cn_gf3, cn_putfield, cn_pf0f, cn_pf1f, cn_pf2f, cn_pf3f, cn_pf0t, cn_pf1t, cn_pf2t, cn_pf3t, cn_new, cn_nw1, cn_newi, cn_newl, cn_anew, cn_an1, cn_inv_v, cn_inv_s, cn_inv_p, cn_ca1, cn_cb1, cn_pop0, cn_pops, cn_rk0, cn_rk1, cn_kcn, cn_kcs, cn_ireturn, cn_lreturn, cn_areturn, cn_return, cn_re0, cn_re1, cn_re2, cn_re3, cn_re4, cn_re5, cn_wp0, cn_wps, cn_m0, cn_m1, cn_e0, cn_en, cn_ei, cn_er, cn_eu, cn_el, cn_nl0, cn_nls, cn_nb0, cn_nb1, cn_nb2, cn_nb3, cn_bd0, cn_bds, cn_cwi, cn_cwr, cn_cwl, cn_cwn, cn_wi2, cn_wl1, cn_wl3, cn_wr1, cn_wr2, cn_wi_eq, cn_wl_eq, cb_0, cb_n0, cb_b, cm_okb0, cm_okb1, Classical.not_not, true_and, and_true, Nat.reduceAdd, Nat.reduceSub, Nat.reduceLT, Nat.reduceLeDiff, Int.reduceToNat, Int.reduceNatCast', Nat.zero_le, Nat.reduceEqDiff, false_or, or_false, or_true, true_or, Int.reduceNeg, reduceCtorEq, false_implies, implies_true, forall_const, true_implies, not_true_eq_false, not_false_eq_true, Nat.le_refl, ne_eq, if_true, if_false, ite_true, ite_false, List.cons_append, List.nil_append, w3_add, w3_sub, w3_mul, w3_le, w3_lt, w3_eq, w3_toInt, w3_ix, w3_00, w3_10, i0_le, i0_lt, i0_ge, i0_gt, i0_eq, Int.reduceLE, Int.reduceLT, Int.reduceAdd, Int.reduceSub, Int.reduceMul, Int.reduceEq, Int.le_refl, Int.lt_irrefl]
      exact hS.k hD
/-- the chance, as the reference tells it -/
noncomputable def oW (B : Bk) (b u : Nat) : Int :=
  if u = b then 65536 else if u < b then 0 else (if h : 0 ≤ (B.2 u).2.1 ∧ (B.2 u).2.1 < (u : Int) then (if h2 : 0 ≤ (B.2 u).2.2 ∧ (B.2 u).2.2 < (u : Int) then (oW B b (B.2 u).2.1.toNat + oW B b (B.2 u).2.2.toNat) / 2 else oW B b (B.2 u).2.1.toNat) else 0)
termination_by u
decreasing_by all_goals omega
theorem oW_b {B : Bk} {b : Nat} : oW B b b = 65536 := by rw [oW, if_pos rfl]
theorem oW_l {B : Bk} {b u : Nat} (h : u < b) : oW B b u = 0 := by rw [oW, if_neg (by omega), if_pos h]
theorem oW_1 {B : Bk} {b u α : Nat} (h : b < u) (ha : (B.2 u).2.1 = (α : Int)) (h1 : α < u) (h2 : (B.2 u).2.2 = -9) : oW B b u = oW B b α := by
  rw [oW, if_neg (by omega), if_neg (by omega), dif_pos ⟨by omega, by omega⟩, dif_neg (by omega), ha]
  rfl
theorem oW_2 {B : Bk} {b u α γ : Nat} (h : b < u) (ha : (B.2 u).2.1 = (α : Int)) (h1 : α < u) (hg : (B.2 u).2.2 = (γ : Int)) (h2 : γ < u) : oW B b u = (oW B b α + oW B b γ) / 2 := by
  rw [oW, if_neg (by omega), if_neg (by omega), dif_pos ⟨by omega, by omega⟩, dif_pos ⟨by omega, by omega⟩, ha, hg]
  rfl
theorem WP.sp {B : Bk} {u : Nat} (hp : WP u (B.2 u).2.1 (B.2 u).2.2) (h : u ≠ 0) : ∃ α : Nat, (B.2 u).2.1 = (α : Int) ∧ α < u ∧ ((B.2 u).2.2 = -9 ∨ ∃ γ : Nat, (B.2 u).2.2 = (γ : Int) ∧ γ < u) := by
  obtain ⟨a, b, c⟩ := hp.2 h
  refine ⟨(B.2 u).2.1.toNat, by omega, by omega, ?_⟩
  rcases c with c | c
  · exact Or.inl c
  · exact Or.inr ⟨(B.2 u).2.2.toNat, by omega, by omega⟩
theorem oW_bd {B : Bk} (hW : WB B) {b : Nat} : ∀ u : Nat, u < B.1 → 0 ≤ oW B b u ∧ oW B b u ≤ 65536 := by
  intro u
  induction u using Nat.strongRecOn with
  | _ u ih =>
    intro hu
    rcases Nat.lt_trichotomy u b with h | h | h
    · rw [oW_l h]; omega
    · rw [h, oW_b]; omega
    · obtain ⟨α, a1, a2, a3⟩ := WP.sp (hW.2.1 u hu).2 (by omega)
      have i1 := ih α a2 (by omega)
      rcases a3 with a3 | ⟨γ, g1, g2⟩
      · rw [oW_1 h a1 a2 a3]; exact i1
      · have i2 := ih γ g2 (by omega)
        rw [oW_2 h a1 a2 g1 g2]; omega
/-- z has k twos -/
def Dv (k : Nat) (z : Int) : Prop := ∃ c : Int, z = 2 ^ k * c
theorem Dv_0 {k : Nat} : Dv k 0 := ⟨0, by rw [Int.mul_zero]⟩
theorem Dv_add {k : Nat} {a b : Int} (h : Dv k a) (g : Dv k b) : Dv k (a + b) := by
  obtain ⟨c, hc⟩ := h
  obtain ⟨e, he⟩ := g
  exact ⟨c + e, by rw [hc, he, Int.mul_add]⟩
theorem Dv_mono {j k : Nat} {z : Int} (hjk : j ≤ k) (h : Dv k z) : Dv j z := by
  obtain ⟨c, hc⟩ := h
  refine ⟨2 ^ (k - j) * c, ?_⟩
  rw [hc, ← Int.mul_assoc, ← Int.pow_add, show j + (k - j) = k by omega]
theorem Dv_half {k : Nat} {z : Int} (h : Dv (k + 1) z) : Dv k (z / 2) ∧ z = z / 2 * 2 := by
  obtain ⟨c, hc⟩ := h
  have e : z = 2 ^ k * c * 2 := by
    rw [hc, Int.pow_add, Int.mul_assoc, Int.mul_assoc, Int.mul_comm c 2]
    rfl
  have e2 : z / 2 = 2 ^ k * c := by omega
  exact ⟨⟨c, e2⟩, by omega⟩
theorem Dv_16 : Dv 16 65536 := ⟨1, by decide⟩
theorem oW_dv {B : Bk} (hW : WB B) {b : Nat} : ∀ u : Nat, u < B.1 → Dv (16 - (u - b)) (oW B b u) := by
  have h16 := hW.1
  intro u
  induction u using Nat.strongRecOn with
  | _ u ih =>
    intro hu
    rcases Nat.lt_trichotomy u b with h | h | h
    · rw [oW_l h]; exact Dv_0
    · rw [h, oW_b, Nat.sub_self]; exact Dv_16
    · obtain ⟨α, a1, a2, a3⟩ := WP.sp (hW.2.1 u hu).2 (by omega)
      have i1 := ih α a2 (by omega)
      rcases a3 with a3 | ⟨γ, g1, g2⟩
      · rw [oW_1 h a1 a2 a3]; exact Dv_mono (by omega) i1
      · have i2 := ih γ g2 (by omega)
        rw [oW_2 h a1 a2 g1 g2]
        exact (Dv_half (k := 16 - (u - b)) (Dv_add (Dv_mono (by omega) i1) (Dv_mono (by omega) i2))).1
theorem oW_2e {B : Bk} (hW : WB B) {b u α γ : Nat} (hu : u < B.1) (h : b < u) (ha : (B.2 u).2.1 = (α : Int)) (h1 : α < u) (hg : (B.2 u).2.2 = (γ : Int)) (h2 : γ < u) : oW B b α + oW B b γ = oW B b u * 2 := by
  have h16 := hW.1
  have i1 := oW_dv hW (b := b) α (by omega)
  have i2 := oW_dv hW (b := b) γ (by omega)
  rw [oW_2 h ha h1 hg h2]
  exact (Dv_half (k := 16 - (u - b)) (Dv_add (Dv_mono (by omega) i1) (Dv_mono (by omega) i2))).2
def sW (τ W : Nat → Int) : Nat → Int
  | 0 => 0
  | k + 1 => sW τ W k + τ k * W k
theorem sW_z {τ W : Nat → Int} : ∀ k : Nat, (∀ x, x < k → τ x * W x = 0) → sW τ W k = 0
  | 0, _ => rfl
  | k + 1, h => by
    show sW τ W k + τ k * W k = 0
    rw [sW_z k (fun x hx => h x (by omega)), h k (by omega)]
    rfl
theorem sW_in {n : Nat} {τ W : Nat → Int} {u : Nat} {p : Int} (hu : u < n) : ∀ k : Nat, sW (addP n τ (u : Int) p) W k = sW τ W k + (if u < k then p * W u else 0)
  | 0 => by rw [if_neg (by omega)]; rfl
  | k + 1 => by
    show sW (addP n τ (u : Int) p) W k + addP n τ (u : Int) p k * W k = sW τ W k + τ k * W k + _
    rw [sW_in hu k]
    have ea : addP n τ (u : Int) p k = if k = u then τ k + p else τ k := by
      unfold addP
      by_cases e : k = u
      · rw [if_pos ⟨⟨by omega, by omega⟩, by rw [e]; rfl⟩, if_pos e]
      · rw [if_neg (fun w => e w.2), if_neg e]
    rw [ea]
    by_cases e : k = u
    · rw [if_pos e, if_neg (by omega), if_pos (by omega), Int.add_mul, e]
      omega
    · rw [if_neg e]
      by_cases q : u < k
      · rw [if_pos q, if_pos (by omega)]
        omega
      · rw [if_neg q, if_neg (by omega)]
        omega
theorem addP_n {n : Nat} {τ : Nat → Int} {u p : Int} (h : u < 0) : addP n τ u p = τ := by
  refine funext fun w => ?_
  unfold addP
  rw [if_neg (by omega)]
theorem pLs_s {B : Bk} {v j : Nat} : pLs B v (j + 1) = pSt B (pLs B v j) (v - j) := rfl
theorem pSt_1 {B : Bk} {τ : Nat → Int} {x α : Nat} (ha : (B.2 x).2.1 = (α : Int)) (h2 : (B.2 x).2.2 = -9) : pSt B τ x = addP B.1 τ (α : Int) (τ x) := by
  have e : prp B τ x = τ x := if_neg (by omega)
  unfold pSt
  rw [e, ha, addP_n (by omega)]
theorem pSt_2 {B : Bk} {τ : Nat → Int} {x α γ : Nat} (ha : (B.2 x).2.1 = (α : Int)) (hg : (B.2 x).2.2 = (γ : Int)) (hn : γ < B.1) : pSt B τ x = addP B.1 (addP B.1 τ (α : Int) (τ x / 2)) (γ : Int) (τ x / 2) := by
  have e : prp B τ x = τ x / 2 := if_pos (by omega)
  unfold pSt
  rw [e, ha, hg]
theorem addP_at {n : Nat} {τ : Nat → Int} {u w : Nat} {p : Int} : addP n τ (u : Int) p w = τ w ∨ (w = u ∧ addP n τ (u : Int) p w = τ w + p) := by
  unfold addP
  by_cases h : (0 ≤ (u : Int) ∧ (u : Int) < (n : Int)) ∧ w = ((u : Int)).toNat
  · rw [if_pos h]
    exact Or.inr ⟨h.2, rfl⟩
  · rw [if_neg h]
    exact Or.inl rfl
theorem pLs_dv {B : Bk} (hW : WB B) {v : Nat} (hv : v < B.1) : ∀ j : Nat, j ≤ v → ∀ x : Nat, x ≤ v → Dv (16 - (v - x)) (pLs B v j x) := by
  have h16 := hW.1
  intro j
  induction j with
  | zero =>
    intro _ x hx
    show Dv (16 - (v - x)) (if x = v then 65536 else 0)
    by_cases e : x = v
    · rw [if_pos e, e, Nat.sub_self]; exact Dv_16
    · rw [if_neg e]; exact Dv_0
  | succ j ih =>
    intro hj x hx
    have ih := ih (by omega)
    have i0 := ih (v - j) (by omega)
    rw [pLs_s]
    obtain ⟨α, a1, a2, a3⟩ := WP.sp (hW.2.1 (v - j) (by omega)).2 (by omega)
    rcases a3 with a3 | ⟨γ, g1, g2⟩
    · rw [pSt_1 a1 a3]
      rcases addP_at (n := B.1) (τ := pLs B v j) (u := α) (w := x) (p := pLs B v j (v - j)) with e | ⟨e1, e⟩
      · rw [e]; exact ih x hx
      · rw [e]; exact Dv_add (ih x hx) (Dv_mono (by omega) i0)
    · rw [pSt_2 a1 g1 (by omega)]
      have i2 : Dv (16 - (v - (v - j)) - 1) (pLs B v j (v - j) / 2) := (Dv_half (Dv_mono (by omega) i0)).1
      have s1 : Dv (16 - (v - x)) (addP B.1 (pLs B v j) (α : Int) (pLs B v j (v - j) / 2) x) := by
        rcases addP_at (n := B.1) (τ := pLs B v j) (u := α) (w := x) (p := pLs B v j (v - j) / 2) with e | ⟨e1, e⟩
        · rw [e]; exact ih x hx
        · rw [e]; exact Dv_add (ih x hx) (Dv_mono (by omega) i2)
      rcases addP_at (n := B.1) (τ := addP B.1 (pLs B v j) (α : Int) (pLs B v j (v - j) / 2)) (u := γ) (w := x) (p := pLs B v j (v - j) / 2) with e | ⟨e1, e⟩
      · rw [e]; exact s1
      · rw [e]; exact Dv_add s1 (Dv_mono (by omega) i2)
theorem pLs_sum {B : Bk} (hW : WB B) {v b : Nat} (hv : v < B.1) : ∀ j : Nat, j + b ≤ v → sW (pLs B v j) (oW B b) (v - j + 1) = 65536 * oW B b v := by
  have h16 := hW.1
  intro j
  induction j with
  | zero =>
    intro _
    show sW (pLs B v 0) (oW B b) v + pLs B v 0 v * oW B b v = _
    have e0 : pLs B v 0 v = 65536 := if_pos rfl
    rw [e0, sW_z v (fun x hx => by
      have e1 : pLs B v 0 x = 0 := if_neg (by omega)
      rw [e1, Int.zero_mul]), Int.zero_add]
  | succ j ih =>
    intro hj
    have ih := ih (by omega)
    rw [show v - (j + 1) + 1 = v - j by omega, pLs_s, ← ih]
    show _ = sW (pLs B v j) (oW B b) (v - j) + pLs B v j (v - j) * oW B b (v - j)
    obtain ⟨α, a1, a2, a3⟩ := WP.sp (hW.2.1 (v - j) (by omega)).2 (by omega)
    rcases a3 with a3 | ⟨γ, g1, g2⟩
    · rw [pSt_1 a1 a3, sW_in (by omega), if_pos a2, oW_1 (by omega) a1 a2 a3]
    · have e1 := (Dv_half (k := 16 - (v - (v - j)) - 1) (Dv_mono (by omega) (pLs_dv hW hv j (by omega) (v - j) (by omega)))).2
      have e2 := oW_2e hW (b := b) (show v - j < B.1 by omega) (by omega) a1 a2 g1 g2
      rw [pSt_2 a1 g1 (by omega), sW_in (by omega), if_pos g2, sW_in (by omega), if_pos a2, Int.add_assoc, ← Int.mul_add, e2]
      conv => rhs; rw [e1]
      rw [Int.mul_assoc, Int.mul_comm 2 (oW B b (v - j))]
theorem pLs_oW {B : Bk} (hW : WB B) {v b : Nat} (hv : v < B.1) : pLs B v (v - b) b = oW B b v := by
  by_cases h : b ≤ v
  · have e := pLs_sum hW (b := b) hv (v - b) (by omega)
    rw [show v - (v - b) + 1 = b + 1 by omega] at e
    have e2 : sW (pLs B v (v - b)) (oW B b) b + pLs B v (v - b) b * oW B b b = 65536 * oW B b v := e
    rw [sW_z b (fun x hx => by rw [oW_l hx, Int.mul_zero]), oW_b] at e2
    omega
  · rw [show v - b = 0 by omega, oW_l (by omega)]
    exact if_neg (by omega)
def LG2 (M M1 : cm_M) (m : Nat) : Prop := M1.1 = M.1 ∧ M1.2.2 = M.2.2 ∧ ∀ q : Nat, q < m ∨ m + 20 ≤ q → M1.2.1 q = M.2.1 q
theorem LG2.wl {M M1 : cm_M} {m a : Nat} {k : Int} {v : Int64} (h : LG2 M M1 m) (ha : m ≤ a ∧ a < m + 20) : LG2 M (cm_wl M1 a k v) m := ⟨h.1, h.2.1, fun q hq => by rw [← h.2.2 q hq]; exact funext fun j => cn_wl_ne (Or.inl (by omega))⟩
theorem lg_1 {z : Int} (h0 : 0 ≤ z) (h1 : z ≤ 4611686018427387904) : (lg_cmp (w6 z) (w6 1) ≤ 0) = (z ≤ 1) := by
  rw [propext (lg_cmp_le _ _), propext Int64.le_iff_toInt_le, w6_toInt (by omega) (by omega), w6_toInt (by omega) (by omega)]
def SX7_odds : cm_CT := fun as T M Φ => match as with
  | [.ref m, .int v, .int b] => MD T M m ∧ mPo T M m Φ (fOdd (mst M m) v.toInt b.toInt)
  | _ => False
def JX7_odds : cm_J := (7, false, 1, [(223, 2, 8, 0, 0, SX7_isVersion)], [], [])
theorem jX7_odds : JX7_odds.1 = 7 ∧ JX7_odds.2.1 = false ∧ JX7_odds.2.2.1 = 1 ∧ cm_gv JX7_odds 223 = some (2, 8, 0, 0, SX7_isVersion) := ⟨rfl, rfl, rfl, rfl⟩
theorem eX7_odds (d : Nat) (hd : 2 ≤ d) : cm_Cok d JX7_odds := ⟨(List.forall_mem_cons.mpr ⟨q7_223 (mX7_isVersion (d - 1) (by omega)) (by omega), (fun q h => by cases h)⟩), (fun q h => by cases h), (fun q h => by cases h)⟩
set_option maxHeartbeats 8000000 in
theorem l2X7_odds (d : Nat) (hd : 2 ≤ d) {T : cm_T} {M : cm_M} {Φ : Option Value → cm_T → cm_M → Prop} {m : Nat} {v b : Int32} {o3 o4 o5 : Option Value} {U V : Int} (hT : TMd T M.2.2 m) (hS : ∀ M1, LG2 M M1 m → M1.2.1 m 7 = w6 U → M1.2.1 m 8 = w6 V → Φ (some (.int (w3 1))) T M1) :
    ∀ (n : Nat) (u l : Int) (M1 : cm_M), n ≤ 16 → l = 2 ^ n → 0 ≤ u → u ≤ 4611686018427387904 → LG2 M M1 m → M1.2.1 m 7 = w6 u → M1.2.1 m 8 = w6 l → odr n u l = (U, V) → cm_Go d cX7_odds 6 0 0 JX7_odds Φ 134 [some (.ref m), some (.int v), some (.int b), o3, o4, o5] [] (0, 0) T M1 := by
  obtain ⟨k0, ⟨r0, r2, r3, r6, r9, r10, r11, r12, r13, r14, r15, r16, r17, r18, r19, r22, r25, r26, r27⟩, ⟨c1, c2, c3, c4, c5, c6, c7, c8, c9, c10, c11, c12, c13, c14, c15, c16, c17, c18, c19⟩, ⟨l1, l2, l3, l4, l5, l6, l7, l8, l9, l10, l11, l12, l13, l14, l15, l16, l17, l18, l19⟩⟩ := id hT
  have z2 : (w6 2 = 0) = False := eq_false (by decide)
  intro n
  induction n with
  | zero =>
    intro u l M1 _ hl u0 u1 F h7 h8 hr
    have hl : l = 1 := hl
    subst hl
    have hr2 : (u, (1 : Int)) = (U, V) := hr
    have hU : u = U := congrArg Prod.fst hr2
    have hV : (1 : Int) = V := congrArg Prod.snd hr2
    subst hU hV
    have e3 := F.2.1
    have d1 := w6_div u0 u1
    have p1 := w6_par u0 u1
    rw [d1] at p1
    have g1 := lg_z (z := u % 2) (by omega) (by omega)
    have g2 : (lg_cmp (w6 1) (w6 1) ≤ 0) = True := eq_true (by decide)
    have hQ := hS M1 F h7 h8
    by_cases q : u % 2 = 0
    · have q1 := eq_true q
      refine cm_go hX7_odds 60 oX7_odds (eX7_odds d hd) lX7_odds_134 ?_
      simp (disch := omega) only [jX7_odds, kX7_odds_0, kX7_odds_1, fl_7_7, fl_7_68, ll_7_295, ll_7_297, fl_7_299, fl_7_22, e3, h7, h8, d1, p1, g1, g2, q1, z2, cn_ldi, cn_ldl, cn_lki1, cn_lkk1, k0, r0, r2, r3, r6, r9, r10, r11, r12, r13, r14, r15, r16, r17, r18, r19, r22, r25, r26, r27, c1, c2, c3, c4, c5, c6, c7, c8, c9, c10, c11, c12, c13, c14, c15, c16, c17, c18, c19, l1, l2, l3, l4, l5, l6, l7, l8, l9, l10, l11, l12, l13, l14, l15, l16, l17, l18, l19, cn_iconst, cn_lconst0, cn_lconst1, cn_null, cn_iload, cn_aload, cn_lload, cn_lo1, cn_loa1, cn_loa2, cn_lol1, cn_get0, cn_gets, cn_put0, cn_puts, cn_istore, cn_astore, cn_astoreN, cn_lstore, cn_iinc, cn_in1, cn_iadd, cn_isub, cn_imul, cn_iand, cn_ior, cn_ixor, cn_ishl, cn_ishr, cn_iushr, cn_idiv, cn_irem, cn_ladd, cn_lmul, cn_ldiv, cn_lrem, cn_i2l, cn_l2i, cn_i2b, cn_lcmp, cn_dupi, cn_dupr, cn_dup2, cn_popi, cn_popr, cn_goto, cn_if_eq, cn_if_ne, cn_if_lt, cn_if_ge, cn_if_gt, cn_if_le, cn_ic_eq, cn_ic_ne, cn_ic_lt, cn_ic_ge, cn_ic_gt, cn_ic_le, cn_ifnullN, cn_ifnullR, cn_ifnonnullN, cn_ifnonnullR, cn_tswS, cn_tsw0, cn_tsw1, cn_lswS, cn_lsw0, cn_lsw1, cn_alen, cn_iaload, cn_laload, cn_rr1, cn_rr0, cn_aaload, cn_iastore, cn_lastore, cn_aastore, cn_getfield, cn_gf0, cn_gf1, cn_gf2, cn_gf3, cn_putfield, cn_pf0f, cn_pf1f, cn_pf2f, cn_pf3f, cn_pf0t, cn_pf1t, cn_pf2t, cn_pf3t, cn_new, cn_nw1, cn_newi, cn_newl, cn_anew, cn_an1, cn_inv_v, cn_inv_s, cn_inv_p, cn_ca1, cn_cb1, cn_pop0, cn_pops, cn_rk0, cn_rk1, cn_kcn, cn_kcs, cn_ireturn, cn_lreturn, cn_areturn, cn_return, cn_re0, cn_re1, cn_re2, cn_re3, cn_re4, cn_re5, cn_wp0, cn_wps, cn_m0, cn_m1, cn_e0, cn_en, cn_ei, cn_er, cn_eu, cn_el, cn_nl0, cn_nls, cn_nb0, cn_nb1, cn_nb2, cn_nb3, cn_bd0, cn_bds, cn_cwi, cn_cwr, cn_cwl, cn_cwn, cn_wi2, cn_wl1, cn_wl3, cn_wr1, cn_wr2, cn_wi_eq, cn_wl_eq, cb_0, cb_n0, cb_b, cm_okb0, cm_okb1, Classical.not_not, true_and, and_true, Nat.reduceAdd, Nat.reduceSub, Nat.reduceLT, Nat.reduceLeDiff, Int.reduceToNat, Int.reduceNatCast', Nat.zero_le, Nat.reduceEqDiff, false_or, or_false, or_true, true_or, Int.reduceNeg, reduceCtorEq, false_implies, implies_true, forall_const, true_implies, not_true_eq_false, not_false_eq_true, Nat.le_refl, ne_eq, if_true, if_false, ite_true, ite_false, List.cons_append, List.nil_append, w3_add, w3_sub, w3_mul, w3_le, w3_lt, w3_eq, w3_toInt, w3_ix, w3_00, w3_10, i0_le, i0_lt, i0_ge, i0_gt, i0_eq, Int.reduceLE, Int.reduceLT, Int.reduceAdd, Int.reduceSub, Int.reduceMul, Int.reduceEq, Int.le_refl, Int.lt_irrefl]
      exact hQ
    · have q1 := eq_false q
      refine cm_go hX7_odds 60 oX7_odds (eX7_odds d hd) lX7_odds_134 ?_
      simp (disch := omega) only [jX7_odds, kX7_odds_0, kX7_odds_1, fl_7_7, fl_7_68, ll_7_295, ll_7_297, fl_7_299, fl_7_22, e3, h7, h8, d1, p1, g1, g2, q1, z2, cn_ldi, cn_ldl, cn_lki1, cn_lkk1, k0, r0, r2, r3, r6, r9, r10, r11, r12, r13, r14, r15, r16, r17, r18, r19, r22, r25, r26, r27, c1, c2, c3, c4, c5, c6, c7, c8, c9, c10, c11, c12, c13, c14, c15, c16, c17, c18, c19, l1, l2, l3, l4, l5, l6, l7, l8, l9, l10, l11, l12, l13, l14, l15, l16, l17, l18, l19, cn_iconst, cn_lconst0, cn_lconst1, cn_null, cn_iload, cn_aload, cn_lload, cn_lo1, cn_loa1, cn_loa2, cn_lol1, cn_get0, cn_gets, cn_put0, cn_puts, cn_istore, cn_astore, cn_astoreN, cn_lstore, cn_iinc, cn_in1, cn_iadd, cn_isub, cn_imul, cn_iand, cn_ior, cn_ixor, cn_ishl, cn_ishr, cn_iushr, cn_idiv, cn_irem, cn_ladd, cn_lmul, cn_ldiv, cn_lrem, cn_i2l, cn_l2i, cn_i2b, cn_lcmp, cn_dupi, cn_dupr, cn_dup2, cn_popi, cn_popr, cn_goto, cn_if_eq, cn_if_ne, cn_if_lt, cn_if_ge, cn_if_gt, cn_if_le, cn_ic_eq, cn_ic_ne, cn_ic_lt, cn_ic_ge, cn_ic_gt, cn_ic_le, cn_ifnullN, cn_ifnullR, cn_ifnonnullN, cn_ifnonnullR, cn_tswS, cn_tsw0, cn_tsw1, cn_lswS, cn_lsw0, cn_lsw1, cn_alen, cn_iaload, cn_laload, cn_rr1, cn_rr0, cn_aaload, cn_iastore, cn_lastore, cn_aastore, cn_getfield, cn_gf0, cn_gf1, cn_gf2, cn_gf3, cn_putfield, cn_pf0f, cn_pf1f, cn_pf2f, cn_pf3f, cn_pf0t, cn_pf1t, cn_pf2t, cn_pf3t, cn_new, cn_nw1, cn_newi, cn_newl, cn_anew, cn_an1, cn_inv_v, cn_inv_s, cn_inv_p, cn_ca1, cn_cb1, cn_pop0, cn_pops, cn_rk0, cn_rk1, cn_kcn, cn_kcs, cn_ireturn, cn_lreturn, cn_areturn, cn_return, cn_re0, cn_re1, cn_re2, cn_re3, cn_re4, cn_re5, cn_wp0, cn_wps, cn_m0, cn_m1, cn_e0, cn_en, cn_ei, cn_er, cn_eu, cn_el, cn_nl0, cn_nls, cn_nb0, cn_nb1, cn_nb2, cn_nb3, cn_bd0, cn_bds, cn_cwi, cn_cwr, cn_cwl, cn_cwn, cn_wi2, cn_wl1, cn_wl3, cn_wr1, cn_wr2, cn_wi_eq, cn_wl_eq, cb_0, cb_n0, cb_b, cm_okb0, cm_okb1, Classical.not_not, true_and, and_true, Nat.reduceAdd, Nat.reduceSub, Nat.reduceLT, Nat.reduceLeDiff, Int.reduceToNat, Int.reduceNatCast', Nat.zero_le, Nat.reduceEqDiff, false_or, or_false, or_true, true_or, Int.reduceNeg, reduceCtorEq, false_implies, implies_true, forall_const, true_implies, not_true_eq_false, not_false_eq_true, Nat.le_refl, ne_eq, if_true, if_false, ite_true, ite_false, List.cons_append, List.nil_append, w3_add, w3_sub, w3_mul, w3_le, w3_lt, w3_eq, w3_toInt, w3_ix, w3_00, w3_10, i0_le, i0_lt, i0_ge, i0_gt, i0_eq, Int.reduceLE, Int.reduceLT, Int.reduceAdd, Int.reduceSub, Int.reduceMul, Int.reduceEq, Int.le_refl, Int.lt_irrefl]
      exact hQ
  | succ n ih =>
    intro u l M1 hn hl u0 u1 F h7 h8 hr
    have hr2 : (if u % 2 = 0 ∧ l % 2 = 0 then odr n (u / 2) (l / 2) else (u, l)) = (U, V) := hr
    have e3 := F.2.1
    have pn : (1 : Int) ≤ 2 ^ n := by
      have : ∀ k : Nat, (1 : Int) ≤ 2 ^ k := fun k => by
        induction k with
        | zero => decide
        | succ k ih => rw [Int.pow_succ]; omega
      exact this n
    have pl : l = 2 ^ n * 2 := by rw [hl, Int.pow_succ]
    have p16 : (2 : Int) ^ n ≤ 65536 := by
      have key : ∀ k : Fin 17, (2 : Int) ^ k.val ≤ 65536 := by decide
      exact key ⟨n, by omega⟩
    have d1 := w6_div u0 u1
    have p1 := w6_par u0 u1
    rw [d1] at p1
    have d2 := w6_div (z := l) (by omega) (by omega)
    have g1 := lg_z (z := u % 2) (by omega) (by omega)
    have g2 := lg_1 (z := l) (by omega) (by omega)
    have q2 : (l ≤ 1) = False := eq_false (by omega)
    by_cases q : u % 2 = 0
    · have q1 := eq_true q
      rw [if_pos ⟨q, by omega⟩] at hr2
      have h8' : (cm_wl M1 m 7 (w6 (u / 2))).2.1 m 8 = w6 l := by rw [cn_wl_ne (Or.inr (by decide))]; exact h8
      have nx := ih (u / 2) (l / 2) (cm_wl (cm_wl M1 m 7 (w6 (u / 2))) m 8 (w6 (l / 2))) (by omega) (by omega) (by omega) (by omega) ((F.wl (by omega)).wl (by omega)) (by rw [cn_wl_ne (Or.inr (by decide))]; exact cn_wl_eq) cn_wl_eq hr2
      refine cm_go hX7_odds 60 oX7_odds (eX7_odds d hd) lX7_odds_134 ?_
      simp (disch := omega) only [jX7_odds, kX7_odds_0, kX7_odds_1, fl_7_7, fl_7_68, ll_7_295, ll_7_297, fl_7_299, fl_7_22, e3, h7, h8, h8', d1, d2, p1, g1, g2, q1, q2, z2, cn_ldi, cn_ldl, cn_lki1, cn_lkk1, k0, r0, r2, r3, r6, r9, r10, r11, r12, r13, r14, r15, r16, r17, r18, r19, r22, r25, r26, r27, c1, c2, c3, c4, c5, c6, c7, c8, c9, c10, c11, c12, c13, c14, c15, c16, c17, c18, c19, l1, l2, l3, l4, l5, l6, l7, l8, l9, l10, l11, l12, l13, l14, l15, l16, l17, l18, l19, cn_iconst, cn_lconst0, cn_lconst1, cn_null, cn_iload, cn_aload, cn_lload, cn_lo1, cn_loa1, cn_loa2, cn_lol1, cn_get0, cn_gets, cn_put0, cn_puts, cn_istore, cn_astore, cn_astoreN, cn_lstore, cn_iinc, cn_in1, cn_iadd, cn_isub, cn_imul, cn_iand, cn_ior, cn_ixor, cn_ishl, cn_ishr, cn_iushr, cn_idiv, cn_irem, cn_ladd, cn_lmul, cn_ldiv, cn_lrem, cn_i2l, cn_l2i, cn_i2b, cn_lcmp, cn_dupi, cn_dupr, cn_dup2, cn_popi, cn_popr, cn_goto, cn_if_eq, cn_if_ne, cn_if_lt, cn_if_ge, cn_if_gt, cn_if_le, cn_ic_eq, cn_ic_ne, cn_ic_lt, cn_ic_ge, cn_ic_gt, cn_ic_le, cn_ifnullN, cn_ifnullR, cn_ifnonnullN, cn_ifnonnullR, cn_tswS, cn_tsw0, cn_tsw1, cn_lswS, cn_lsw0, cn_lsw1, cn_alen, cn_iaload, cn_laload, cn_rr1, cn_rr0, cn_aaload, cn_iastore, cn_lastore, cn_aastore, cn_getfield, cn_gf0, cn_gf1, cn_gf2, cn_gf3, cn_putfield, cn_pf0f, cn_pf1f, cn_pf2f, cn_pf3f, cn_pf0t, cn_pf1t, cn_pf2t, cn_pf3t, cn_new, cn_nw1, cn_newi, cn_newl, cn_anew, cn_an1, cn_inv_v, cn_inv_s, cn_inv_p, cn_ca1, cn_cb1, cn_pop0, cn_pops, cn_rk0, cn_rk1, cn_kcn, cn_kcs, cn_ireturn, cn_lreturn, cn_areturn, cn_return, cn_re0, cn_re1, cn_re2, cn_re3, cn_re4, cn_re5, cn_wp0, cn_wps, cn_m0, cn_m1, cn_e0, cn_en, cn_ei, cn_er, cn_eu, cn_el, cn_nl0, cn_nls, cn_nb0, cn_nb1, cn_nb2, cn_nb3, cn_bd0, cn_bds, cn_cwi, cn_cwr, cn_cwl, cn_cwn, cn_wi2, cn_wl1, cn_wl3, cn_wr1, cn_wr2, cn_wi_eq, cn_wl_eq, cb_0, cb_n0, cb_b, cm_okb0, cm_okb1, Classical.not_not, true_and, and_true, Nat.reduceAdd, Nat.reduceSub, Nat.reduceLT, Nat.reduceLeDiff, Int.reduceToNat, Int.reduceNatCast', Nat.zero_le, Nat.reduceEqDiff, false_or, or_false, or_true, true_or, Int.reduceNeg, reduceCtorEq, false_implies, implies_true, forall_const, true_implies, not_true_eq_false, not_false_eq_true, Nat.le_refl, ne_eq, if_true, if_false, ite_true, ite_false, List.cons_append, List.nil_append, w3_add, w3_sub, w3_mul, w3_le, w3_lt, w3_eq, w3_toInt, w3_ix, w3_00, w3_10, i0_le, i0_lt, i0_ge, i0_gt, i0_eq, Int.reduceLE, Int.reduceLT, Int.reduceAdd, Int.reduceSub, Int.reduceMul, Int.reduceEq, Int.le_refl, Int.lt_irrefl]
      exact nx
    · have q1 := eq_false q
      rw [if_neg (fun w => q w.1)] at hr2
      cases hr2
      have hQ := hS M1 F h7 h8
      refine cm_go hX7_odds 60 oX7_odds (eX7_odds d hd) lX7_odds_134 ?_
      simp (disch := omega) only [jX7_odds, kX7_odds_0, kX7_odds_1, fl_7_7, fl_7_68, ll_7_295, ll_7_297, fl_7_299, fl_7_22, e3, h7, h8, d1, d2, p1, g1, g2, q1, q2, z2, cn_ldi, cn_ldl, cn_lki1, cn_lkk1, k0, r0, r2, r3, r6, r9, r10, r11, r12, r13, r14, r15, r16, r17, r18, r19, r22, r25, r26, r27, c1, c2, c3, c4, c5, c6, c7, c8, c9, c10, c11, c12, c13, c14, c15, c16, c17, c18, c19, l1, l2, l3, l4, l5, l6, l7, l8, l9, l10, l11, l12, l13, l14, l15, l16, l17, l18, l19, cn_iconst, cn_lconst0, cn_lconst1, cn_null, cn_iload, cn_aload, cn_lload, cn_lo1, cn_loa1, cn_loa2, cn_lol1, cn_get0, cn_gets, cn_put0, cn_puts, cn_istore, cn_astore, cn_astoreN, cn_lstore, cn_iinc, cn_in1, cn_iadd, cn_isub, cn_imul, cn_iand, cn_ior, cn_ixor, cn_ishl, cn_ishr, cn_iushr, cn_idiv, cn_irem, cn_ladd, cn_lmul, cn_ldiv, cn_lrem, cn_i2l, cn_l2i, cn_i2b, cn_lcmp, cn_dupi, cn_dupr, cn_dup2, cn_popi, cn_popr, cn_goto, cn_if_eq, cn_if_ne, cn_if_lt, cn_if_ge, cn_if_gt, cn_if_le, cn_ic_eq, cn_ic_ne, cn_ic_lt, cn_ic_ge, cn_ic_gt, cn_ic_le, cn_ifnullN, cn_ifnullR, cn_ifnonnullN, cn_ifnonnullR, cn_tswS, cn_tsw0, cn_tsw1, cn_lswS, cn_lsw0, cn_lsw1, cn_alen, cn_iaload, cn_laload, cn_rr1, cn_rr0, cn_aaload, cn_iastore, cn_lastore, cn_aastore, cn_getfield, cn_gf0, cn_gf1, cn_gf2, cn_gf3, cn_putfield, cn_pf0f, cn_pf1f, cn_pf2f, cn_pf3f, cn_pf0t, cn_pf1t, cn_pf2t, cn_pf3t, cn_new, cn_nw1, cn_newi, cn_newl, cn_anew, cn_an1, cn_inv_v, cn_inv_s, cn_inv_p, cn_ca1, cn_cb1, cn_pop0, cn_pops, cn_rk0, cn_rk1, cn_kcn, cn_kcs, cn_ireturn, cn_lreturn, cn_areturn, cn_return, cn_re0, cn_re1, cn_re2, cn_re3, cn_re4, cn_re5, cn_wp0, cn_wps, cn_m0, cn_m1, cn_e0, cn_en, cn_ei, cn_er, cn_eu, cn_el, cn_nl0, cn_nls, cn_nb0, cn_nb1, cn_nb2, cn_nb3, cn_bd0, cn_bds, cn_cwi, cn_cwr, cn_cwl, cn_cwn, cn_wi2, cn_wl1, cn_wl3, cn_wr1, cn_wr2, cn_wi_eq, cn_wl_eq, cb_0, cb_n0, cb_b, cm_okb0, cm_okb1, Classical.not_not, true_and, and_true, Nat.reduceAdd, Nat.reduceSub, Nat.reduceLT, Nat.reduceLeDiff, Int.reduceToNat, Int.reduceNatCast', Nat.zero_le, Nat.reduceEqDiff, false_or, or_false, or_true, true_or, Int.reduceNeg, reduceCtorEq, false_implies, implies_true, forall_const, true_implies, not_true_eq_false, not_false_eq_true, Nat.le_refl, ne_eq, if_true, if_false, ite_true, ite_false, List.cons_append, List.nil_append, w3_add, w3_sub, w3_mul, w3_le, w3_lt, w3_eq, w3_toInt, w3_ix, w3_00, w3_10, i0_le, i0_lt, i0_ge, i0_gt, i0_eq, Int.reduceLE, Int.reduceLT, Int.reduceAdd, Int.reduceSub, Int.reduceMul, Int.reduceEq, Int.le_refl, Int.lt_irrefl]
      exact hQ
set_option maxHeartbeats 8000000 in
theorem lX7_odds (d : Nat) (hd : 2 ≤ d) {T : cm_T} {M : cm_M} {Φ : Option Value → cm_T → cm_M → Prop} {m ν β : Nat} (hD : MD T M m) (hν : ν < (mbk M m).1) (hβ : β < (mbk M m).1) (hS : ∀ M1, LG2 M M1 m → M1.2.1 m 7 = w6 (odr 16 (oW (mbk M m) β ν) 65536).1 → M1.2.1 m 8 = w6 (odr 16 (oW (mbk M m) β ν) 65536).2 → Φ (some (.int (w3 1))) T M1) :
    ∀ (g u : Nat) (M1 : cm_M) (o4 o5 : Option Value), g + u = ν + 1 → LG M M1 m → (∀ w : Nat, w < u → M1.2.1 (m + 19) (w : Int) = w6 (oW (mbk M m) β w)) → cm_Go d cX7_odds 6 0 0 JX7_odds Φ 20 [some (.ref m), some (.int (w3 (ν : Int))), some (.int (w3 (β : Int))), some (.int (w3 (u : Int))), o4, o5] [] (0, 0) T M1 := by
  have hT := hD.1
  obtain ⟨k0, ⟨r0, r2, r3, r6, r9, r10, r11, r12, r13, r14, r15, r16, r17, r18, r19, r22, r25, r26, r27⟩, ⟨c1, c2, c3, c4, c5, c6, c7, c8, c9, c10, c11, c12, c13, c14, c15, c16, c17, c18, c19⟩, ⟨l1, l2, l3, l4, l5, l6, l7, l8, l9, l10, l11, l12, l13, l14, l15, l16, l17, l18, l19⟩⟩ := id hT
  have h16 := hD.n.2
  have hW : WB (mbk M m) := hD.2.1.2.1.1
  have hB : BW (M.1 (m + 1)) 0 (mbk M m).1 := hD.2.1.2.1
  have z2 : (w6 2 = 0) = False := eq_false (by decide)
  intro g
  induction g with
  | zero =>
    intro u M1 o4 o5 hu F hw
    have eu : u = ν + 1 := by omega
    subst eu
    have e1 := F.1
    have e3 := F.2.1
    have rd := hw ν (by omega)
    have q0 : ((ν : Int) < ((ν + 1 : Nat) : Int)) = True := eq_true (by omega)
    have bd := oW_bd hW (b := β) ν hν
    have F2 : LG2 M M1 m := ⟨F.1, F.2.1, fun q hq => F.2.2 q (by omega)⟩
    have hgo := fun o3 o4 o5 => l2X7_odds d hd (M := M) (v := w3 (ν : Int)) (b := w3 (β : Int)) (o3 := o3) (o4 := o4) (o5 := o5) hT hS 16 (oW (mbk M m) β ν) 65536 (cm_wl (cm_wl M1 m 7 (w6 (oW (mbk M m) β ν))) m 8 (w6 65536)) (Nat.le_refl _) (by decide) bd.1 (by omega) ((F2.wl (by omega)).wl (by omega)) (by rw [cn_wl_ne (Or.inr (by decide))]; exact cn_wl_eq) cn_wl_eq rfl
    refine cm_go hX7_odds 60 oX7_odds (eX7_odds d hd) lX7_odds_20 ?_
    simp (disch := omega) only [jX7_odds, kX7_odds_0, kX7_odds_1, fl_7_7, fl_7_68, ll_7_295, ll_7_297, fl_7_299, fl_7_22, e1, e3, q0, rd, cn_ldi, cn_ldl, cn_lki1, cn_lkk1, k0, r0, r2, r3, r6, r9, r10, r11, r12, r13, r14, r15, r16, r17, r18, r19, r22, r25, r26, r27, c1, c2, c3, c4, c5, c6, c7, c8, c9, c10, c11, c12, c13, c14, c15, c16, c17, c18, c19, l1, l2, l3, l4, l5, l6, l7, l8, l9, l10, l11, l12, l13, l14, l15, l16, l17, l18, l19, cn_iconst, cn_lconst0, cn_lconst1, cn_null, cn_iload, cn_aload, cn_lload, cn_lo1, cn_loa1, cn_loa2, cn_lol1, cn_get0, cn_gets, cn_put0, cn_puts, cn_istore, cn_astore, cn_astoreN, cn_lstore, cn_iinc, cn_in1, cn_iadd, cn_isub, cn_imul, cn_iand, cn_ior, cn_ixor, cn_ishl, cn_ishr, cn_iushr, cn_idiv, cn_irem, cn_ladd, cn_lmul, cn_ldiv, cn_lrem, cn_i2l, cn_l2i, cn_i2b, cn_lcmp, cn_dupi, cn_dupr, cn_dup2, cn_popi, cn_popr, cn_goto, cn_if_eq, cn_if_ne, cn_if_lt, cn_if_ge, cn_if_gt, cn_if_le, cn_ic_eq, cn_ic_ne, cn_ic_lt, cn_ic_ge, cn_ic_gt, cn_ic_le, cn_ifnullN, cn_ifnullR, cn_ifnonnullN, cn_ifnonnullR, cn_tswS, cn_tsw0, cn_tsw1, cn_lswS, cn_lsw0, cn_lsw1, cn_alen, cn_iaload, cn_laload, cn_rr1, cn_rr0, cn_aaload, cn_iastore, cn_lastore, cn_aastore, cn_getfield, cn_gf0, cn_gf1, cn_gf2, cn_gf3, cn_putfield, cn_pf0f, cn_pf1f, cn_pf2f, cn_pf3f, cn_pf0t, cn_pf1t, cn_pf2t, cn_pf3t, cn_new, cn_nw1, cn_newi, cn_newl, cn_anew, cn_an1, cn_inv_v, cn_inv_s, cn_inv_p, cn_ca1, cn_cb1, cn_pop0, cn_pops, cn_rk0, cn_rk1, cn_kcn, cn_kcs, cn_ireturn, cn_lreturn, cn_areturn, cn_return, cn_re0, cn_re1, cn_re2, cn_re3, cn_re4, cn_re5, cn_wp0, cn_wps, cn_m0, cn_m1, cn_e0, cn_en, cn_ei, cn_er, cn_eu, cn_el, cn_nl0, cn_nls, cn_nb0, cn_nb1, cn_nb2, cn_nb3, cn_bd0, cn_bds, cn_cwi, cn_cwr, cn_cwl, cn_cwn, cn_wi2, cn_wl1, cn_wl3, cn_wr1, cn_wr2, cn_wi_eq, cn_wl_eq, cb_0, cb_n0, cb_b, cm_okb0, cm_okb1, Classical.not_not, true_and, and_true, Nat.reduceAdd, Nat.reduceSub, Nat.reduceLT, Nat.reduceLeDiff, Int.reduceToNat, Int.reduceNatCast', Nat.zero_le, Nat.reduceEqDiff, false_or, or_false, or_true, true_or, Int.reduceNeg, reduceCtorEq, false_implies, implies_true, forall_const, true_implies, not_true_eq_false, not_false_eq_true, Nat.le_refl, ne_eq, if_true, if_false, ite_true, ite_false, List.cons_append, List.nil_append, w3_add, w3_sub, w3_mul, w3_le, w3_lt, w3_eq, w3_toInt, w3_ix, w3_00, w3_10, i0_le, i0_lt, i0_ge, i0_gt, i0_eq, Int.reduceLE, Int.reduceLT, Int.reduceAdd, Int.reduceSub, Int.reduceMul, Int.reduceEq, Int.le_refl, Int.lt_irrefl]
    repeat (with_reducible refine And.intro (by omega) ?_)
    exact hgo _ _ _
  | succ g ih =>
    intro u M1 o4 o5 hu F hw
    have e1 := F.1
    have e3 := F.2.1
    have q0 : ((ν : Int) < (u : Int)) = False := eq_false (by omega)
    obtain ⟨p1, p2, hp⟩ := hB.par (show u < (mbk M m).1 by omega)
    have p1 : M.1 (m + 1) (127 * (u : Int) + 1) = w3 ((mbk M m).2 u).2.1 := p1
    have p2 : M.1 (m + 1) (127 * (u : Int) + 2) = w3 ((mbk M m).2 u).2.2 := p2
    have hp : WP u ((mbk M m).2 u).2.1 ((mbk M m).2 u).2.2 := hp
    have nx := fun v o4 o5 (hv : v = w6 (oW (mbk M m) β u)) => ih (u + 1) (cm_wl M1 (m + 19) (u : Int) v) o4 o5 (by omega) F.wl (fun w hw2 => by
      by_cases e : w = u
      · subst e; rw [cn_wl_eq]; exact hv
      · rw [cn_wl_ne (Or.inr (by omega))]; exact hw w (by omega))
    rcases Nat.lt_trichotomy u β with h | h | h
    · have q1 : ((u : Int) = (β : Int)) = False := eq_false (by omega)
      have q2 : ((β : Int) ≤ (u : Int)) = False := eq_false (by omega)
      refine cm_go hX7_odds 60 oX7_odds (eX7_odds d hd) lX7_odds_20 ?_
      simp (disch := omega) only [jX7_odds, kX7_odds_0, kX7_odds_1, fl_7_7, fl_7_68, ll_7_295, ll_7_297, fl_7_299, fl_7_22, e1, e3, q0, q1, q2, p1, p2, cn_ldi, cn_ldl, cn_lki1, cn_lkk1, k0, r0, r2, r3, r6, r9, r10, r11, r12, r13, r14, r15, r16, r17, r18, r19, r22, r25, r26, r27, c1, c2, c3, c4, c5, c6, c7, c8, c9, c10, c11, c12, c13, c14, c15, c16, c17, c18, c19, l1, l2, l3, l4, l5, l6, l7, l8, l9, l10, l11, l12, l13, l14, l15, l16, l17, l18, l19, cn_iconst, cn_lconst0, cn_lconst1, cn_null, cn_iload, cn_aload, cn_lload, cn_lo1, cn_loa1, cn_loa2, cn_lol1, cn_get0, cn_gets, cn_put0, cn_puts, cn_istore, cn_astore, cn_astoreN, cn_lstore, cn_iinc, cn_in1, cn_iadd, cn_isub, cn_imul, cn_iand, cn_ior, cn_ixor, cn_ishl, cn_ishr, cn_iushr, cn_idiv, cn_irem, cn_ladd, cn_lmul, cn_ldiv, cn_lrem, cn_i2l, cn_l2i, cn_i2b, cn_lcmp, cn_dupi, cn_dupr, cn_dup2, cn_popi, cn_popr, cn_goto, cn_if_eq, cn_if_ne, cn_if_lt, cn_if_ge, cn_if_gt, cn_if_le, cn_ic_eq, cn_ic_ne, cn_ic_lt, cn_ic_ge, cn_ic_gt, cn_ic_le, cn_ifnullN, cn_ifnullR, cn_ifnonnullN, cn_ifnonnullR, cn_tswS, cn_tsw0, cn_tsw1, cn_lswS, cn_lsw0, cn_lsw1, cn_alen, cn_iaload, cn_laload, cn_rr1, cn_rr0, cn_aaload, cn_iastore, cn_lastore, cn_aastore, cn_getfield, cn_gf0, cn_gf1, cn_gf2, cn_gf3, cn_putfield, cn_pf0f, cn_pf1f, cn_pf2f, cn_pf3f, cn_pf0t, cn_pf1t, cn_pf2t, cn_pf3t, cn_new, cn_nw1, cn_newi, cn_newl, cn_anew, cn_an1, cn_inv_v, cn_inv_s, cn_inv_p, cn_ca1, cn_cb1, cn_pop0, cn_pops, cn_rk0, cn_rk1, cn_kcn, cn_kcs, cn_ireturn, cn_lreturn, cn_areturn, cn_return, cn_re0, cn_re1, cn_re2, cn_re3, cn_re4, cn_re5, cn_wp0, cn_wps, cn_m0, cn_m1, cn_e0, cn_en, cn_ei, cn_er, cn_eu, cn_el, cn_nl0, cn_nls, cn_nb0, cn_nb1, cn_nb2, cn_nb3, cn_bd0, cn_bds, cn_cwi, cn_cwr, cn_cwl, cn_cwn, cn_wi2, cn_wl1, cn_wl3, cn_wr1, cn_wr2, cn_wi_eq, cn_wl_eq, cb_0, cb_n0, cb_b, cm_okb0, cm_okb1, Classical.not_not, true_and, and_true, Nat.reduceAdd, Nat.reduceSub, Nat.reduceLT, Nat.reduceLeDiff, Int.reduceToNat, Int.reduceNatCast', Nat.zero_le, Nat.reduceEqDiff, false_or, or_false, or_true, true_or, Int.reduceNeg, reduceCtorEq, false_implies, implies_true, forall_const, true_implies, not_true_eq_false, not_false_eq_true, Nat.le_refl, ne_eq, if_true, if_false, ite_true, ite_false, List.cons_append, List.nil_append, w3_add, w3_sub, w3_mul, w3_le, w3_lt, w3_eq, w3_toInt, w3_ix, w3_00, w3_10, i0_le, i0_lt, i0_ge, i0_gt, i0_eq, Int.reduceLE, Int.reduceLT, Int.reduceAdd, Int.reduceSub, Int.reduceMul, Int.reduceEq, Int.le_refl, Int.lt_irrefl]
      repeat (with_reducible refine And.intro (by omega) ?_)
      exact nx _ _ _ (by rw [oW_l h])
    · have q1 : ((u : Int) = (β : Int)) = True := eq_true (by omega)
      refine cm_go hX7_odds 60 oX7_odds (eX7_odds d hd) lX7_odds_20 ?_
      simp (disch := omega) only [jX7_odds, kX7_odds_0, kX7_odds_1, fl_7_7, fl_7_68, ll_7_295, ll_7_297, fl_7_299, fl_7_22, e1, e3, q0, q1, p1, p2, cn_ldi, cn_ldl, cn_lki1, cn_lkk1, k0, r0, r2, r3, r6, r9, r10, r11, r12, r13, r14, r15, r16, r17, r18, r19, r22, r25, r26, r27, c1, c2, c3, c4, c5, c6, c7, c8, c9, c10, c11, c12, c13, c14, c15, c16, c17, c18, c19, l1, l2, l3, l4, l5, l6, l7, l8, l9, l10, l11, l12, l13, l14, l15, l16, l17, l18, l19, cn_iconst, cn_lconst0, cn_lconst1, cn_null, cn_iload, cn_aload, cn_lload, cn_lo1, cn_loa1, cn_loa2, cn_lol1, cn_get0, cn_gets, cn_put0, cn_puts, cn_istore, cn_astore, cn_astoreN, cn_lstore, cn_iinc, cn_in1, cn_iadd, cn_isub, cn_imul, cn_iand, cn_ior, cn_ixor, cn_ishl, cn_ishr, cn_iushr, cn_idiv, cn_irem, cn_ladd, cn_lmul, cn_ldiv, cn_lrem, cn_i2l, cn_l2i, cn_i2b, cn_lcmp, cn_dupi, cn_dupr, cn_dup2, cn_popi, cn_popr, cn_goto, cn_if_eq, cn_if_ne, cn_if_lt, cn_if_ge, cn_if_gt, cn_if_le, cn_ic_eq, cn_ic_ne, cn_ic_lt, cn_ic_ge, cn_ic_gt, cn_ic_le, cn_ifnullN, cn_ifnullR, cn_ifnonnullN, cn_ifnonnullR, cn_tswS, cn_tsw0, cn_tsw1, cn_lswS, cn_lsw0, cn_lsw1, cn_alen, cn_iaload, cn_laload, cn_rr1, cn_rr0, cn_aaload, cn_iastore, cn_lastore, cn_aastore, cn_getfield, cn_gf0, cn_gf1, cn_gf2, cn_gf3, cn_putfield, cn_pf0f, cn_pf1f, cn_pf2f, cn_pf3f, cn_pf0t, cn_pf1t, cn_pf2t, cn_pf3t, cn_new, cn_nw1, cn_newi, cn_newl, cn_anew, cn_an1, cn_inv_v, cn_inv_s, cn_inv_p, cn_ca1, cn_cb1, cn_pop0, cn_pops, cn_rk0, cn_rk1, cn_kcn, cn_kcs, cn_ireturn, cn_lreturn, cn_areturn, cn_return, cn_re0, cn_re1, cn_re2, cn_re3, cn_re4, cn_re5, cn_wp0, cn_wps, cn_m0, cn_m1, cn_e0, cn_en, cn_ei, cn_er, cn_eu, cn_el, cn_nl0, cn_nls, cn_nb0, cn_nb1, cn_nb2, cn_nb3, cn_bd0, cn_bds, cn_cwi, cn_cwr, cn_cwl, cn_cwn, cn_wi2, cn_wl1, cn_wl3, cn_wr1, cn_wr2, cn_wi_eq, cn_wl_eq, cb_0, cb_n0, cb_b, cm_okb0, cm_okb1, Classical.not_not, true_and, and_true, Nat.reduceAdd, Nat.reduceSub, Nat.reduceLT, Nat.reduceLeDiff, Int.reduceToNat, Int.reduceNatCast', Nat.zero_le, Nat.reduceEqDiff, false_or, or_false, or_true, true_or, Int.reduceNeg, reduceCtorEq, false_implies, implies_true, forall_const, true_implies, not_true_eq_false, not_false_eq_true, Nat.le_refl, ne_eq, if_true, if_false, ite_true, ite_false, List.cons_append, List.nil_append, w3_add, w3_sub, w3_mul, w3_le, w3_lt, w3_eq, w3_toInt, w3_ix, w3_00, w3_10, i0_le, i0_lt, i0_ge, i0_gt, i0_eq, Int.reduceLE, Int.reduceLT, Int.reduceAdd, Int.reduceSub, Int.reduceMul, Int.reduceEq, Int.le_refl, Int.lt_irrefl]
      repeat (with_reducible refine And.intro (by omega) ?_)
      exact nx _ _ _ (by rw [h, oW_b])
    · have q1 : ((u : Int) = (β : Int)) = False := eq_false (by omega)
      have q2 : ((β : Int) ≤ (u : Int)) = True := eq_true (by omega)
      obtain ⟨α, a1, a2, a3⟩ := WP.sp hp (by omega)
      have ra := hw α (by omega)
      rw [a1] at p1
      rcases a3 with a3 | ⟨γ, g1, g2⟩
      · rw [a3] at p2
        refine cm_go hX7_odds 60 oX7_odds (eX7_odds d hd) lX7_odds_20 ?_
        simp (disch := omega) only [jX7_odds, kX7_odds_0, kX7_odds_1, fl_7_7, fl_7_68, ll_7_295, ll_7_297, fl_7_299, fl_7_22, e1, e3, q0, q1, q2, p1, p2, ra, cn_ldi, cn_ldl, cn_lki1, cn_lkk1, k0, r0, r2, r3, r6, r9, r10, r11, r12, r13, r14, r15, r16, r17, r18, r19, r22, r25, r26, r27, c1, c2, c3, c4, c5, c6, c7, c8, c9, c10, c11, c12, c13, c14, c15, c16, c17, c18, c19, l1, l2, l3, l4, l5, l6, l7, l8, l9, l10, l11, l12, l13, l14, l15, l16, l17, l18, l19, cn_iconst, cn_lconst0, cn_lconst1, cn_null, cn_iload, cn_aload, cn_lload, cn_lo1, cn_loa1, cn_loa2, cn_lol1, cn_get0, cn_gets, cn_put0, cn_puts, cn_istore, cn_astore, cn_astoreN, cn_lstore, cn_iinc, cn_in1, cn_iadd, cn_isub, cn_imul, cn_iand, cn_ior, cn_ixor, cn_ishl, cn_ishr, cn_iushr, cn_idiv, cn_irem, cn_ladd, cn_lmul, cn_ldiv, cn_lrem, cn_i2l, cn_l2i, cn_i2b, cn_lcmp, cn_dupi, cn_dupr, cn_dup2, cn_popi, cn_popr, cn_goto, cn_if_eq, cn_if_ne, cn_if_lt, cn_if_ge, cn_if_gt, cn_if_le, cn_ic_eq, cn_ic_ne, cn_ic_lt, cn_ic_ge, cn_ic_gt, cn_ic_le, cn_ifnullN, cn_ifnullR, cn_ifnonnullN, cn_ifnonnullR, cn_tswS, cn_tsw0, cn_tsw1, cn_lswS, cn_lsw0, cn_lsw1, cn_alen, cn_iaload, cn_laload, cn_rr1, cn_rr0, cn_aaload, cn_iastore, cn_lastore, cn_aastore, cn_getfield, cn_gf0, cn_gf1, cn_gf2, cn_gf3, cn_putfield, cn_pf0f, cn_pf1f, cn_pf2f, cn_pf3f, cn_pf0t, cn_pf1t, cn_pf2t, cn_pf3t, cn_new, cn_nw1, cn_newi, cn_newl, cn_anew, cn_an1, cn_inv_v, cn_inv_s, cn_inv_p, cn_ca1, cn_cb1, cn_pop0, cn_pops, cn_rk0, cn_rk1, cn_kcn, cn_kcs, cn_ireturn, cn_lreturn, cn_areturn, cn_return, cn_re0, cn_re1, cn_re2, cn_re3, cn_re4, cn_re5, cn_wp0, cn_wps, cn_m0, cn_m1, cn_e0, cn_en, cn_ei, cn_er, cn_eu, cn_el, cn_nl0, cn_nls, cn_nb0, cn_nb1, cn_nb2, cn_nb3, cn_bd0, cn_bds, cn_cwi, cn_cwr, cn_cwl, cn_cwn, cn_wi2, cn_wl1, cn_wl3, cn_wr1, cn_wr2, cn_wi_eq, cn_wl_eq, cb_0, cb_n0, cb_b, cm_okb0, cm_okb1, Classical.not_not, true_and, and_true, Nat.reduceAdd, Nat.reduceSub, Nat.reduceLT, Nat.reduceLeDiff, Int.reduceToNat, Int.reduceNatCast', Nat.zero_le, Nat.reduceEqDiff, false_or, or_false, or_true, true_or, Int.reduceNeg, reduceCtorEq, false_implies, implies_true, forall_const, true_implies, not_true_eq_false, not_false_eq_true, Nat.le_refl, ne_eq, if_true, if_false, ite_true, ite_false, List.cons_append, List.nil_append, w3_add, w3_sub, w3_mul, w3_le, w3_lt, w3_eq, w3_toInt, w3_ix, w3_00, w3_10, i0_le, i0_lt, i0_ge, i0_gt, i0_eq, Int.reduceLE, Int.reduceLT, Int.reduceAdd, Int.reduceSub, Int.reduceMul, Int.reduceEq, Int.le_refl, Int.lt_irrefl]
        repeat (with_reducible refine And.intro (by omega) ?_)
        exact nx _ _ _ (by rw [oW_1 h a1 a2 a3])
      · rw [g1] at p2
        have rg := hw γ (by omega)
        have b1 := oW_bd hW (b := β) α (by omega)
        have b2 := oW_bd hW (b := β) γ (by omega)
        have qs : (0 ≤ (γ : Int)) = True := eq_true (by omega)
        have dd := w6_div (z := oW (mbk M m) β α + oW (mbk M m) β γ) (by omega) (by omega)
        refine cm_go hX7_odds 60 oX7_odds (eX7_odds d hd) lX7_odds_20 ?_
        simp (disch := omega) only [jX7_odds, kX7_odds_0, kX7_odds_1, fl_7_7, fl_7_68, ll_7_295, ll_7_297, fl_7_299, fl_7_22, e1, e3, q0, q1, q2, p1, p2, ra, rg, qs, dd, z2, w6_add, cn_ldi, cn_ldl, cn_lki1, cn_lkk1, k0, r0, r2, r3, r6, r9, r10, r11, r12, r13, r14, r15, r16, r17, r18, r19, r22, r25, r26, r27, c1, c2, c3, c4, c5, c6, c7, c8, c9, c10, c11, c12, c13, c14, c15, c16, c17, c18, c19, l1, l2, l3, l4, l5, l6, l7, l8, l9, l10, l11, l12, l13, l14, l15, l16, l17, l18, l19, cn_iconst, cn_lconst0, cn_lconst1, cn_null, cn_iload, cn_aload, cn_lload, cn_lo1, cn_loa1, cn_loa2, cn_lol1, cn_get0, cn_gets, cn_put0, cn_puts, cn_istore, cn_astore, cn_astoreN, cn_lstore, cn_iinc, cn_in1, cn_iadd, cn_isub, cn_imul, cn_iand, cn_ior, cn_ixor, cn_ishl, cn_ishr, cn_iushr, cn_idiv, cn_irem, cn_ladd, cn_lmul, cn_ldiv, cn_lrem, cn_i2l, cn_l2i, cn_i2b, cn_lcmp, cn_dupi, cn_dupr, cn_dup2, cn_popi, cn_popr, cn_goto, cn_if_eq, cn_if_ne, cn_if_lt, cn_if_ge, cn_if_gt, cn_if_le, cn_ic_eq, cn_ic_ne, cn_ic_lt, cn_ic_ge, cn_ic_gt, cn_ic_le, cn_ifnullN, cn_ifnullR, cn_ifnonnullN, cn_ifnonnullR, cn_tswS, cn_tsw0, cn_tsw1, cn_lswS, cn_lsw0, cn_lsw1, cn_alen, cn_iaload, cn_laload, cn_rr1, cn_rr0, cn_aaload, cn_iastore, cn_lastore, cn_aastore, cn_getfield, cn_gf0, cn_gf1, cn_gf2, cn_gf3, cn_putfield, cn_pf0f, cn_pf1f, cn_pf2f, cn_pf3f, cn_pf0t, cn_pf1t, cn_pf2t, cn_pf3t, cn_new, cn_nw1, cn_newi, cn_newl, cn_anew, cn_an1, cn_inv_v, cn_inv_s, cn_inv_p, cn_ca1, cn_cb1, cn_pop0, cn_pops, cn_rk0, cn_rk1, cn_kcn, cn_kcs, cn_ireturn, cn_lreturn, cn_areturn, cn_return, cn_re0, cn_re1, cn_re2, cn_re3, cn_re4, cn_re5, cn_wp0, cn_wps, cn_m0, cn_m1, cn_e0, cn_en, cn_ei, cn_er, cn_eu, cn_el, cn_nl0, cn_nls, cn_nb0, cn_nb1, cn_nb2, cn_nb3, cn_bd0, cn_bds, cn_cwi, cn_cwr, cn_cwl, cn_cwn, cn_wi2, cn_wl1, cn_wl3, cn_wr1, cn_wr2, cn_wi_eq, cn_wl_eq, cb_0, cb_n0, cb_b, cm_okb0, cm_okb1, Classical.not_not, true_and, and_true, Nat.reduceAdd, Nat.reduceSub, Nat.reduceLT, Nat.reduceLeDiff, Int.reduceToNat, Int.reduceNatCast', Nat.zero_le, Nat.reduceEqDiff, false_or, or_false, or_true, true_or, Int.reduceNeg, reduceCtorEq, false_implies, implies_true, forall_const, true_implies, not_true_eq_false, not_false_eq_true, Nat.le_refl, ne_eq, if_true, if_false, ite_true, ite_false, List.cons_append, List.nil_append, w3_add, w3_sub, w3_mul, w3_le, w3_lt, w3_eq, w3_toInt, w3_ix, w3_00, w3_10, i0_le, i0_lt, i0_ge, i0_gt, i0_eq, Int.reduceLE, Int.reduceLT, Int.reduceAdd, Int.reduceSub, Int.reduceMul, Int.reduceEq, Int.le_refl, Int.lt_irrefl]
        repeat (with_reducible refine And.intro (by omega) ?_)
        exact nx _ _ _ (by rw [oW_2 h a1 a2 g1 g2])
set_option maxHeartbeats 4000000 in
theorem mX7_odds (d : Nat) (hd : 2 ≤ d) : cm_Met d yX7_odds cX7_odds 6 (some .int) 0 0 SX7_odds := by
  refine cm_meets (J := JX7_odds) (by decide) rfl (fun h => by cases h) trivial ?_
  intro as T M Φ hS
  match as, hS with
  | [.ref m0, .int v, .int b], ⟨hD, hS⟩ =>
    refine ⟨Nat.le_of_ble_eq_true rfl, ?_⟩
    obtain ⟨m, hm⟩ : ∃ m : Nat, m = m0 := ⟨m0, rfl⟩
    subst hm
    have hT := hD.1
    obtain ⟨k0, ⟨r0, r2, r3, r6, r9, r10, r11, r12, r13, r14, r15, r16, r17, r18, r19, r22, r25, r26, r27⟩, ⟨c1, c2, c3, c4, c5, c6, c7, c8, c9, c10, c11, c12, c13, c14, c15, c16, c17, c18, c19⟩, ⟨l1, l2, l3, l4, l5, l6, l7, l8, l9, l10, l11, l12, l13, l14, l15, l16, l17, l18, l19⟩⟩ := id hT
    have hW : WB (mbk M m) := hD.2.1.2.1.1
    unfold fOdd at hS
    rw [ms_b] at hS
    refine cm_go hX7_odds 60 oX7_odds (eX7_odds d hd) lX7_odds_0 ?_
    simp (disch := omega) only [jX7_odds, kX7_odds_0, kX7_odds_1, fl_7_7, fl_7_68, ll_7_295, ll_7_297, fl_7_299, fl_7_22, k0, r0, r2, r3, r6, r9, r10, r11, r12, r13, r14, r15, r16, r17, r18, r19, r22, r25, r26, r27, c1, c2, c3, c4, c5, c6, c7, c8, c9, c10, c11, c12, c13, c14, c15, c16, c17, c18, c19, l1, l2, l3, l4, l5, l6, l7, l8, l9, l10, l11, l12, l13, l14, l15, l16, l17, l18, l19, cn_iconst, cn_lconst0, cn_lconst1, cn_null, cn_iload, cn_aload, cn_lload, cn_lo1, cn_loa1, cn_loa2, cn_lol1, cn_get0, cn_gets, cn_put0, cn_puts, cn_istore, cn_astore, cn_astoreN, cn_lstore, cn_iinc, cn_in1, cn_iadd, cn_isub, cn_imul, cn_iand, cn_ior, cn_ixor, cn_ishl, cn_ishr, cn_iushr, cn_idiv, cn_irem, cn_ladd, cn_lmul, cn_ldiv, cn_lrem, cn_i2l, cn_l2i, cn_i2b, cn_lcmp, cn_dupi, cn_dupr, cn_dup2, cn_popi, cn_popr, cn_goto, cn_if_eq, cn_if_ne, cn_if_lt, cn_if_ge, cn_if_gt, cn_if_le, cn_ic_eq, cn_ic_ne, cn_ic_lt, cn_ic_ge, cn_ic_gt, cn_ic_le, cn_ifnullN, cn_ifnullR, cn_ifnonnullN, cn_ifnonnullR, cn_tswS, cn_tsw0, cn_tsw1, cn_lswS, cn_lsw0, cn_lsw1, cn_alen, cn_iaload, cn_laload, cn_rr1, cn_rr0, cn_aaload, cn_iastore, cn_lastore, cn_aastore, cn_getfield, cn_gf0, cn_gf1, cn_gf2, cn_gf3, cn_putfield, cn_pf0f, cn_pf1f, cn_pf2f, cn_pf3f, cn_pf0t, cn_pf1t, cn_pf2t, cn_pf3t, cn_new, cn_nw1, cn_newi, cn_newl, cn_anew, cn_an1, cn_inv_v, cn_inv_s, cn_inv_p, cn_ca1, cn_cb1, cn_pop0, cn_pops, cn_rk0, cn_rk1, cn_kcn, cn_kcs, cn_ireturn, cn_lreturn, cn_areturn, cn_return, cn_re0, cn_re1, cn_re2, cn_re3, cn_re4, cn_re5, cn_wp0, cn_wps, cn_m0, cn_m1, cn_e0, cn_en, cn_ei, cn_er, cn_eu, cn_el, cn_nl0, cn_nls, cn_nb0, cn_nb1, cn_nb2, cn_nb3, cn_bd0, cn_bds, cn_cwi, cn_cwr, cn_cwl, cn_cwn, cn_wi2, cn_wl1, cn_wl3, cn_wr1, cn_wr2, cn_wi_eq, cn_wl_eq, cb_0, cb_n0, cb_b, cm_okb0, cm_okb1, Classical.not_not, true_and, and_true, Nat.reduceAdd, Nat.reduceSub, Nat.reduceLT, Nat.reduceLeDiff, Int.reduceToNat, Int.reduceNatCast', Nat.zero_le, Nat.reduceEqDiff, false_or, or_false, or_true, true_or, Int.reduceNeg, reduceCtorEq, false_implies, implies_true, forall_const, true_implies, not_true_eq_false, not_false_eq_true, Nat.le_refl, ne_eq, if_true, if_false, ite_true, ite_false, List.cons_append, List.nil_append, w3_add, w3_sub, w3_mul, w3_le, w3_lt, w3_eq, w3_toInt, w3_ix, w3_00, w3_10, i0_le, i0_lt, i0_ge, i0_gt, i0_eq, Int.reduceLE, Int.reduceLT, Int.reduceAdd, Int.reduceSub, Int.reduceMul, Int.reduceEq, Int.le_refl, Int.lt_irrefl]
    refine ⟨hD, ?_⟩
    by_cases h1 : 0 ≤ v.toInt ∧ v.toInt < ((mbk M m).1 : Int)
    · rw [cb_t h1]
      simp (disch := omega) only [jX7_odds, kX7_odds_0, kX7_odds_1, fl_7_7, fl_7_68, ll_7_295, ll_7_297, fl_7_299, fl_7_22, k0, r0, r2, r3, r6, r9, r10, r11, r12, r13, r14, r15, r16, r17, r18, r19, r22, r25, r26, r27, c1, c2, c3, c4, c5, c6, c7, c8, c9, c10, c11, c12, c13, c14, c15, c16, c17, c18, c19, l1, l2, l3, l4, l5, l6, l7, l8, l9, l10, l11, l12, l13, l14, l15, l16, l17, l18, l19, cn_iconst, cn_lconst0, cn_lconst1, cn_null, cn_iload, cn_aload, cn_lload, cn_lo1, cn_loa1, cn_loa2, cn_lol1, cn_get0, cn_gets, cn_put0, cn_puts, cn_istore, cn_astore, cn_astoreN, cn_lstore, cn_iinc, cn_in1, cn_iadd, cn_isub, cn_imul, cn_iand, cn_ior, cn_ixor, cn_ishl, cn_ishr, cn_iushr, cn_idiv, cn_irem, cn_ladd, cn_lmul, cn_ldiv, cn_lrem, cn_i2l, cn_l2i, cn_i2b, cn_lcmp, cn_dupi, cn_dupr, cn_dup2, cn_popi, cn_popr, cn_goto, cn_if_eq, cn_if_ne, cn_if_lt, cn_if_ge, cn_if_gt, cn_if_le, cn_ic_eq, cn_ic_ne, cn_ic_lt, cn_ic_ge, cn_ic_gt, cn_ic_le, cn_ifnullN, cn_ifnullR, cn_ifnonnullN, cn_ifnonnullR, cn_tswS, cn_tsw0, cn_tsw1, cn_lswS, cn_lsw0, cn_lsw1, cn_alen, cn_iaload, cn_laload, cn_rr1, cn_rr0, cn_aaload, cn_iastore, cn_lastore, cn_aastore, cn_getfield, cn_gf0, cn_gf1, cn_gf2, cn_gf3, cn_putfield, cn_pf0f, cn_pf1f, cn_pf2f, cn_pf3f, cn_pf0t, cn_pf1t, cn_pf2t, cn_pf3t, cn_new, cn_nw1, cn_newi, cn_newl, cn_anew, cn_an1, cn_inv_v, cn_inv_s, cn_inv_p, cn_ca1, cn_cb1, cn_pop0, cn_pops, cn_rk0, cn_rk1, cn_kcn, cn_kcs, cn_ireturn, cn_lreturn, cn_areturn, cn_return, cn_re0, cn_re1, cn_re2, cn_re3, cn_re4, cn_re5, cn_wp0, cn_wps, cn_m0, cn_m1, cn_e0, cn_en, cn_ei, cn_er, cn_eu, cn_el, cn_nl0, cn_nls, cn_nb0, cn_nb1, cn_nb2, cn_nb3, cn_bd0, cn_bds, cn_cwi, cn_cwr, cn_cwl, cn_cwn, cn_wi2, cn_wl1, cn_wl3, cn_wr1, cn_wr2, cn_wi_eq, cn_wl_eq, cb_0, cb_n0, cb_b, cm_okb0, cm_okb1, Classical.not_not, true_and, and_true, Nat.reduceAdd, Nat.reduceSub, Nat.reduceLT, Nat.reduceLeDiff, Int.reduceToNat, Int.reduceNatCast', Nat.zero_le, Nat.reduceEqDiff, false_or, or_false, or_true, true_or, Int.reduceNeg, reduceCtorEq, false_implies, implies_true, forall_const, true_implies, not_true_eq_false, not_false_eq_true, Nat.le_refl, ne_eq, if_true, if_false, ite_true, ite_false, List.cons_append, List.nil_append, w3_add, w3_sub, w3_mul, w3_le, w3_lt, w3_eq, w3_toInt, w3_ix, w3_00, w3_10, i0_le, i0_lt, i0_ge, i0_gt, i0_eq, Int.reduceLE, Int.reduceLT, Int.reduceAdd, Int.reduceSub, Int.reduceMul, Int.reduceEq, Int.le_refl, Int.lt_irrefl]
      refine ⟨hD, ?_⟩
      by_cases h2 : 0 ≤ b.toInt ∧ b.toInt < ((mbk M m).1 : Int)
      · rw [cb_t h2]
        rw [if_pos ⟨h1, h2⟩] at hS
        obtain ⟨ν, v1, v2⟩ := i3_nat h1.1
        obtain ⟨β, b1, b2⟩ := i3_nat h2.1
        have hν : ν < (mbk M m).1 := by omega
        have hβ : β < (mbk M m).1 := by omega
        rw [v2, b2] at hS
        have hS : mPo T M m Φ (w3 1, stU (mst M m) (w6 (odr 16 (pLs (mbk M m) ν (ν - β) β) 65536).1) (w6 (odr 16 (pLs (mbk M m) ν (ν - β) β) 65536).2)) := hS
        rw [pLs_oW hW hν] at hS
        have hgo := lX7_odds d hd hD hν hβ (fun M1 F h7 h8 => by
          obtain ⟨d1, d2, d3⟩ := md_lng hD F.1 F.2.1 F.2.2
          rw [h7, h8] at d3
          exact hS M1 d2 d1 d3) (ν + 1) 0 M none none rfl LG.rf (fun w hw => absurd hw (Nat.not_lt_zero _))
        rw [← v1, ← b1] at hgo
        simp (disch := omega) only [jX7_odds, kX7_odds_0, kX7_odds_1, fl_7_7, fl_7_68, ll_7_295, ll_7_297, fl_7_299, fl_7_22, k0, r0, r2, r3, r6, r9, r10, r11, r12, r13, r14, r15, r16, r17, r18, r19, r22, r25, r26, r27, c1, c2, c3, c4, c5, c6, c7, c8, c9, c10, c11, c12, c13, c14, c15, c16, c17, c18, c19, l1, l2, l3, l4, l5, l6, l7, l8, l9, l10, l11, l12, l13, l14, l15, l16, l17, l18, l19, cn_iconst, cn_lconst0, cn_lconst1, cn_null, cn_iload, cn_aload, cn_lload, cn_lo1, cn_loa1, cn_loa2, cn_lol1, cn_get0, cn_gets, cn_put0, cn_puts, cn_istore, cn_astore, cn_astoreN, cn_lstore, cn_iinc, cn_in1, cn_iadd, cn_isub, cn_imul, cn_iand, cn_ior, cn_ixor, cn_ishl, cn_ishr, cn_iushr, cn_idiv, cn_irem, cn_ladd, cn_lmul, cn_ldiv, cn_lrem, cn_i2l, cn_l2i, cn_i2b, cn_lcmp, cn_dupi, cn_dupr, cn_dup2, cn_popi, cn_popr, cn_goto, cn_if_eq, cn_if_ne, cn_if_lt, cn_if_ge, cn_if_gt, cn_if_le, cn_ic_eq, cn_ic_ne, cn_ic_lt, cn_ic_ge, cn_ic_gt, cn_ic_le, cn_ifnullN, cn_ifnullR, cn_ifnonnullN, cn_ifnonnullR, cn_tswS, cn_tsw0, cn_tsw1, cn_lswS, cn_lsw0, cn_lsw1, cn_alen, cn_iaload, cn_laload, cn_rr1, cn_rr0, cn_aaload, cn_iastore, cn_lastore, cn_aastore, cn_getfield, cn_gf0, cn_gf1, cn_gf2, cn_gf3, cn_putfield, cn_pf0f, cn_pf1f, cn_pf2f, cn_pf3f, cn_pf0t, cn_pf1t, cn_pf2t, cn_pf3t, cn_new, cn_nw1, cn_newi, cn_newl, cn_anew, cn_an1, cn_inv_v, cn_inv_s, cn_inv_p, cn_ca1, cn_cb1, cn_pop0, cn_pops, cn_rk0, cn_rk1, cn_kcn, cn_kcs, cn_ireturn, cn_lreturn, cn_areturn, cn_return, cn_re0, cn_re1, cn_re2, cn_re3, cn_re4, cn_re5, cn_wp0, cn_wps, cn_m0, cn_m1, cn_e0, cn_en, cn_ei, cn_er, cn_eu, cn_el, cn_nl0, cn_nls, cn_nb0, cn_nb1, cn_nb2, cn_nb3, cn_bd0, cn_bds, cn_cwi, cn_cwr, cn_cwl, cn_cwn, cn_wi2, cn_wl1, cn_wl3, cn_wr1, cn_wr2, cn_wi_eq, cn_wl_eq, cb_0, cb_n0, cb_b, cm_okb0, cm_okb1, Classical.not_not, true_and, and_true, Nat.reduceAdd, Nat.reduceSub, Nat.reduceLT, Nat.reduceLeDiff, Int.reduceToNat, Int.reduceNatCast', Nat.zero_le, Nat.reduceEqDiff, false_or, or_false, or_true, true_or, Int.reduceNeg, reduceCtorEq, false_implies, implies_true, forall_const, true_implies, not_true_eq_false, not_false_eq_true, Nat.le_refl, ne_eq, if_true, if_false, ite_true, ite_false, List.cons_append, List.nil_append, w3_add, w3_sub, w3_mul, w3_le, w3_lt, w3_eq, w3_toInt, w3_ix, w3_00, w3_10, i0_le, i0_lt, i0_ge, i0_gt, i0_eq, Int.reduceLE, Int.reduceLT, Int.reduceAdd, Int.reduceSub, Int.reduceMul, Int.reduceEq, Int.le_refl, Int.lt_irrefl]
        exact hgo
      · rw [cb_f h2]
        rw [if_neg (fun w => h2 w.2)] at hS
        simp (disch := omega) only [jX7_odds, kX7_odds_0, kX7_odds_1, fl_7_7, fl_7_68, ll_7_295, ll_7_297, fl_7_299, fl_7_22, k0, r0, r2, r3, r6, r9, r10, r11, r12, r13, r14, r15, r16, r17, r18, r19, r22, r25, r26, r27, c1, c2, c3, c4, c5, c6, c7, c8, c9, c10, c11, c12, c13, c14, c15, c16, c17, c18, c19, l1, l2, l3, l4, l5, l6, l7, l8, l9, l10, l11, l12, l13, l14, l15, l16, l17, l18, l19, cn_iconst, cn_lconst0, cn_lconst1, cn_null, cn_iload, cn_aload, cn_lload, cn_lo1, cn_loa1, cn_loa2, cn_lol1, cn_get0, cn_gets, cn_put0, cn_puts, cn_istore, cn_astore, cn_astoreN, cn_lstore, cn_iinc, cn_in1, cn_iadd, cn_isub, cn_imul, cn_iand, cn_ior, cn_ixor, cn_ishl, cn_ishr, cn_iushr, cn_idiv, cn_irem, cn_ladd, cn_lmul, cn_ldiv, cn_lrem, cn_i2l, cn_l2i, cn_i2b, cn_lcmp, cn_dupi, cn_dupr, cn_dup2, cn_popi, cn_popr, cn_goto, cn_if_eq, cn_if_ne, cn_if_lt, cn_if_ge, cn_if_gt, cn_if_le, cn_ic_eq, cn_ic_ne, cn_ic_lt, cn_ic_ge, cn_ic_gt, cn_ic_le, cn_ifnullN, cn_ifnullR, cn_ifnonnullN, cn_ifnonnullR, cn_tswS, cn_tsw0, cn_tsw1, cn_lswS, cn_lsw0, cn_lsw1, cn_alen, cn_iaload, cn_laload, cn_rr1, cn_rr0, cn_aaload, cn_iastore, cn_lastore, cn_aastore, cn_getfield, cn_gf0, cn_gf1, cn_gf2, cn_gf3, cn_putfield, cn_pf0f, cn_pf1f, cn_pf2f, cn_pf3f, cn_pf0t, cn_pf1t, cn_pf2t, cn_pf3t, cn_new, cn_nw1, cn_newi, cn_newl, cn_anew, cn_an1, cn_inv_v, cn_inv_s, cn_inv_p, cn_ca1, cn_cb1, cn_pop0, cn_pops, cn_rk0, cn_rk1, cn_kcn, cn_kcs, cn_ireturn, cn_lreturn, cn_areturn, cn_return, cn_re0, cn_re1, cn_re2, cn_re3, cn_re4, cn_re5, cn_wp0, cn_wps, cn_m0, cn_m1, cn_e0, cn_en, cn_ei, cn_er, cn_eu, cn_el, cn_nl0, cn_nls, cn_nb0, cn_nb1, cn_nb2, cn_nb3, cn_bd0, cn_bds, cn_cwi, cn_cwr, cn_cwl, cn_cwn, cn_wi2, cn_wl1, cn_wl3, cn_wr1, cn_wr2, cn_wi_eq, cn_wl_eq, cb_0, cb_n0, cb_b, cm_okb0, cm_okb1, Classical.not_not, true_and, and_true, Nat.reduceAdd, Nat.reduceSub, Nat.reduceLT, Nat.reduceLeDiff, Int.reduceToNat, Int.reduceNatCast', Nat.zero_le, Nat.reduceEqDiff, false_or, or_false, or_true, true_or, Int.reduceNeg, reduceCtorEq, false_implies, implies_true, forall_const, true_implies, not_true_eq_false, not_false_eq_true, Nat.le_refl, ne_eq, if_true, if_false, ite_true, ite_false, List.cons_append, List.nil_append, w3_add, w3_sub, w3_mul, w3_le, w3_lt, w3_eq, w3_toInt, w3_ix, w3_00, w3_10, i0_le, i0_lt, i0_ge, i0_gt, i0_eq, Int.reduceLE, Int.reduceLT, Int.reduceAdd, Int.reduceSub, Int.reduceMul, Int.reduceEq, Int.le_refl, Int.lt_irrefl]
        exact hS.k hD
    · rw [cb_f h1]
      rw [if_neg (fun w => h1 w.1)] at hS
      simp (disch := omega) only [jX7_odds, kX7_odds_0, kX7_odds_1, fl_7_7, fl_7_68, ll_7_295, ll_7_297, fl_7_299, fl_7_22, k0, r0, r2, r3, r6, r9, r10, r11, r12, r13, r14, r15, r16, r17, r18, r19, r22, r25, r26, r27, c1, c2, c3, c4, c5, c6, c7, c8, c9, c10, c11, c12, c13, c14, c15, c16, c17, c18, c19, l1, l2, l3, l4, l5, l6, l7, l8, l9, l10, l11, l12, l13, l14, l15, l16, l17, l18, l19, cn_iconst, cn_lconst0, cn_lconst1, cn_null, cn_iload, cn_aload, cn_lload, cn_lo1, cn_loa1, cn_loa2, cn_lol1, cn_get0, cn_gets, cn_put0, cn_puts, cn_istore, cn_astore, cn_astoreN, cn_lstore, cn_iinc, cn_in1, cn_iadd, cn_isub, cn_imul, cn_iand, cn_ior, cn_ixor, cn_ishl, cn_ishr, cn_iushr, cn_idiv, cn_irem, cn_ladd, cn_lmul, cn_ldiv, cn_lrem, cn_i2l, cn_l2i, cn_i2b, cn_lcmp, cn_dupi, cn_dupr, cn_dup2, cn_popi, cn_popr, cn_goto, cn_if_eq, cn_if_ne, cn_if_lt, cn_if_ge, cn_if_gt, cn_if_le, cn_ic_eq, cn_ic_ne, cn_ic_lt, cn_ic_ge, cn_ic_gt, cn_ic_le, cn_ifnullN, cn_ifnullR, cn_ifnonnullN, cn_ifnonnullR, cn_tswS, cn_tsw0, cn_tsw1, cn_lswS, cn_lsw0, cn_lsw1, cn_alen, cn_iaload, cn_laload, cn_rr1, cn_rr0, cn_aaload, cn_iastore, cn_lastore, cn_aastore, cn_getfield, cn_gf0, cn_gf1, cn_gf2, cn_gf3, cn_putfield, cn_pf0f, cn_pf1f, cn_pf2f, cn_pf3f, cn_pf0t, cn_pf1t, cn_pf2t, cn_pf3t, cn_new, cn_nw1, cn_newi, cn_newl, cn_anew, cn_an1, cn_inv_v, cn_inv_s, cn_inv_p, cn_ca1, cn_cb1, cn_pop0, cn_pops, cn_rk0, cn_rk1, cn_kcn, cn_kcs, cn_ireturn, cn_lreturn, cn_areturn, cn_return, cn_re0, cn_re1, cn_re2, cn_re3, cn_re4, cn_re5, cn_wp0, cn_wps, cn_m0, cn_m1, cn_e0, cn_en, cn_ei, cn_er, cn_eu, cn_el, cn_nl0, cn_nls, cn_nb0, cn_nb1, cn_nb2, cn_nb3, cn_bd0, cn_bds, cn_cwi, cn_cwr, cn_cwl, cn_cwn, cn_wi2, cn_wl1, cn_wl3, cn_wr1, cn_wr2, cn_wi_eq, cn_wl_eq, cb_0, cb_n0, cb_b, cm_okb0, cm_okb1, Classical.not_not, true_and, and_true, Nat.reduceAdd, Nat.reduceSub, Nat.reduceLT, Nat.reduceLeDiff, Int.reduceToNat, Int.reduceNatCast', Nat.zero_le, Nat.reduceEqDiff, false_or, or_false, or_true, true_or, Int.reduceNeg, reduceCtorEq, false_implies, implies_true, forall_const, true_implies, not_true_eq_false, not_false_eq_true, Nat.le_refl, ne_eq, if_true, if_false, ite_true, ite_false, List.cons_append, List.nil_append, w3_add, w3_sub, w3_mul, w3_le, w3_lt, w3_eq, w3_toInt, w3_ix, w3_00, w3_10, i0_le, i0_lt, i0_ge, i0_gt, i0_eq, Int.reduceLE, Int.reduceLT, Int.reduceAdd, Int.reduceSub, Int.reduceMul, Int.reduceEq, Int.le_refl, Int.lt_irrefl]
      exact hS.k hD

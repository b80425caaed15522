theorem kq_neg {M : cm_M} {m k : Nat} (hk : k < 3) (h : M.1 (m + 18) (k : Int) = w3 (-1)) : mKq M m k = bkE := by
  unfold mKq
  rw [if_pos hk, h, if_pos (by decide)]
theorem kq_pos {M : cm_M} {m k : Nat} (hk : k < 3) (h : 1 ≤ (M.1 (m + 18) (k : Int)).toInt) : mKq M m k = rb (M.1 (m + 17)) (2032 * (k : Int)) (M.1 (m + 18) (k : Int)).toInt.toNat := by
  unfold mKq
  rw [if_pos hk, if_neg (by omega)]
/-- the book is kept -/
theorem md_kep {T : cm_T} {M M1 : cm_M} {m κ n : Nat} (hD : MD T M m) (hκ : κ < 3) (hn : (mbk M m).1 = n) (hn1 : 1 ≤ n) (h : Fz (fun q k => (q = m + 17 ∧ 2032 * (κ : Int) ≤ k ∧ k < 2032 * (κ : Int) + 2032) ∨ (q = m + 18 ∧ k = (κ : Int))) M M1) (h8 : M1.1 (m + 18) (κ : Int) = w3 (n : Int)) (h7 : ∀ k : Int, 0 ≤ k → k < 2032 → M1.1 (m + 17) (2032 * (κ : Int) + k) = M.1 (m + 1) k) : MD T M1 m ∧ mst M1 m = stK (mst M m) κ (mbk M m) ∧ FrM M M1 m := by
  subst hn
  obtain ⟨g0, g1, g2, g3⟩ := hD.2.1
  have W : WB (mbk M m) := g1.1
  have h16 := W.1
  have ro : ∀ q : Nat, q ≠ m + 17 → q ≠ m + 18 → M1.1 q = M.1 q := fun q a b => funext fun k => h.1 q k (fun w => by omega)
  have eN : (M.1 m 1).toInt.toNat = (mbk M m).1 := rfl
  have e8 : (M1.1 (m + 18) (κ : Int)).toInt = ((mbk M m).1 : Int) := by rw [h8]; exact w3_toInt (by omega) (by omega)
  have e8n : (M1.1 (m + 18) (κ : Int)).toInt.toNat = (mbk M m).1 := by omega
  obtain ⟨c1, c2⟩ := rb_cong (g := M1.1 (m + 17)) (o' := 2032 * (κ : Int)) g1 (fun k k1 k2 => by rw [Int.zero_add]; exact (h7 k k1 (by omega)).symm)
  have c1 : rb (M1.1 (m + 17)) (2032 * (κ : Int)) (mbk M m).1 = mbk M m := c1
  have c2 : BW (M1.1 (m + 17)) (2032 * (κ : Int)) (mbk M m).1 := c2
  have oth : ∀ k : Nat, k < 3 → k ≠ κ → M1.1 (m + 18) (k : Int) = M.1 (m + 18) (k : Int) ∧ ∀ n : Nat, n ≤ 16 → BW (M.1 (m + 17)) (2032 * (k : Int)) n → rb (M1.1 (m + 17)) (2032 * (k : Int)) n = rb (M.1 (m + 17)) (2032 * (k : Int)) n ∧ BW (M1.1 (m + 17)) (2032 * (k : Int)) n := by
    intro k hk hne
    refine ⟨h.1 _ _ (fun w => by omega), fun n hn hB => rb_cong hB (fun j j1 j2 => ?_)⟩
    exact (h.1 _ _ (fun w => by omega)).symm
  have hK : ∀ k : Nat, k < 3 → M1.1 (m + 18) (k : Int) = w3 (-1) ∨ (1 ≤ (M1.1 (m + 18) (k : Int)).toInt ∧ BW (M1.1 (m + 17)) (2032 * (k : Int)) (M1.1 (m + 18) (k : Int)).toInt.toNat) := by
    intro k hk
    by_cases e : k = κ
    · subst e
      exact Or.inr ⟨by omega, by rw [e8n]; exact c2⟩
    · obtain ⟨o1, o2⟩ := oth k hk e
      rw [o1]
      rcases g2 k hk with q | ⟨q, w⟩
      · exact Or.inl q
      · exact Or.inr ⟨q, (o2 _ w.1.1 w).2⟩
  have e0 : M1.1 m 1 = M.1 m 1 := by rw [ro m (by omega) (by omega)]
  have eb : mbk M1 m = mbk M m := by
    show rb (M1.1 (m + 1)) 0 (M1.1 m 1).toInt.toNat = rb (M.1 (m + 1)) 0 (M.1 m 1).toInt.toNat
    rw [e0, ro (m + 1) (by omega) (by omega)]
  have hMB : MDB M1 m := ⟨by rw [e0]; exact g0, by rw [e0, ro (m + 1) (by omega) (by omega)]; exact g1, hK, by rw [eb, ro (m + 1) (by omega) (by omega), ro (m + 2) (by omega) (by omega), ro (m + 3) (by omega) (by omega)]; exact g3⟩
  obtain ⟨d1, d2, d3⟩ := md_bok hD (h.mono (fun q k w => Or.inr (by omega))) hMB
  refine ⟨d1, ?_, d3⟩
  have ek : mKq M1 m = up (mKq M m) κ (mbk M m) := by
    refine funext fun k => ?_
    show mKq M1 m k = if k = κ then mbk M m else mKq M m k
    by_cases e : k = κ
    · subst e
      rw [if_pos rfl, kq_pos hκ (by omega), e8n, c1]
    · rw [if_neg e]
      by_cases hk : k < 3
      · obtain ⟨o1, o2⟩ := oth k hk e
        rcases g2 k hk with q | ⟨q, w⟩
        · rw [kq_neg hk q, kq_neg hk (o1.trans q)]
        · rw [kq_pos hk q, kq_pos hk (by rw [o1]; exact q), o1, (o2 (M.1 (m + 18) (k : Int)).toInt.toNat w.1.1 w).1]
      · unfold mKq
        rw [if_neg hk, if_neg hk]
  rw [d2, eb, ek]
  exact St_ext (@rfl _ (mst M m).1) (@rfl _ (mst M m).2.1) (@rfl _ (mbk M m)) (@rfl _ (up (mKq M m) κ (mbk M m))) (@rfl _ (M.1 m 4)) (@rfl _ (M.2.1 m 7)) (@rfl _ (M.2.1 m 8)) (@rfl _ (M.1 m 5)) (@rfl _ (mCt M m))
/-- a kept book is gone on from -/
theorem md_on {T : cm_T} {M M1 : cm_M} {m κ : Nat} (hD : MD T M m) (hκ : κ < 3) (hk1 : 1 ≤ (M.1 (m + 18) (κ : Int)).toInt) (h : Fz (fun q k => (q = m + 1 ∧ k < 2032) ∨ (q = m ∧ k = 1) ∨ q = m + 2) M M1) (h0 : M1.1 m 1 = M.1 (m + 18) (κ : Int)) (h1 : ∀ k : Int, 0 ≤ k → k < 2032 → M1.1 (m + 1) k = M.1 (m + 17) (2032 * (κ : Int) + k)) (hf : ∀ l h : Nat, l < h → h < 16 → M1.1 (m + 2) (prI l h) = w3 0) : MD T M1 m ∧ mst M1 m = stB (mst M m) (mKq M m κ) ∧ FrM M M1 m := by
  obtain ⟨g0, g1, g2, g3⟩ := hD.2.1
  have ro : ∀ q : Nat, q = m + 17 ∨ q = m + 18 → M1.1 q = M.1 q := fun q a => funext fun k => h.1 q k (fun w => by omega)
  have hB : BW (M.1 (m + 17)) (2032 * (κ : Int)) (M.1 (m + 18) (κ : Int)).toInt.toNat := by
    rcases g2 κ hκ with q | ⟨q, w⟩
    · rw [q] at hk1; exact absurd hk1 (by decide)
    · exact w
  have n16 : (M.1 (m + 18) (κ : Int)).toInt.toNat ≤ 16 := hB.1.1
  obtain ⟨c1, c2⟩ := rb_cong (g := M1.1 (m + 1)) (o' := 0) hB (fun k k1 k2 => by rw [Int.zero_add]; exact (h1 k k1 (by omega)).symm)
  have eb : mbk M1 m = mKq M m κ := by
    show rb (M1.1 (m + 1)) 0 (M1.1 m 1).toInt.toNat = _
    rw [h0, c1, kq_pos hκ hk1]
  have hMB : MDB M1 m := ⟨by rw [h0]; omega, by rw [h0]; exact c2, by rw [ro (m + 17) (by omega), ro (m + 18) (by omega)]; exact g2, fun l hh a b => Or.inl (hf l hh a b)⟩
  obtain ⟨d1, d2, d3⟩ := md_bok hD (h.mono (fun q k w => Or.inr (by omega))) hMB
  refine ⟨d1, ?_, d3⟩
  rw [d2, eb, mKq_k (ro (m + 17) (by omega)) (ro (m + 18) (by omega)), stB_m]
def SX7_keep : cm_CT := fun as T M Φ => match as with
  | [.ref m, .int k] => MD T M m ∧ mPo T M m Φ (fKep (mst M m) k.toInt)
  | _ => False
def JX7_keep : cm_J := (7, false, 1, [], [(79, 3, 0, 0, 0, SX7_in)], [])
theorem jX7_keep : JX7_keep.1 = 7 ∧ JX7_keep.2.1 = false ∧ JX7_keep.2.2.1 = 1 ∧ cm_gs JX7_keep 79 = some (3, 0, 0, 0, SX7_in) := ⟨rfl, rfl, rfl, rfl⟩
theorem eX7_keep (d : Nat) (hd : 1 ≤ d) : cm_Cok d JX7_keep := ⟨(fun q h => by cases h), (List.forall_mem_cons.mpr ⟨q7_79 (mX7_in (d - 1) (by omega)) (by omega), (fun q h => by cases h)⟩), (fun q h => by cases h)⟩
set_option maxHeartbeats 8000000 in
theorem lX7_keep (d : Nat) (hd : 1 ≤ d) {T : cm_T} {M : cm_M} {Φ : Option Value → cm_T → cm_M → Prop} {m κ n : Nat} (hT : TMd T M.2.2 m) (hκ : κ < 3) (hn : M.1 m 1 = w3 (n : Int)) (hS : ∀ M1, Fz (fun q k => (q = m + 17 ∧ 2032 * (κ : Int) ≤ k ∧ k < 2032 * (κ : Int) + 2032) ∨ (q = m + 18 ∧ k = (κ : Int))) M M1 → M1.1 (m + 18) (κ : Int) = w3 (n : Int) → (∀ k : Int, 0 ≤ k → k < 2032 → M1.1 (m + 17) (2032 * (κ : Int) + k) = M.1 (m + 1) k) → Φ (some (.int (w3 (n : Int)))) T M1) :
    ∀ (g c : Nat) (M1 : cm_M), g + c = 2032 → Fz (fun q k => (q = m + 17 ∧ 2032 * (κ : Int) ≤ k ∧ k < 2032 * (κ : Int) + 2032) ∨ (q = m + 18 ∧ k = (κ : Int))) M M1 → (∀ k : Int, 0 ≤ k → k < (c : Int) → M1.1 (m + 17) (2032 * (κ : Int) + k) = M.1 (m + 1) k) → cm_Go d cX7_keep 3 0 0 JX7_keep Φ 23 [some (.ref m), some (.int (w3 (κ : Int))), some (.int (w3 (c : Int)))] [] (0, 0) T M1 := by
  obtain ⟨k0, ⟨r0, r2, r3, r6, r9, r10, r11, r12, r13, r14, r15, r16, r17, r18, r19, r22, r25, r26, r27⟩, ⟨c1, c2, c3, c4, c5, c6, c7, c8, c9, c10, c11, c12, c13, c14, c15, c16, c17, c18, c19⟩, ⟨l1, l2, l3, l4, l5, l6, l7, l8, l9, l10, l11, l12, l13, l14, l15, l16, l17, l18, l19⟩⟩ := id hT
  intro g
  induction g with
  | zero =>
    intro c M1 hc F hk
    have ec : c = 2032 := by omega
    subst ec
    have e2 := F.2
    have r1 : M1.1 m 1 = w3 (n : Int) := by rw [F.1 _ _ (by omega)]; exact hn
    have r9 : (cm_wi M1 (m + 18) (κ : Int) (w3 (n : Int))).1 m = M1.1 m := wi_r (by omega)
    have q0 : ((2032 : Int) ≤ ((2032 : Nat) : Int)) = True := eq_true (by omega)
    refine cm_go hX7_keep 100 oX7_keep (eX7_keep d hd) lX7_keep_23 ?_
    simp (disch := omega) only [jX7_keep, kX7_keep_0, fl_7_155, fl_7_62, fl_7_7, fl_7_65, e2, r1, r9, q0, k0, r0, r2, r3, r6, r9, r10, r11, r12, r13, r14, r15, r16, r17, r18, r19, r22, r25, r26, r27, c1, c2, c3, c4, c5, c6, c7, c8, c9, c10, c11, c12, c13, c14, c15, c16, c17, c18, c19, l1, l2, l3, l4, l5, l6, l7, l8, l9, l10, l11, l12, l13, l14, l15, l16, l17, l18, l19, cn_iconst, cn_lconst0, cn_lconst1, cn_null, cn_iload, cn_aload, cn_lload, cn_lo1, cn_loa1, cn_loa2, cn_lol1, cn_get0, cn_gets, cn_put0, cn_puts, cn_istore, cn_astore, cn_astoreN, cn_lstore, cn_iinc, cn_in1, cn_iadd, cn_isub, cn_imul, cn_iand, cn_ior, cn_ixor, cn_ishl, cn_ishr, cn_iushr, cn_idiv, cn_irem, cn_ladd, cn_lmul, cn_ldiv, cn_lrem, cn_i2l, cn_l2i, cn_i2b, cn_lcmp, cn_dupi, cn_dupr, cn_dup2, cn_popi, cn_popr, cn_goto, cn_if_eq, cn_if_ne, cn_if_lt, cn_if_ge, cn_if_gt, cn_if_le, cn_ic_eq, cn_ic_ne, cn_ic_lt, cn_ic_ge, cn_ic_gt, cn_ic_le, cn_ifnullN, cn_ifnullR, cn_ifnonnullN, cn_ifnonnullR, cn_tswS, cn_tsw0, cn_tsw1, cn_lswS, cn_lsw0, cn_lsw1, cn_alen, cn_iaload, cn_laload, cn_rr1, cn_rr0, cn_aaload, cn_iastore, cn_lastore, cn_aastore, cn_getfield, cn_gf0, cn_gf1, cn_gf2, cn_gf3, cn_putfield, cn_pf0f, cn_pf1f, cn_pf2f, cn_pf3f, cn_pf0t, cn_pf1t, cn_pf2t, cn_pf3t, cn_new, cn_nw1, cn_newi, cn_newl, cn_anew, cn_an1, cn_inv_v, cn_inv_s, cn_inv_p, cn_ca1, cn_cb1, cn_pop0, cn_pops, cn_rk0, cn_rk1, cn_kcn, cn_kcs, cn_ireturn, cn_lreturn, cn_areturn, cn_return, cn_re0, cn_re1, cn_re2, cn_re3, cn_re4, cn_re5, cn_wp0, cn_wps, cn_m0, cn_m1, cn_e0, cn_en, cn_ei, cn_er, cn_eu, cn_el, cn_nl0, cn_nls, cn_nb0, cn_nb1, cn_nb2, cn_nb3, cn_bd0, cn_bds, cn_cwi, cn_cwr, cn_cwl, cn_cwn, cn_wi2, cn_wl1, cn_wl3, cn_wr1, cn_wr2, cn_wi_eq, cn_wl_eq, cb_0, cb_n0, cb_b, cm_okb0, cm_okb1, Classical.not_not, true_and, and_true, Nat.reduceAdd, Nat.reduceSub, Nat.reduceLT, Nat.reduceLeDiff, Int.reduceToNat, Int.reduceNatCast', Nat.zero_le, Nat.reduceEqDiff, false_or, or_false, or_true, true_or, Int.reduceNeg, reduceCtorEq, false_implies, implies_true, forall_const, true_implies, not_true_eq_false, not_false_eq_true, Nat.le_refl, ne_eq, if_true, if_false, ite_true, ite_false, List.cons_append, List.nil_append, w3_add, w3_sub, w3_mul, w3_le, w3_lt, w3_eq, w3_toInt, w3_ix, w3_00, w3_10, i0_le, i0_lt, i0_ge, i0_gt, i0_eq, Int.reduceLE, Int.reduceLT, Int.reduceAdd, Int.reduceSub, Int.reduceMul, Int.reduceEq, Int.le_refl, Int.lt_irrefl]
    repeat (with_reducible refine And.intro (by omega) ?_)
    refine hS _ (F.trans (Fz.wi (Or.inr ⟨rfl, rfl⟩))) cn_wi_eq (fun k a b => ?_)
    rw [cn_wi_ne (Or.inl (by omega))]
    exact hk k a (by omega)
  | succ g ih =>
    intro c M1 hc F hk
    have e2 := F.2
    have rd : M1.1 (m + 1) (c : Int) = M.1 (m + 1) (c : Int) := F.1 _ _ (by omega)
    have q0 : ((2032 : Int) ≤ (c : Int)) = False := eq_false (by omega)
    refine cm_go hX7_keep 100 oX7_keep (eX7_keep d hd) lX7_keep_23 ?_
    simp (disch := omega) only [jX7_keep, kX7_keep_0, fl_7_155, fl_7_62, fl_7_7, fl_7_65, e2, q0, rd, k0, r0, r2, r3, r6, r9, r10, r11, r12, r13, r14, r15, r16, r17, r18, r19, r22, r25, r26, r27, c1, c2, c3, c4, c5, c6, c7, c8, c9, c10, c11, c12, c13, c14, c15, c16, c17, c18, c19, l1, l2, l3, l4, l5, l6, l7, l8, l9, l10, l11, l12, l13, l14, l15, l16, l17, l18, l19, cn_iconst, cn_lconst0, cn_lconst1, cn_null, cn_iload, cn_aload, cn_lload, cn_lo1, cn_loa1, cn_loa2, cn_lol1, cn_get0, cn_gets, cn_put0, cn_puts, cn_istore, cn_astore, cn_astoreN, cn_lstore, cn_iinc, cn_in1, cn_iadd, cn_isub, cn_imul, cn_iand, cn_ior, cn_ixor, cn_ishl, cn_ishr, cn_iushr, cn_idiv, cn_irem, cn_ladd, cn_lmul, cn_ldiv, cn_lrem, cn_i2l, cn_l2i, cn_i2b, cn_lcmp, cn_dupi, cn_dupr, cn_dup2, cn_popi, cn_popr, cn_goto, cn_if_eq, cn_if_ne, cn_if_lt, cn_if_ge, cn_if_gt, cn_if_le, cn_ic_eq, cn_ic_ne, cn_ic_lt, cn_ic_ge, cn_ic_gt, cn_ic_le, cn_ifnullN, cn_ifnullR, cn_ifnonnullN, cn_ifnonnullR, cn_tswS, cn_tsw0, cn_tsw1, cn_lswS, cn_lsw0, cn_lsw1, cn_alen, cn_iaload, cn_laload, cn_rr1, cn_rr0, cn_aaload, cn_iastore, cn_lastore, cn_aastore, cn_getfield, cn_gf0, cn_gf1, cn_gf2, cn_gf3, cn_putfield, cn_pf0f, cn_pf1f, cn_pf2f, cn_pf3f, cn_pf0t, cn_pf1t, cn_pf2t, cn_pf3t, cn_new, cn_nw1, cn_newi, cn_newl, cn_anew, cn_an1, cn_inv_v, cn_inv_s, cn_inv_p, cn_ca1, cn_cb1, cn_pop0, cn_pops, cn_rk0, cn_rk1, cn_kcn, cn_kcs, cn_ireturn, cn_lreturn, cn_areturn, cn_return, cn_re0, cn_re1, cn_re2, cn_re3, cn_re4, cn_re5, cn_wp0, cn_wps, cn_m0, cn_m1, cn_e0, cn_en, cn_ei, cn_er, cn_eu, cn_el, cn_nl0, cn_nls, cn_nb0, cn_nb1, cn_nb2, cn_nb3, cn_bd0, cn_bds, cn_cwi, cn_cwr, cn_cwl, cn_cwn, cn_wi2, cn_wl1, cn_wl3, cn_wr1, cn_wr2, cn_wi_eq, cn_wl_eq, cb_0, cb_n0, cb_b, cm_okb0, cm_okb1, Classical.not_not, true_and, and_true, Nat.reduceAdd, Nat.reduceSub, Nat.reduceLT, Nat.reduceLeDiff, Int.reduceToNat, Int.reduceNatCast', Nat.zero_le, Nat.reduceEqDiff, false_or, or_false, or_true, true_or, Int.reduceNeg, reduceCtorEq, false_implies, implies_true, forall_const, true_implies, not_true_eq_false, not_false_eq_true, Nat.le_refl, ne_eq, if_true, if_false, ite_true, ite_false, List.cons_append, List.nil_append, w3_add, w3_sub, w3_mul, w3_le, w3_lt, w3_eq, w3_toInt, w3_ix, w3_00, w3_10, i0_le, i0_lt, i0_ge, i0_gt, i0_eq, Int.reduceLE, Int.reduceLT, Int.reduceAdd, Int.reduceSub, Int.reduceMul, Int.reduceEq, Int.le_refl, Int.lt_irrefl]
    repeat (with_reducible refine And.intro (by omega) ?_)
    refine ih (c + 1) _ (by omega) (F.trans (Fz.wi (Or.inl ⟨rfl, by omega, by omega⟩))) (fun k a b => ?_)
    by_cases e : k = (c : Int)
    · subst e; exact cn_wi_eq
    · rw [cn_wi_ne (Or.inr (by omega))]; exact hk k a (by omega)
set_option maxHeartbeats 4000000 in
theorem mX7_keep (d : Nat) (hd : 1 ≤ d) : cm_Met d yX7_keep cX7_keep 3 (some .int) 0 0 SX7_keep := by
  refine cm_meets (J := JX7_keep) (by decide) rfl (fun h => by cases h) trivial ?_
  intro as T M Φ hS
  match as, hS with
  | [.ref m0, .int k], ⟨hD, hS⟩ =>
    refine ⟨Nat.le_of_ble_eq_true rfl, ?_⟩
    obtain ⟨m, hm⟩ : ∃ m : Nat, m = m0 := ⟨m0, rfl⟩
    subst hm
    have hT := hD.1
    obtain ⟨k0, ⟨r0, r2, r3, r6, r9, r10, r11, r12, r13, r14, r15, r16, r17, r18, r19, r22, r25, r26, r27⟩, ⟨c1, c2, c3, c4, c5, c6, c7, c8, c9, c10, c11, c12, c13, c14, c15, c16, c17, c18, c19⟩, ⟨l1, l2, l3, l4, l5, l6, l7, l8, l9, l10, l11, l12, l13, l14, l15, l16, l17, l18, l19⟩⟩ := id hT
    obtain ⟨hn, h16⟩ := hD.n
    unfold fKep at hS
    rw [ms_b] at hS
    by_cases h1 : 0 ≤ k.toInt ∧ k.toInt < 3
    · rw [if_pos h1] at hS
      obtain ⟨κ, s1, s2⟩ := i3_nat h1.1
      have hκ : κ < 3 := by omega
      subst s1
      rw [s2] at hS
      have tt : (0 ≤ (κ : Int) ∧ (κ : Int) ≤ 2) = True := eq_true (by omega)
      by_cases h0 : (mbk M m).1 = 0
      · rw [if_pos h0] at hS
        have q : (((mbk M m).1 : Int) = 0) = True := eq_true (by omega)
        refine cm_go hX7_keep 100 oX7_keep (eX7_keep d hd) lX7_keep_0 ?_
        simp (disch := omega) only [jX7_keep, kX7_keep_0, fl_7_155, fl_7_62, fl_7_7, fl_7_65, SX7_in, hn, tt, q, k0, r0, r2, r3, r6, r9, r10, r11, r12, r13, r14, r15, r16, r17, r18, r19, r22, r25, r26, r27, c1, c2, c3, c4, c5, c6, c7, c8, c9, c10, c11, c12, c13, c14, c15, c16, c17, c18, c19, l1, l2, l3, l4, l5, l6, l7, l8, l9, l10, l11, l12, l13, l14, l15, l16, l17, l18, l19, cn_iconst, cn_lconst0, cn_lconst1, cn_null, cn_iload, cn_aload, cn_lload, cn_lo1, cn_loa1, cn_loa2, cn_lol1, cn_get0, cn_gets, cn_put0, cn_puts, cn_istore, cn_astore, cn_astoreN, cn_lstore, cn_iinc, cn_in1, cn_iadd, cn_isub, cn_imul, cn_iand, cn_ior, cn_ixor, cn_ishl, cn_ishr, cn_iushr, cn_idiv, cn_irem, cn_ladd, cn_lmul, cn_ldiv, cn_lrem, cn_i2l, cn_l2i, cn_i2b, cn_lcmp, cn_dupi, cn_dupr, cn_dup2, cn_popi, cn_popr, cn_goto, cn_if_eq, cn_if_ne, cn_if_lt, cn_if_ge, cn_if_gt, cn_if_le, cn_ic_eq, cn_ic_ne, cn_ic_lt, cn_ic_ge, cn_ic_gt, cn_ic_le, cn_ifnullN, cn_ifnullR, cn_ifnonnullN, cn_ifnonnullR, cn_tswS, cn_tsw0, cn_tsw1, cn_lswS, cn_lsw0, cn_lsw1, cn_alen, cn_iaload, cn_laload, cn_rr1, cn_rr0, cn_aaload, cn_iastore, cn_lastore, cn_aastore, cn_getfield, cn_gf0, cn_gf1, cn_gf2, cn_gf3, cn_putfield, cn_pf0f, cn_pf1f, cn_pf2f, cn_pf3f, cn_pf0t, cn_pf1t, cn_pf2t, cn_pf3t, cn_new, cn_nw1, cn_newi, cn_newl, cn_anew, cn_an1, cn_inv_v, cn_inv_s, cn_inv_p, cn_ca1, cn_cb1, cn_pop0, cn_pops, cn_rk0, cn_rk1, cn_kcn, cn_kcs, cn_ireturn, cn_lreturn, cn_areturn, cn_return, cn_re0, cn_re1, cn_re2, cn_re3, cn_re4, cn_re5, cn_wp0, cn_wps, cn_m0, cn_m1, cn_e0, cn_en, cn_ei, cn_er, cn_eu, cn_el, cn_nl0, cn_nls, cn_nb0, cn_nb1, cn_nb2, cn_nb3, cn_bd0, cn_bds, cn_cwi, cn_cwr, cn_cwl, cn_cwn, cn_wi2, cn_wl1, cn_wl3, cn_wr1, cn_wr2, cn_wi_eq, cn_wl_eq, cb_0, cb_n0, cb_b, cm_okb0, cm_okb1, Classical.not_not, true_and, and_true, Nat.reduceAdd, Nat.reduceSub, Nat.reduceLT, Nat.reduceLeDiff, Int.reduceToNat, Int.reduceNatCast', Nat.zero_le, Nat.reduceEqDiff, false_or, or_false, or_true, true_or, Int.reduceNeg, reduceCtorEq, false_implies, implies_true, forall_const, true_implies, not_true_eq_false, not_false_eq_true, Nat.le_refl, ne_eq, if_true, if_false, ite_true, ite_false, List.cons_append, List.nil_append, w3_add, w3_sub, w3_mul, w3_le, w3_lt, w3_eq, w3_toInt, w3_ix, w3_00, w3_10, i0_le, i0_lt, i0_ge, i0_gt, i0_eq, Int.reduceLE, Int.reduceLT, Int.reduceAdd, Int.reduceSub, Int.reduceMul, Int.reduceEq, Int.le_refl, Int.lt_irrefl]
        exact hS.k hD
      · rw [if_neg h0] at hS
        have q : (((mbk M m).1 : Int) = 0) = False := eq_false (by omega)
        refine cm_go hX7_keep 100 oX7_keep (eX7_keep d hd) lX7_keep_0 ?_
        simp (disch := omega) only [jX7_keep, kX7_keep_0, fl_7_155, fl_7_62, fl_7_7, fl_7_65, SX7_in, hn, tt, q, k0, r0, r2, r3, r6, r9, r10, r11, r12, r13, r14, r15, r16, r17, r18, r19, r22, r25, r26, r27, c1, c2, c3, c4, c5, c6, c7, c8, c9, c10, c11, c12, c13, c14, c15, c16, c17, c18, c19, l1, l2, l3, l4, l5, l6, l7, l8, l9, l10, l11, l12, l13, l14, l15, l16, l17, l18, l19, cn_iconst, cn_lconst0, cn_lconst1, cn_null, cn_iload, cn_aload, cn_lload, cn_lo1, cn_loa1, cn_loa2, cn_lol1, cn_get0, cn_gets, cn_put0, cn_puts, cn_istore, cn_astore, cn_astoreN, cn_lstore, cn_iinc, cn_in1, cn_iadd, cn_isub, cn_imul, cn_iand, cn_ior, cn_ixor, cn_ishl, cn_ishr, cn_iushr, cn_idiv, cn_irem, cn_ladd, cn_lmul, cn_ldiv, cn_lrem, cn_i2l, cn_l2i, cn_i2b, cn_lcmp, cn_dupi, cn_dupr, cn_dup2, cn_popi, cn_popr, cn_goto, cn_if_eq, cn_if_ne, cn_if_lt, cn_if_ge, cn_if_gt, cn_if_le, cn_ic_eq, cn_ic_ne, cn_ic_lt, cn_ic_ge, cn_ic_gt, cn_ic_le, cn_ifnullN, cn_ifnullR, cn_ifnonnullN, cn_ifnonnullR, cn_tswS, cn_tsw0, cn_tsw1, cn_lswS, cn_lsw0, cn_lsw1, cn_alen, cn_iaload, cn_laload, cn_rr1, cn_rr0, cn_aaload, cn_iastore, cn_lastore, cn_aastore, cn_getfield, cn_gf0, cn_gf1, cn_gf2, cn_gf3, cn_putfield, cn_pf0f, cn_pf1f, cn_pf2f, cn_pf3f, cn_pf0t, cn_pf1t, cn_pf2t, cn_pf3t, cn_new, cn_nw1, cn_newi, cn_newl, cn_anew, cn_an1, cn_inv_v, cn_inv_s, cn_inv_p, cn_ca1, cn_cb1, cn_pop0, cn_pops, cn_rk0, cn_rk1, cn_kcn, cn_kcs, cn_ireturn, cn_lreturn, cn_areturn, cn_return, cn_re0, cn_re1, cn_re2, cn_re3, cn_re4, cn_re5, cn_wp0, cn_wps, cn_m0, cn_m1, cn_e0, cn_en, cn_ei, cn_er, cn_eu, cn_el, cn_nl0, cn_nls, cn_nb0, cn_nb1, cn_nb2, cn_nb3, cn_bd0, cn_bds, cn_cwi, cn_cwr, cn_cwl, cn_cwn, cn_wi2, cn_wl1, cn_wl3, cn_wr1, cn_wr2, cn_wi_eq, cn_wl_eq, cb_0, cb_n0, cb_b, cm_okb0, cm_okb1, Classical.not_not, true_and, and_true, Nat.reduceAdd, Nat.reduceSub, Nat.reduceLT, Nat.reduceLeDiff, Int.reduceToNat, Int.reduceNatCast', Nat.zero_le, Nat.reduceEqDiff, false_or, or_false, or_true, true_or, Int.reduceNeg, reduceCtorEq, false_implies, implies_true, forall_const, true_implies, not_true_eq_false, not_false_eq_true, Nat.le_refl, ne_eq, if_true, if_false, ite_true, ite_false, List.cons_append, List.nil_append, w3_add, w3_sub, w3_mul, w3_le, w3_lt, w3_eq, w3_toInt, w3_ix, w3_00, w3_10, i0_le, i0_lt, i0_ge, i0_gt, i0_eq, Int.reduceLE, Int.reduceLT, Int.reduceAdd, Int.reduceSub, Int.reduceMul, Int.reduceEq, Int.le_refl, Int.lt_irrefl]
        refine lX7_keep d hd hT hκ hn (fun M1 F a b => ?_) 2032 0 M rfl Fz.rf (fun k a b => by omega)
        obtain ⟨d1, d2, d3⟩ := md_kep hD hκ rfl (by omega) F a b
        exact hS M1 d3 d1 d2
    · rw [if_neg h1] at hS
      have tt : (0 ≤ k.toInt ∧ k.toInt ≤ 2) = False := eq_false (by omega)
      refine cm_go hX7_keep 100 oX7_keep (eX7_keep d hd) lX7_keep_0 ?_
      simp (disch := omega) only [jX7_keep, kX7_keep_0, fl_7_155, fl_7_62, fl_7_7, fl_7_65, SX7_in, tt, k0, r0, r2, r3, r6, r9, r10, r11, r12, r13, r14, r15, r16, r17, r18, r19, r22, r25, r26, r27, c1, c2, c3, c4, c5, c6, c7, c8, c9, c10, c11, c12, c13, c14, c15, c16, c17, c18, c19, l1, l2, l3, l4, l5, l6, l7, l8, l9, l10, l11, l12, l13, l14, l15, l16, l17, l18, l19, cn_iconst, cn_lconst0, cn_lconst1, cn_null, cn_iload, cn_aload, cn_lload, cn_lo1, cn_loa1, cn_loa2, cn_lol1, cn_get0, cn_gets, cn_put0, cn_puts, cn_istore, cn_astore, cn_astoreN, cn_lstore, cn_iinc, cn_in1, cn_iadd, cn_isub, cn_imul, cn_iand, cn_ior, cn_ixor, cn_ishl, cn_ishr, cn_iushr, cn_idiv, cn_irem, cn_ladd, cn_lmul, cn_ldiv, cn_lrem, cn_i2l, cn_l2i, cn_i2b, cn_lcmp, cn_dupi, cn_dupr, cn_dup2, cn_popi, cn_popr, cn_goto, cn_if_eq, cn_if_ne, cn_if_lt, cn_if_ge, cn_if_gt, cn_if_le, cn_ic_eq, cn_ic_ne, cn_ic_lt, cn_ic_ge, cn_ic_gt, cn_ic_le, cn_ifnullN, cn_ifnullR, cn_ifnonnullN, cn_ifnonnullR, cn_tswS, cn_tsw0, cn_tsw1, cn_lswS, cn_lsw0, cn_lsw1, cn_alen, cn_iaload, cn_laload, cn_rr1, cn_rr0, cn_aaload, cn_iastore, cn_lastore, cn_aastore, cn_getfield, cn_gf0, cn_gf1, cn_gf2, cn_gf3, cn_putfield, cn_pf0f, cn_pf1f, cn_pf2f, cn_pf3f, cn_pf0t, cn_pf1t, cn_pf2t, cn_pf3t, cn_new, cn_nw1, cn_newi, cn_newl, cn_anew, cn_an1, cn_inv_v, cn_inv_s, cn_inv_p, cn_ca1, cn_cb1, cn_pop0, cn_pops, cn_rk0, cn_rk1, cn_kcn, cn_kcs, cn_ireturn, cn_lreturn, cn_areturn, cn_return, cn_re0, cn_re1, cn_re2, cn_re3, cn_re4, cn_re5, cn_wp0, cn_wps, cn_m0, cn_m1, cn_e0, cn_en, cn_ei, cn_er, cn_eu, cn_el, cn_nl0, cn_nls, cn_nb0, cn_nb1, cn_nb2, cn_nb3, cn_bd0, cn_bds, cn_cwi, cn_cwr, cn_cwl, cn_cwn, cn_wi2, cn_wl1, cn_wl3, cn_wr1, cn_wr2, cn_wi_eq, cn_wl_eq, cb_0, cb_n0, cb_b, cm_okb0, cm_okb1, Classical.not_not, true_and, and_true, Nat.reduceAdd, Nat.reduceSub, Nat.reduceLT, Nat.reduceLeDiff, Int.reduceToNat, Int.reduceNatCast', Nat.zero_le, Nat.reduceEqDiff, false_or, or_false, or_true, true_or, Int.reduceNeg, reduceCtorEq, false_implies, implies_true, forall_const, true_implies, not_true_eq_false, not_false_eq_true, Nat.le_refl, ne_eq, if_true, if_false, ite_true, ite_false, List.cons_append, List.nil_append, w3_add, w3_sub, w3_mul, w3_le, w3_lt, w3_eq, w3_toInt, w3_ix, w3_00, w3_10, i0_le, i0_lt, i0_ge, i0_gt, i0_eq, Int.reduceLE, Int.reduceLT, Int.reduceAdd, Int.reduceSub, Int.reduceMul, Int.reduceEq, Int.le_refl, Int.lt_irrefl]
      exact hS.k hD
def SX7_on : cm_CT := fun as T M Φ => match as with
  | [.ref m, .int k] => MD T M m ∧ mPo T M m Φ (fOn (mst M m) k.toInt)
  | _ => False
def JX7_on : cm_J := (7, false, 1, [(87, 2, 8, 0, 0, SX7_finds), (205, 2, 8, 0, 0, SX7_forgets)], [(79, 3, 0, 0, 0, SX7_in)], [])
theorem jX7_on : JX7_on.1 = 7 ∧ JX7_on.2.1 = false ∧ JX7_on.2.2.1 = 1 ∧ cm_gv JX7_on 87 = some (2, 8, 0, 0, SX7_finds) ∧ cm_gv JX7_on 205 = some (2, 8, 0, 0, SX7_forgets) ∧ cm_gs JX7_on 79 = some (3, 0, 0, 0, SX7_in) := ⟨rfl, rfl, rfl, rfl, rfl, rfl⟩
theorem eX7_on (d : Nat) (hd : 2 ≤ d) : cm_Cok d JX7_on := ⟨(List.forall_mem_cons.mpr ⟨q7_87 (mX7_finds (d - 1) (by omega)) (by omega), (List.forall_mem_cons.mpr ⟨q7_205 (mX7_forgets (d - 1) (by omega)) (by omega), (fun q h => by cases h)⟩)⟩), (List.forall_mem_cons.mpr ⟨q7_79 (mX7_in (d - 1) (by omega)) (by omega), (fun q h => by cases h)⟩), (fun q h => by cases h)⟩
set_option maxHeartbeats 8000000 in
theorem lX7_on (d : Nat) (hd : 2 ≤ d) {T : cm_T} {M : cm_M} {Φ : Option Value → cm_T → cm_M → Prop} {m κ : Nat} {Z : Int} (hT : TMd T M.2.2 m) (hκ : κ < 3) (hZ : M.1 (m + 18) (κ : Int) = w3 Z) (hS : ∀ M1, Fz (fun q k => (q = m + 1 ∧ k < 2032) ∨ (q = m ∧ k = 1) ∨ q = m + 2) M M1 → M1.1 m 1 = w3 Z → (∀ k : Int, 0 ≤ k → k < 2032 → M1.1 (m + 1) k = M.1 (m + 17) (2032 * (κ : Int) + k)) → (∀ l h : Nat, l < h → h < 16 → M1.1 (m + 2) (prI l h) = w3 0) → Φ (some (.int (w3 Z))) T M1) :
    ∀ (g c : Nat) (M1 : cm_M), g + c = 2032 → Fz (fun q k => (q = m + 1 ∧ k < 2032) ∨ (q = m ∧ k = 1) ∨ q = m + 2) M M1 → (∀ k : Int, 0 ≤ k → k < (c : Int) → M1.1 (m + 1) k = M.1 (m + 17) (2032 * (κ : Int) + k)) → cm_Go d cX7_on 3 0 0 JX7_on Φ 28 [some (.ref m), some (.int (w3 (κ : Int))), some (.int (w3 (c : Int)))] [] (0, 0) T M1 := by
  obtain ⟨k0, ⟨r0, r2, r3, r6, r9, r10, r11, r12, r13, r14, r15, r16, r17, r18, r19, r22, r25, r26, r27⟩, ⟨c1, c2, c3, c4, c5, c6, c7, c8, c9, c10, c11, c12, c13, c14, c15, c16, c17, c18, c19⟩, ⟨l1, l2, l3, l4, l5, l6, l7, l8, l9, l10, l11, l12, l13, l14, l15, l16, l17, l18, l19⟩⟩ := id hT
  intro g
  induction g with
  | zero =>
    intro c M1 hc F hk
    have ec : c = 2032 := by omega
    subst ec
    have e2 := F.2
    have r1 : M1.1 (m + 18) (κ : Int) = w3 Z := by rw [F.1 _ _ (by omega)]; exact hZ
    have q0 : ((2032 : Int) ≤ ((2032 : Nat) : Int)) = True := eq_true (by omega)
    refine cm_go hX7_on 100 oX7_on (eX7_on d hd) lX7_on_28 ?_
    simp (disch := omega) only [jX7_on, kX7_on_0, fl_7_65, fl_7_7, fl_7_62, fl_7_155, e2, r1, q0, k0, r0, r2, r3, r6, r9, r10, r11, r12, r13, r14, r15, r16, r17, r18, r19, r22, r25, r26, r27, c1, c2, c3, c4, c5, c6, c7, c8, c9, c10, c11, c12, c13, c14, c15, c16, c17, c18, c19, l1, l2, l3, l4, l5, l6, l7, l8, l9, l10, l11, l12, l13, l14, l15, l16, l17, l18, l19, cn_iconst, cn_lconst0, cn_lconst1, cn_null, cn_iload, cn_aload, cn_lload, cn_lo1, cn_loa1, cn_loa2, cn_lol1, cn_get0, cn_gets, cn_put0, cn_puts, cn_istore, cn_astore, cn_astoreN, cn_lstore, cn_iinc, cn_in1, cn_iadd, cn_isub, cn_imul, cn_iand, cn_ior, cn_ixor, cn_ishl, cn_ishr, cn_iushr, cn_idiv, cn_irem, cn_ladd, cn_lmul, cn_ldiv, cn_lrem, cn_i2l, cn_l2i, cn_i2b, cn_lcmp, cn_dupi, cn_dupr, cn_dup2, cn_popi, cn_popr, cn_goto, cn_if_eq, cn_if_ne, cn_if_lt, cn_if_ge, cn_if_gt, cn_if_le, cn_ic_eq, cn_ic_ne, cn_ic_lt, cn_ic_ge, cn_ic_gt, cn_ic_le, cn_ifnullN, cn_ifnullR, cn_ifnonnullN, cn_ifnonnullR, cn_tswS, cn_tsw0, cn_tsw1, cn_lswS, cn_lsw0, cn_lsw1, cn_alen, cn_iaload, cn_laload, cn_rr1, cn_rr0, cn_aaload, cn_iastore, cn_lastore, cn_aastore, cn_getfield, cn_gf0, cn_gf1, cn_gf2, cn_gf3, cn_putfield, cn_pf0f, cn_pf1f, cn_pf2f, cn_pf3f, cn_pf0t, cn_pf1t, cn_pf2t, cn_pf3t, cn_new, cn_nw1, cn_newi, cn_newl, cn_anew, cn_an1, cn_inv_v, cn_inv_s, cn_inv_p, cn_ca1, cn_cb1, cn_pop0, cn_pops, cn_rk0, cn_rk1, cn_kcn, cn_kcs, cn_ireturn, cn_lreturn, cn_areturn, cn_return, cn_re0, cn_re1, cn_re2, cn_re3, cn_re4, cn_re5, cn_wp0, cn_wps, cn_m0, cn_m1, cn_e0, cn_en, cn_ei, cn_er, cn_eu, cn_el, cn_nl0, cn_nls, cn_nb0, cn_nb1, cn_nb2, cn_nb3, cn_bd0, cn_bds, cn_cwi, cn_cwr, cn_cwl, cn_cwn, cn_wi2, cn_wl1, cn_wl3, cn_wr1, cn_wr2, cn_wi_eq, cn_wl_eq, cb_0, cb_n0, cb_b, cm_okb0, cm_okb1, Classical.not_not, true_and, and_true, Nat.reduceAdd, Nat.reduceSub, Nat.reduceLT, Nat.reduceLeDiff, Int.reduceToNat, Int.reduceNatCast', Nat.zero_le, Nat.reduceEqDiff, false_or, or_false, or_true, true_or, Int.reduceNeg, reduceCtorEq, false_implies, implies_true, forall_const, true_implies, not_true_eq_false, not_false_eq_true, Nat.le_refl, ne_eq, if_true, if_false, ite_true, ite_false, List.cons_append, List.nil_append, w3_add, w3_sub, w3_mul, w3_le, w3_lt, w3_eq, w3_toInt, w3_ix, w3_00, w3_10, i0_le, i0_lt, i0_ge, i0_gt, i0_eq, Int.reduceLE, Int.reduceLT, Int.reduceAdd, Int.reduceSub, Int.reduceMul, Int.reduceEq, Int.le_refl, Int.lt_irrefl]
    repeat (with_reducible refine And.intro (by omega) ?_)
    refine ⟨0, by rw [cn_wi2, e2]; exact hT, rfl, by omega, fun M2 F2 hf => ?_⟩
    have e3 : M2.2 = M.2 := F2.2.trans e2
    have r2' : M2.1 m 1 = w3 Z := by rw [F2.1 _ _ (by omega)]; exact cn_wi_eq
    have hQ := hS M2 ((F.trans (Fz.wi (Or.inr (Or.inl ⟨rfl, rfl⟩)))).trans (F2.mono (fun q k w => Or.inr (Or.inr w)))) r2' (fun k a b => by
      rw [F2.1 _ _ (by omega), cn_wi_ne (Or.inl (by omega))]; exact hk k a (by omega)) (fun l h a b => by rw [hf l h a b, if_pos (Nat.zero_le _)])
    simp (disch := omega) only [jX7_on, kX7_on_0, fl_7_65, fl_7_7, fl_7_62, fl_7_155, e3, r2', k0, r0, r2, r3, r6, r9, r10, r11, r12, r13, r14, r15, r16, r17, r18, r19, r22, r25, r26, r27, c1, c2, c3, c4, c5, c6, c7, c8, c9, c10, c11, c12, c13, c14, c15, c16, c17, c18, c19, l1, l2, l3, l4, l5, l6, l7, l8, l9, l10, l11, l12, l13, l14, l15, l16, l17, l18, l19, cn_iconst, cn_lconst0, cn_lconst1, cn_null, cn_iload, cn_aload, cn_lload, cn_lo1, cn_loa1, cn_loa2, cn_lol1, cn_get0, cn_gets, cn_put0, cn_puts, cn_istore, cn_astore, cn_astoreN, cn_lstore, cn_iinc, cn_in1, cn_iadd, cn_isub, cn_imul, cn_iand, cn_ior, cn_ixor, cn_ishl, cn_ishr, cn_iushr, cn_idiv, cn_irem, cn_ladd, cn_lmul, cn_ldiv, cn_lrem, cn_i2l, cn_l2i, cn_i2b, cn_lcmp, cn_dupi, cn_dupr, cn_dup2, cn_popi, cn_popr, cn_goto, cn_if_eq, cn_if_ne, cn_if_lt, cn_if_ge, cn_if_gt, cn_if_le, cn_ic_eq, cn_ic_ne, cn_ic_lt, cn_ic_ge, cn_ic_gt, cn_ic_le, cn_ifnullN, cn_ifnullR, cn_ifnonnullN, cn_ifnonnullR, cn_tswS, cn_tsw0, cn_tsw1, cn_lswS, cn_lsw0, cn_lsw1, cn_alen, cn_iaload, cn_laload, cn_rr1, cn_rr0, cn_aaload, cn_iastore, cn_lastore, cn_aastore, cn_getfield, cn_gf0, cn_gf1, cn_gf2, cn_gf3, cn_putfield, cn_pf0f, cn_pf1f, cn_pf2f, cn_pf3f, cn_pf0t, cn_pf1t, cn_pf2t, cn_pf3t, cn_new, cn_nw1, cn_newi, cn_newl, cn_anew, cn_an1, cn_inv_v, cn_inv_s, cn_inv_p, cn_ca1, cn_cb1, cn_pop0, cn_pops, cn_rk0, cn_rk1, cn_kcn, cn_kcs, cn_ireturn, cn_lreturn, cn_areturn, cn_return, cn_re0, cn_re1, cn_re2, cn_re3, cn_re4, cn_re5, cn_wp0, cn_wps, cn_m0, cn_m1, cn_e0, cn_en, cn_ei, cn_er, cn_eu, cn_el, cn_nl0, cn_nls, cn_nb0, cn_nb1, cn_nb2, cn_nb3, cn_bd0, cn_bds, cn_cwi, cn_cwr, cn_cwl, cn_cwn, cn_wi2, cn_wl1, cn_wl3, cn_wr1, cn_wr2, cn_wi_eq, cn_wl_eq, cb_0, cb_n0, cb_b, cm_okb0, cm_okb1, Classical.not_not, true_and, and_true, Nat.reduceAdd, Nat.reduceSub, Nat.reduceLT, Nat.reduceLeDiff, Int.reduceToNat, Int.reduceNatCast', Nat.zero_le, Nat.reduceEqDiff, false_or, or_false, or_true, true_or, Int.reduceNeg, reduceCtorEq, false_implies, implies_true, forall_const, true_implies, not_true_eq_false, not_false_eq_true, Nat.le_refl, ne_eq, if_true, if_false, ite_true, ite_false, List.cons_append, List.nil_append, w3_add, w3_sub, w3_mul, w3_le, w3_lt, w3_eq, w3_toInt, w3_ix, w3_00, w3_10, i0_le, i0_lt, i0_ge, i0_gt, i0_eq, Int.reduceLE, Int.reduceLT, Int.reduceAdd, Int.reduceSub, Int.reduceMul, Int.reduceEq, Int.le_refl, Int.lt_irrefl]
    exact hQ
  | succ g ih =>
    intro c M1 hc F hk
    have e2 := F.2
    have rd : M1.1 (m + 17) (2032 * (κ : Int) + (c : Int)) = M.1 (m + 17) (2032 * (κ : Int) + (c : Int)) := F.1 _ _ (by omega)
    have q0 : ((2032 : Int) ≤ (c : Int)) = False := eq_false (by omega)
    refine cm_go hX7_on 100 oX7_on (eX7_on d hd) lX7_on_28 ?_
    simp (disch := omega) only [jX7_on, kX7_on_0, fl_7_65, fl_7_7, fl_7_62, fl_7_155, e2, q0, rd, k0, r0, r2, r3, r6, r9, r10, r11, r12, r13, r14, r15, r16, r17, r18, r19, r22, r25, r26, r27, c1, c2, c3, c4, c5, c6, c7, c8, c9, c10, c11, c12, c13, c14, c15, c16, c17, c18, c19, l1, l2, l3, l4, l5, l6, l7, l8, l9, l10, l11, l12, l13, l14, l15, l16, l17, l18, l19, cn_iconst, cn_lconst0, cn_lconst1, cn_null, cn_iload, cn_aload, cn_lload, cn_lo1, cn_loa1, cn_loa2, cn_lol1, cn_get0, cn_gets, cn_put0, cn_puts, cn_istore, cn_astore, cn_astoreN, cn_lstore, cn_iinc, cn_in1, cn_iadd, cn_isub, cn_imul, cn_iand, cn_ior, cn_ixor, cn_ishl, cn_ishr, cn_iushr, cn_idiv, cn_irem, cn_ladd, cn_lmul, cn_ldiv, cn_lrem, cn_i2l, cn_l2i, cn_i2b, cn_lcmp, cn_dupi, cn_dupr, cn_dup2, cn_popi, cn_popr, cn_goto, cn_if_eq, cn_if_ne, cn_if_lt, cn_if_ge, cn_if_gt, cn_if_le, cn_ic_eq, cn_ic_ne, cn_ic_lt, cn_ic_ge, cn_ic_gt, cn_ic_le, cn_ifnullN, cn_ifnullR, cn_ifnonnullN, cn_ifnonnullR, cn_tswS, cn_tsw0, cn_tsw1, cn_lswS, cn_lsw0, cn_lsw1, cn_alen, cn_iaload, cn_laload, cn_rr1, cn_rr0, cn_aaload, cn_iastore, cn_lastore, cn_aastore, cn_getfield, cn_gf0, cn_gf1, cn_gf2, cn_gf3, cn_putfield, cn_pf0f, cn_pf1f, cn_pf2f, cn_pf3f, cn_pf0t, cn_pf1t, cn_pf2t, cn_pf3t, cn_new, cn_nw1, cn_newi, cn_newl, cn_anew, cn_an1, cn_inv_v, cn_inv_s, cn_inv_p, cn_ca1, cn_cb1, cn_pop0, cn_pops, cn_rk0, cn_rk1, cn_kcn, cn_kcs, cn_ireturn, cn_lreturn, cn_areturn, cn_return, cn_re0, cn_re1, cn_re2, cn_re3, cn_re4, cn_re5, cn_wp0, cn_wps, cn_m0, cn_m1, cn_e0, cn_en, cn_ei, cn_er, cn_eu, cn_el, cn_nl0, cn_nls, cn_nb0, cn_nb1, cn_nb2, cn_nb3, cn_bd0, cn_bds, cn_cwi, cn_cwr, cn_cwl, cn_cwn, cn_wi2, cn_wl1, cn_wl3, cn_wr1, cn_wr2, cn_wi_eq, cn_wl_eq, cb_0, cb_n0, cb_b, cm_okb0, cm_okb1, Classical.not_not, true_and, and_true, Nat.reduceAdd, Nat.reduceSub, Nat.reduceLT, Nat.reduceLeDiff, Int.reduceToNat, Int.reduceNatCast', Nat.zero_le, Nat.reduceEqDiff, false_or, or_false, or_true, true_or, Int.reduceNeg, reduceCtorEq, false_implies, implies_true, forall_const, true_implies, not_true_eq_false, not_false_eq_true, Nat.le_refl, ne_eq, if_true, if_false, ite_true, ite_false, List.cons_append, List.nil_append, w3_add, w3_sub, w3_mul, w3_le, w3_lt, w3_eq, w3_toInt, w3_ix, w3_00, w3_10, i0_le, i0_lt, i0_ge, i0_gt, i0_eq, Int.reduceLE, Int.reduceLT, Int.reduceAdd, Int.reduceSub, Int.reduceMul, Int.reduceEq, Int.le_refl, Int.lt_irrefl]
    repeat (with_reducible refine And.intro (by omega) ?_)
    refine ih (c + 1) _ (by omega) (F.trans (Fz.wi (Or.inl ⟨rfl, by omega⟩))) (fun k a b => ?_)
    by_cases e : k = (c : Int)
    · subst e; exact cn_wi_eq
    · rw [cn_wi_ne (Or.inr (by omega))]; exact hk k a (by omega)
set_option maxHeartbeats 4000000 in
theorem mX7_on (d : Nat) (hd : 2 ≤ d) : cm_Met d yX7_on cX7_on 3 (some .int) 0 0 SX7_on := by
  refine cm_meets (J := JX7_on) (by decide) rfl (fun h => by cases h) trivial ?_
  intro as T M Φ hS
  match as, hS with
  | [.ref m0, .int k], ⟨hD, hS⟩ =>
    refine ⟨Nat.le_of_ble_eq_true rfl, ?_⟩
    obtain ⟨m, hm⟩ : ∃ m : Nat, m = m0 := ⟨m0, rfl⟩
    subst hm
    have hT := hD.1
    obtain ⟨k0, ⟨r0, r2, r3, r6, r9, r10, r11, r12, r13, r14, r15, r16, r17, r18, r19, r22, r25, r26, r27⟩, ⟨c1, c2, c3, c4, c5, c6, c7, c8, c9, c10, c11, c12, c13, c14, c15, c16, c17, c18, c19⟩, ⟨l1, l2, l3, l4, l5, l6, l7, l8, l9, l10, l11, l12, l13, l14, l15, l16, l17, l18, l19⟩⟩ := id hT
    unfold fOn at hS
    by_cases h1 : 0 ≤ k.toInt ∧ k.toInt < 3
    · rw [if_pos h1] at hS
      obtain ⟨κ, s1, s2⟩ := i3_nat h1.1
      have hκ : κ < 3 := by omega
      subst s1
      rw [s2] at hS
      have hS : mPo T M m Φ (if (mKq M m κ).1 = 0 then (w3 (-3), stF (mst M m) (w3 1)) else (w3 ((mKq M m κ).1 : Int), stB (mst M m) (mKq M m κ))) := hS
      have tt : (0 ≤ (κ : Int) ∧ (κ : Int) ≤ 2) = True := eq_true (by omega)
      rcases hD.2.1.2.2.1 κ hκ with h0 | ⟨h0, hB⟩
      · rw [kq_neg hκ h0] at hS
        rw [if_pos (show bkE.1 = 0 from rfl)] at hS
        refine cm_go hX7_on 100 oX7_on (eX7_on d hd) lX7_on_0 ?_
        simp (disch := omega) only [jX7_on, kX7_on_0, fl_7_65, fl_7_7, fl_7_62, fl_7_155, SX7_in, h0, tt, k0, r0, r2, r3, r6, r9, r10, r11, r12, r13, r14, r15, r16, r17, r18, r19, r22, r25, r26, r27, c1, c2, c3, c4, c5, c6, c7, c8, c9, c10, c11, c12, c13, c14, c15, c16, c17, c18, c19, l1, l2, l3, l4, l5, l6, l7, l8, l9, l10, l11, l12, l13, l14, l15, l16, l17, l18, l19, cn_iconst, cn_lconst0, cn_lconst1, cn_null, cn_iload, cn_aload, cn_lload, cn_lo1, cn_loa1, cn_loa2, cn_lol1, cn_get0, cn_gets, cn_put0, cn_puts, cn_istore, cn_astore, cn_astoreN, cn_lstore, cn_iinc, cn_in1, cn_iadd, cn_isub, cn_imul, cn_iand, cn_ior, cn_ixor, cn_ishl, cn_ishr, cn_iushr, cn_idiv, cn_irem, cn_ladd, cn_lmul, cn_ldiv, cn_lrem, cn_i2l, cn_l2i, cn_i2b, cn_lcmp, cn_dupi, cn_dupr, cn_dup2, cn_popi, cn_popr, cn_goto, cn_if_eq, cn_if_ne, cn_if_lt, cn_if_ge, cn_if_gt, cn_if_le, cn_ic_eq, cn_ic_ne, cn_ic_lt, cn_ic_ge, cn_ic_gt, cn_ic_le, cn_ifnullN, cn_ifnullR, cn_ifnonnullN, cn_ifnonnullR, cn_tswS, cn_tsw0, cn_tsw1, cn_lswS, cn_lsw0, cn_lsw1, cn_alen, cn_iaload, cn_laload, cn_rr1, cn_rr0, cn_aaload, cn_iastore, cn_lastore, cn_aastore, cn_getfield, cn_gf0, cn_gf1, cn_gf2, cn_gf3, cn_putfield, cn_pf0f, cn_pf1f, cn_pf2f, cn_pf3f, cn_pf0t, cn_pf1t, cn_pf2t, cn_pf3t, cn_new, cn_nw1, cn_newi, cn_newl, cn_anew, cn_an1, cn_inv_v, cn_inv_s, cn_inv_p, cn_ca1, cn_cb1, cn_pop0, cn_pops, cn_rk0, cn_rk1, cn_kcn, cn_kcs, cn_ireturn, cn_lreturn, cn_areturn, cn_return, cn_re0, cn_re1, cn_re2, cn_re3, cn_re4, cn_re5, cn_wp0, cn_wps, cn_m0, cn_m1, cn_e0, cn_en, cn_ei, cn_er, cn_eu, cn_el, cn_nl0, cn_nls, cn_nb0, cn_nb1, cn_nb2, cn_nb3, cn_bd0, cn_bds, cn_cwi, cn_cwr, cn_cwl, cn_cwn, cn_wi2, cn_wl1, cn_wl3, cn_wr1, cn_wr2, cn_wi_eq, cn_wl_eq, cb_0, cb_n0, cb_b, cm_okb0, cm_okb1, Classical.not_not, true_and, and_true, Nat.reduceAdd, Nat.reduceSub, Nat.reduceLT, Nat.reduceLeDiff, Int.reduceToNat, Int.reduceNatCast', Nat.zero_le, Nat.reduceEqDiff, false_or, or_false, or_true, true_or, Int.reduceNeg, reduceCtorEq, false_implies, implies_true, forall_const, true_implies, not_true_eq_false, not_false_eq_true, Nat.le_refl, ne_eq, if_true, if_false, ite_true, ite_false, List.cons_append, List.nil_append, w3_add, w3_sub, w3_mul, w3_le, w3_lt, w3_eq, w3_toInt, w3_ix, w3_00, w3_10, i0_le, i0_lt, i0_ge, i0_gt, i0_eq, Int.reduceLE, Int.reduceLT, Int.reduceAdd, Int.reduceSub, Int.reduceMul, Int.reduceEq, Int.le_refl, Int.lt_irrefl]
        repeat (with_reducible refine And.intro (by omega) ?_)
        refine ⟨1, hD, rfl, by decide, by decide, fun M1 b1 b2 b3 => ?_⟩
        have hQ := hS M1 b1 b2 b3
        simp (disch := omega) only [jX7_on, kX7_on_0, fl_7_65, fl_7_7, fl_7_62, fl_7_155, k0, r0, r2, r3, r6, r9, r10, r11, r12, r13, r14, r15, r16, r17, r18, r19, r22, r25, r26, r27, c1, c2, c3, c4, c5, c6, c7, c8, c9, c10, c11, c12, c13, c14, c15, c16, c17, c18, c19, l1, l2, l3, l4, l5, l6, l7, l8, l9, l10, l11, l12, l13, l14, l15, l16, l17, l18, l19, cn_iconst, cn_lconst0, cn_lconst1, cn_null, cn_iload, cn_aload, cn_lload, cn_lo1, cn_loa1, cn_loa2, cn_lol1, cn_get0, cn_gets, cn_put0, cn_puts, cn_istore, cn_astore, cn_astoreN, cn_lstore, cn_iinc, cn_in1, cn_iadd, cn_isub, cn_imul, cn_iand, cn_ior, cn_ixor, cn_ishl, cn_ishr, cn_iushr, cn_idiv, cn_irem, cn_ladd, cn_lmul, cn_ldiv, cn_lrem, cn_i2l, cn_l2i, cn_i2b, cn_lcmp, cn_dupi, cn_dupr, cn_dup2, cn_popi, cn_popr, cn_goto, cn_if_eq, cn_if_ne, cn_if_lt, cn_if_ge, cn_if_gt, cn_if_le, cn_ic_eq, cn_ic_ne, cn_ic_lt, cn_ic_ge, cn_ic_gt, cn_ic_le, cn_ifnullN, cn_ifnullR, cn_ifnonnullN, cn_ifnonnullR, cn_tswS, cn_tsw0, cn_tsw1, cn_lswS, cn_lsw0, cn_lsw1, cn_alen, cn_iaload, cn_laload, cn_rr1, cn_rr0, cn_aaload, cn_iastore, cn_lastore, cn_aastore, cn_getfield, cn_gf0, cn_gf1, cn_gf2, cn_gf3, cn_putfield, cn_pf0f, cn_pf1f, cn_pf2f, cn_pf3f, cn_pf0t, cn_pf1t, cn_pf2t, cn_pf3t, cn_new, cn_nw1, cn_newi, cn_newl, cn_anew, cn_an1, cn_inv_v, cn_inv_s, cn_inv_p, cn_ca1, cn_cb1, cn_pop0, cn_pops, cn_rk0, cn_rk1, cn_kcn, cn_kcs, cn_ireturn, cn_lreturn, cn_areturn, cn_return, cn_re0, cn_re1, cn_re2, cn_re3, cn_re4, cn_re5, cn_wp0, cn_wps, cn_m0, cn_m1, cn_e0, cn_en, cn_ei, cn_er, cn_eu, cn_el, cn_nl0, cn_nls, cn_nb0, cn_nb1, cn_nb2, cn_nb3, cn_bd0, cn_bds, cn_cwi, cn_cwr, cn_cwl, cn_cwn, cn_wi2, cn_wl1, cn_wl3, cn_wr1, cn_wr2, cn_wi_eq, cn_wl_eq, cb_0, cb_n0, cb_b, cm_okb0, cm_okb1, Classical.not_not, true_and, and_true, Nat.reduceAdd, Nat.reduceSub, Nat.reduceLT, Nat.reduceLeDiff, Int.reduceToNat, Int.reduceNatCast', Nat.zero_le, Nat.reduceEqDiff, false_or, or_false, or_true, true_or, Int.reduceNeg, reduceCtorEq, false_implies, implies_true, forall_const, true_implies, not_true_eq_false, not_false_eq_true, Nat.le_refl, ne_eq, if_true, if_false, ite_true, ite_false, List.cons_append, List.nil_append, w3_add, w3_sub, w3_mul, w3_le, w3_lt, w3_eq, w3_toInt, w3_ix, w3_00, w3_10, i0_le, i0_lt, i0_ge, i0_gt, i0_eq, Int.reduceLE, Int.reduceLT, Int.reduceAdd, Int.reduceSub, Int.reduceMul, Int.reduceEq, Int.le_refl, Int.lt_irrefl]
        exact hQ
      · have n16 : (M.1 (m + 18) (κ : Int)).toInt.toNat ≤ 16 := hB.1.1
        obtain ⟨Z, hZ, hz⟩ : ∃ Z : Int, M.1 (m + 18) (κ : Int) = w3 Z ∧ (M.1 (m + 18) (κ : Int)).toInt = Z := ⟨_, (w3_self _).symm, rfl⟩
        have e1 : ((mKq M m κ).1 : Int) = Z := by
          rw [kq_pos hκ h0]
          show (((M.1 (m + 18) (κ : Int)).toInt.toNat : Nat) : Int) = Z
          omega
        rw [if_neg (by omega), e1] at hS
        have q : (0 ≤ Z) = True := eq_true (by omega)
        have z1 : -1 ≤ Z := by omega
        have z2 : Z ≤ 16 := by omega
        refine cm_go hX7_on 100 oX7_on (eX7_on d hd) lX7_on_0 ?_
        simp (disch := omega) only [jX7_on, kX7_on_0, fl_7_65, fl_7_7, fl_7_62, fl_7_155, SX7_in, hZ, tt, q, k0, r0, r2, r3, r6, r9, r10, r11, r12, r13, r14, r15, r16, r17, r18, r19, r22, r25, r26, r27, c1, c2, c3, c4, c5, c6, c7, c8, c9, c10, c11, c12, c13, c14, c15, c16, c17, c18, c19, l1, l2, l3, l4, l5, l6, l7, l8, l9, l10, l11, l12, l13, l14, l15, l16, l17, l18, l19, cn_iconst, cn_lconst0, cn_lconst1, cn_null, cn_iload, cn_aload, cn_lload, cn_lo1, cn_loa1, cn_loa2, cn_lol1, cn_get0, cn_gets, cn_put0, cn_puts, cn_istore, cn_astore, cn_astoreN, cn_lstore, cn_iinc, cn_in1, cn_iadd, cn_isub, cn_imul, cn_iand, cn_ior, cn_ixor, cn_ishl, cn_ishr, cn_iushr, cn_idiv, cn_irem, cn_ladd, cn_lmul, cn_ldiv, cn_lrem, cn_i2l, cn_l2i, cn_i2b, cn_lcmp, cn_dupi, cn_dupr, cn_dup2, cn_popi, cn_popr, cn_goto, cn_if_eq, cn_if_ne, cn_if_lt, cn_if_ge, cn_if_gt, cn_if_le, cn_ic_eq, cn_ic_ne, cn_ic_lt, cn_ic_ge, cn_ic_gt, cn_ic_le, cn_ifnullN, cn_ifnullR, cn_ifnonnullN, cn_ifnonnullR, cn_tswS, cn_tsw0, cn_tsw1, cn_lswS, cn_lsw0, cn_lsw1, cn_alen, cn_iaload, cn_laload, cn_rr1, cn_rr0, cn_aaload, cn_iastore, cn_lastore, cn_aastore, cn_getfield, cn_gf0, cn_gf1, cn_gf2, cn_gf3, cn_putfield, cn_pf0f, cn_pf1f, cn_pf2f, cn_pf3f, cn_pf0t, cn_pf1t, cn_pf2t, cn_pf3t, cn_new, cn_nw1, cn_newi, cn_newl, cn_anew, cn_an1, cn_inv_v, cn_inv_s, cn_inv_p, cn_ca1, cn_cb1, cn_pop0, cn_pops, cn_rk0, cn_rk1, cn_kcn, cn_kcs, cn_ireturn, cn_lreturn, cn_areturn, cn_return, cn_re0, cn_re1, cn_re2, cn_re3, cn_re4, cn_re5, cn_wp0, cn_wps, cn_m0, cn_m1, cn_e0, cn_en, cn_ei, cn_er, cn_eu, cn_el, cn_nl0, cn_nls, cn_nb0, cn_nb1, cn_nb2, cn_nb3, cn_bd0, cn_bds, cn_cwi, cn_cwr, cn_cwl, cn_cwn, cn_wi2, cn_wl1, cn_wl3, cn_wr1, cn_wr2, cn_wi_eq, cn_wl_eq, cb_0, cb_n0, cb_b, cm_okb0, cm_okb1, Classical.not_not, true_and, and_true, Nat.reduceAdd, Nat.reduceSub, Nat.reduceLT, Nat.reduceLeDiff, Int.reduceToNat, Int.reduceNatCast', Nat.zero_le, Nat.reduceEqDiff, false_or, or_false, or_true, true_or, Int.reduceNeg, reduceCtorEq, false_implies, implies_true, forall_const, true_implies, not_true_eq_false, not_false_eq_true, Nat.le_refl, ne_eq, if_true, if_false, ite_true, ite_false, List.cons_append, List.nil_append, w3_add, w3_sub, w3_mul, w3_le, w3_lt, w3_eq, w3_toInt, w3_ix, w3_00, w3_10, i0_le, i0_lt, i0_ge, i0_gt, i0_eq, Int.reduceLE, Int.reduceLT, Int.reduceAdd, Int.reduceSub, Int.reduceMul, Int.reduceEq, Int.le_refl, Int.lt_irrefl]
        repeat (with_reducible refine And.intro (by omega) ?_)
        refine lX7_on d hd hT hκ hZ (fun M1 F a b e => ?_) 2032 0 M rfl Fz.rf (fun k a b => by omega)
        obtain ⟨d1, d2, d3⟩ := md_on hD hκ h0 F (by rw [a, hZ]) b e
        exact hS M1 d3 d1 d2
    · rw [if_neg h1] at hS
      have tt : (0 ≤ k.toInt ∧ k.toInt ≤ 2) = False := eq_false (by omega)
      refine cm_go hX7_on 100 oX7_on (eX7_on d hd) lX7_on_0 ?_
      simp (disch := omega) only [jX7_on, kX7_on_0, fl_7_65, fl_7_7, fl_7_62, fl_7_155, SX7_in, tt, k0, r0, r2, r3, r6, r9, r10, r11, r12, r13, r14, r15, r16, r17, r18, r19, r22, r25, r26, r27, c1, c2, c3, c4, c5, c6, c7, c8, c9, c10, c11, c12, c13, c14, c15, c16, c17, c18, c19, l1, l2, l3, l4, l5, l6, l7, l8, l9, l10, l11, l12, l13, l14, l15, l16, l17, l18, l19, cn_iconst, cn_lconst0, cn_lconst1, cn_null, cn_iload, cn_aload, cn_lload, cn_lo1, cn_loa1, cn_loa2, cn_lol1, cn_get0, cn_gets, cn_put0, cn_puts, cn_istore, cn_astore, cn_astoreN, cn_lstore, cn_iinc, cn_in1, cn_iadd, cn_isub, cn_imul, cn_iand, cn_ior, cn_ixor, cn_ishl, cn_ishr, cn_iushr, cn_idiv, cn_irem, cn_ladd, cn_lmul, cn_ldiv, cn_lrem, cn_i2l, cn_l2i, cn_i2b, cn_lcmp, cn_dupi, cn_dupr, cn_dup2, cn_popi, cn_popr, cn_goto, cn_if_eq, cn_if_ne, cn_if_lt, cn_if_ge, cn_if_gt, cn_if_le, cn_ic_eq, cn_ic_ne, cn_ic_lt, cn_ic_ge, cn_ic_gt, cn_ic_le, cn_ifnullN, cn_ifnullR, cn_ifnonnullN, cn_ifnonnullR, cn_tswS, cn_tsw0, cn_tsw1, cn_lswS, cn_lsw0, cn_lsw1, cn_alen, cn_iaload, cn_laload, cn_rr1, cn_rr0, cn_aaload, cn_iastore, cn_lastore, cn_aastore, cn_getfield, cn_gf0, cn_gf1, cn_gf2, cn_gf3, cn_putfield, cn_pf0f, cn_pf1f, cn_pf2f, cn_pf3f, cn_pf0t, cn_pf1t, cn_pf2t, cn_pf3t, cn_new, cn_nw1, cn_newi, cn_newl, cn_anew, cn_an1, cn_inv_v, cn_inv_s, cn_inv_p, cn_ca1, cn_cb1, cn_pop0, cn_pops, cn_rk0, cn_rk1, cn_kcn, cn_kcs, cn_ireturn, cn_lreturn, cn_areturn, cn_return, cn_re0, cn_re1, cn_re2, cn_re3, cn_re4, cn_re5, cn_wp0, cn_wps, cn_m0, cn_m1, cn_e0, cn_en, cn_ei, cn_er, cn_eu, cn_el, cn_nl0, cn_nls, cn_nb0, cn_nb1, cn_nb2, cn_nb3, cn_bd0, cn_bds, cn_cwi, cn_cwr, cn_cwl, cn_cwn, cn_wi2, cn_wl1, cn_wl3, cn_wr1, cn_wr2, cn_wi_eq, cn_wl_eq, cb_0, cb_n0, cb_b, cm_okb0, cm_okb1, Classical.not_not, true_and, and_true, Nat.reduceAdd, Nat.reduceSub, Nat.reduceLT, Nat.reduceLeDiff, Int.reduceToNat, Int.reduceNatCast', Nat.zero_le, Nat.reduceEqDiff, false_or, or_false, or_true, true_or, Int.reduceNeg, reduceCtorEq, false_implies, implies_true, forall_const, true_implies, not_true_eq_false, not_false_eq_true, Nat.le_refl, ne_eq, if_true, if_false, ite_true, ite_false, List.cons_append, List.nil_append, w3_add, w3_sub, w3_mul, w3_le, w3_lt, w3_eq, w3_toInt, w3_ix, w3_00, w3_10, i0_le, i0_lt, i0_ge, i0_gt, i0_eq, Int.reduceLE, Int.reduceLT, Int.reduceAdd, Int.reduceSub, Int.reduceMul, Int.reduceEq, Int.le_refl, Int.lt_irrefl]
      exact hS.k hD

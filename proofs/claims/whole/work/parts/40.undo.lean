def bCut (B : Bk) (n : Nat) : Bk := (n, fun v => if v < n then B.2 v else bkr0)
theorem bk_cut {T : cm_T} {M : cm_M} {β n : Nat} (hG : BkG T M β) (hn : n ≤ (bkv M β).1) : BkG T (cm_wi M β 0 (w3 (n : Int))) β ∧ bkv (cm_wi M β 0 (w3 (n : Int))) β = bCut (bkv M β) n := by
  obtain ⟨hK, hz, hT, hW, hA⟩ := id hG
  obtain ⟨h1, h16⟩ := hG.n
  have F : Fr M (cm_wi M β 0 (w3 (n : Int))) β 1 := Fr.wi (by omega) (by omega)
  have ez : bsz (cm_wi M β 0 (w3 (n : Int))) β = (n : Int) := by unfold bsz; rw [cn_wi_eq]; exact w3_toInt (by omega) (by omega)
  have hb : bkv (cm_wi M β 0 (w3 (n : Int))) β = bCut (bkv M β) n := by
    refine bkv_eq ez (fun v hv => ?_) (fun v hv => if_neg (by have : n ≤ v := hv; omega))
    have hv2 : v < n := hv
    show (if v < n then (bkv M β).2 v else bkr0) = _
    rw [if_pos hv2, bkv_lt (by omega), F.1 (β + 2) (by omega), F.1 (β + 3) (by omega), F.tvq (by omega) (hT v (by omega))]
  have row : ∀ v, v < n → (bCut (bkv M β) n).2 v = (bkv M β).2 v := fun v hv => if_pos hv
  refine ⟨⟨by rw [F.2]; exact hK, by rw [ez]; omega, fun v hv => F.trq (by omega) (hT v hv), ?_, ?_⟩, hb⟩
  · rw [hb]
    refine ⟨by show n ≤ 16; omega, fun v hv => ?_, fun v hv => if_neg (by have : n ≤ v := hv; omega)⟩
    rw [row v hv]
    exact hW.2.1 v (by have : v < n := hv; omega)
  · rw [hb]
    intro v hv
    have hv2 : v < n := hv
    rw [F.1 (β + 4) (by omega), hA v (by omega)]
    exact anc_cong _ (fun u hu => by rw [row u (by omega)])
noncomputable def fUnd (s : St) (n : Int) : Int32 × St := if n < 1 ∨ (s.2.2.1.1 : Int) < n then (w3 (-1), s) else (w3 ((s.2.2.1.1 : Int) - n), stB s (bCut s.2.2.1 n.toNat))
def SX6_undo : cm_CT := fun as T M Φ => match as with
  | [.ref x, .int n] => ∃ L, CMG T M x L ∧ cPo T M x L Φ (fUnd (cst M x) n.toInt)
  | _ => False
def JX6_undo : cm_J := (6, false, 1, [], [], [])
theorem jX6_undo : JX6_undo.1 = 6 ∧ JX6_undo.2.1 = false ∧ JX6_undo.2.2.1 = 1 := ⟨rfl, rfl, rfl⟩
theorem eX6_undo (d : Nat) (hd : 0 ≤ d) : cm_Cok d JX6_undo := ⟨(fun q h => by cases h), (fun q h => by cases h), (fun q h => by cases h)⟩
set_option maxHeartbeats 4000000 in
theorem mX6_undo (d : Nat) (hd : 0 ≤ d) : cm_Met d yX6_undo cX6_undo 3 (some .int) 0 0 SX6_undo := by
  refine cm_meets (J := JX6_undo) (by decide) rfl (fun h => by cases h) trivial ?_
  intro as T M Φ hS
  match as, hS with
  | [.ref x, .int n], ⟨L, hC, hS⟩ =>
    refine ⟨Nat.le_of_ble_eq_true rfl, ?_⟩
    obtain ⟨k0, ⟨r0, r1, r2, r3, r4, r5, r6, r7, r8, r13⟩, ⟨k1, k2, k137, k305⟩, ⟨l1, l2, l137, l305⟩, hr, ht⟩ := id hC.2.1
    have hB := hC.2.2.1
    obtain ⟨⟨K0, ⟨R1, R2, R3, R4, R5⟩, ⟨KK1, K2, K3, K4, K5⟩, ⟨L1, L2, L3, L4, L5⟩, RV⟩, HZ, HT, HW, HA⟩ := id hB
    obtain ⟨hn, hn16⟩ := hB.n
    have hz0 : M.1 (x + 3) 0 = w3 ((bkv M (x + 3)).1 : Int) := i3_of hn
    refine cm_go hX6_undo 200 oX6_undo (eX6_undo d hd) lX6_undo_0 ?_
    simp only [jX6_undo, kX6_undo_0, fl_6_21, fl_6_130, hz0, k0, r0, r1, r2, r3, r4, r5, r6, r7, r8, r13, k1, k2, k137, k305, l1, l2, l137, l305, K0, R1, R2, R3, R4, R5, KK1, K2, K3, K4, K5, L1, L2, L3, L4, L5, cn_iconst, cn_lconst0, cn_lconst1, cn_null, cn_iload, cn_aload, cn_lload, cn_lo1, cn_loa1, cn_loa2, cn_lol1, cn_get0, cn_gets, cn_put0, cn_puts, cn_istore, cn_astore, cn_astoreN, cn_lstore, cn_iinc, cn_in1, cn_iadd, cn_isub, cn_imul, cn_iand, cn_ior, cn_ixor, cn_ishl, cn_ishr, cn_iushr, cn_idiv, cn_irem, cn_ladd, cn_lmul, cn_ldiv, cn_lrem, cn_i2l, cn_l2i, cn_i2b, cn_lcmp, cn_dupi, cn_dupr, cn_dup2, cn_popi, cn_popr, cn_goto, cn_if_eq, cn_if_ne, cn_if_lt, cn_if_ge, cn_if_gt, cn_if_le, cn_ic_eq, cn_ic_ne, cn_ic_lt, cn_ic_ge, cn_ic_gt, cn_ic_le, cn_ifnullN, cn_ifnullR, cn_ifnonnullN, cn_ifnonnullR, cn_tswS, cn_tsw0, cn_tsw1, cn_lswS, cn_lsw0, cn_lsw1, cn_alen, cn_iaload, cn_laload, cn_rr1, cn_rr0, cn_aaload, cn_iastore, cn_lastore, cn_aastore, cn_getfield, cn_gf0, cn_gf1, cn_gf2, cn_gf3, cn_putfield, cn_pf0f, cn_pf1f, cn_pf2f, cn_pf3f, cn_pf0t, cn_pf1t, cn_pf2t, cn_pf3t, cn_new, cn_nw1, cn_newi, cn_newl, cn_anew, cn_an1, cn_inv_v, cn_inv_s, cn_inv_p, cn_ca1, cn_cb1, cn_pop0, cn_pops, cn_rk0, cn_rk1, cn_kcn, cn_kcs, cn_ireturn, cn_lreturn, cn_areturn, cn_return, cn_re0, cn_re1, cn_re2, cn_re3, cn_re4, cn_re5, cn_wp0, cn_wps, cn_m0, cn_m1, cn_e0, cn_en, cn_ei, cn_er, cn_eu, cn_el, cn_nl0, cn_nls, cn_nb0, cn_nb1, cn_nb2, cn_nb3, cn_bd0, cn_bds, cn_cwi, cn_cwr, cn_cwl, cn_cwn, cn_wi2, cn_wl1, cn_wl3, cn_wr1, cn_wr2, cn_wi_eq, cn_wl_eq, cb_0, cb_n0, cb_b, cm_okb0, cm_okb1, Classical.not_not, true_and, and_true, Nat.reduceAdd, Nat.reduceSub, Nat.reduceLT, Nat.reduceLeDiff, Int.reduceToNat, Int.reduceNatCast', Nat.zero_le, Nat.reduceEqDiff, false_or, or_false, or_true, true_or, Int.reduceNeg, reduceCtorEq, false_implies, implies_true, forall_const, true_implies, not_true_eq_false, not_false_eq_true, Nat.le_refl, ne_eq, if_true, if_false, ite_true, ite_false, List.cons_append, List.nil_append]
    have e1 : (w3 1).toInt = 1 := by decide
    have en : (w3 ((bkv M (x + 3)).1 : Int)).toInt = ((bkv M (x + 3)).1 : Int) := w3_toInt (by omega) (by omega)
    simp only [i3_lt, i3_le, e1, en]
    unfold fUnd at hS
    rw [cst_b] at hS
    refine ⟨fun q => ?_, fun q => ⟨fun q2 => ?_, fun q2 => ?_⟩⟩
    · rw [if_pos (Or.inl q)] at hS; exact hS.k hC
    · rw [if_neg (by omega)] at hS
      obtain ⟨c1, c2⟩ := bk_cut (n := n.toInt.toNat) hB (by omega)
      rw [Int.toNat_of_nonneg (by omega), w3_self] at c1 c2
      obtain ⟨d1, d2, d3⟩ := cs_book hC ((Fr.wi (by omega) (by omega) : Fr M (cm_wi M (x + 3) 0 n) (x + 3) 134)) c1
      rw [c2] at d2
      have := hS _ d3 d1 d2
      rw [← w3_sub, w3_self] at this
      exact this
    · rw [if_pos (Or.inr (by omega))] at hS; exact hS.k hC

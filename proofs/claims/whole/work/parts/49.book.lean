def prsT (x : Tv) : Int := b1f x.2.1 + 2 * b1f x.2.2.1 + 4 * b1f x.2.2.2
theorem prs_tv {M : cm_M} {t : Nat} : prs M t = prsT (trv M t) := rfl
noncomputable def stK (s : St) (k : Nat) (B : Bk) : St := (s.1, s.2.1, s.2.2.1, up s.2.2.2.1 k B, s.2.2.2.2)
def stKz (s : St) (n : Nat) : St := (s.1, s.2.1, s.2.2.1, (fun q => if q < n then bkE else s.2.2.2.1 q), s.2.2.2.2)
def stK0 (s : St) : St := (s.1, s.2.1, s.2.2.1, (fun _ => bkE), s.2.2.2.2)
noncomputable def fFau (s : St) (t : Int) : Int32 × St := if 0 ≤ t ∧ t < 4 then (match s.2.1 t.toNat with
  | none => (w3 (-3), stF s (w3 1))
  | some K => (w3 (rdG none tv0 0 K).1, s)) else (w3 (-1), s)
noncomputable def fBok (s : St) (t : Int) : Int32 × St := if 0 ≤ t ∧ t < 4 then (match s.2.1 t.toNat with
  | none => (w3 (-3), stF s (w3 1))
  | some K => if (rdG none tv0 0 K).1 = -9 then (bcI (w3 (prsT (rdG none tv0 0 K).2)), stK0 (stB s (bAdd bkE ((rdG none tv0 0 K).2, -9, -9)))) else (w3 (-4), s)) else (w3 (-1), s)
noncomputable def fOn (s : St) (k : Int) : Int32 × St := if 0 ≤ k ∧ k < 3 then (if (s.2.2.2.1 k.toNat).1 = 0 then (w3 (-3), stF s (w3 1)) else (w3 ((s.2.2.2.1 k.toNat).1 : Int), stB s (s.2.2.2.1 k.toNat))) else (w3 (-1), s)
/-- a kept book is made another one -/
theorem cs_kept {T : cm_T} {M M1 : cm_M} {x L k a : Nat} (hC : CMG T M x L) (hk : k < 3) (ha : M.2.2 (x + 137) (k : Int) = some a) (h : Fr M M1 a 134) (hB : BkG T M1 a) : CMG T M1 x L ∧ cst M1 x = stK (cst M x) k (bkv M1 a) ∧ FrC M M1 x L := by
  obtain ⟨⟨L1, L2⟩, hT, hBk, hK, hS, hr, ht⟩ := id hC
  obtain ⟨b1, b2, b3⟩ := hK.1 k hk a ha
  obtain ⟨g1, g2⟩ := h.bkq (β := x + 3) (by omega) hBk
  have ok : ∀ l : Nat, l < 3 → l ≠ k → ∀ b, M.2.2 (x + 137) (l : Int) = some b → BkG T M1 b ∧ bkv M1 b = bkv M b := by
    intro l hl hlk b hb
    have hd := hK.2 l k hl hk hlk b a hb ha
    unfold dB at hd
    exact h.bkq (by omega) (hK.1 l hl b hb).2.2
  have kp : KPT T M1 x L := by
    refine ⟨fun l hl b hb => ?_, fun l m hl hm hlm b c hb hc => ?_⟩
    · rw [h.2] at hb
      obtain ⟨c1, c2, c3⟩ := hK.1 l hl b hb
      refine ⟨c1, c2, ?_⟩
      by_cases e : l = k
      · subst e
        rw [ha] at hb
        cases hb
        exact hB
      · exact (ok l hl e b hb).1
    · rw [h.2] at hb hc
      exact hK.2 l m hl hm hlm b c hb hc
  refine ⟨⟨⟨L1, L2⟩, by rw [h.2]; exact hT, g1, kp, h.scr (by omega) hS, fun r q => ?_, fun r q => ?_⟩, St_ext (funext fun r => ?_) (funext fun r => ?_) g2 (funext fun l => ?_) ?_ ?_ ?_ ?_ (funext fun q => ?_), fun q hq => ⟨h.1 q (by omega), by rw [h.2], by rw [h.2]⟩⟩
  · unfold sz1; rw [(h.rwq hT q (by omega)).2]; exact hr r q
  · unfold sz1; rw [(h.txq hT q (by omega)).2]; exact ht r q
  · show cRw M1 x r = cRw M x r
    unfold cRw
    by_cases q : r < 6
    · rw [if_pos q, if_pos q, (h.rwq hT q (by omega)).1]
    · rw [if_neg q, if_neg q]
  · show cTx M1 x r = cTx M x r
    unfold cTx
    by_cases q : r < 4
    · rw [if_pos q, if_pos q, (h.txq hT q (by omega)).1]
    · rw [if_neg q, if_neg q]
  · show cKq M1 x l = if l = k then bkv M1 a else cKq M x l
    unfold cKq cKp
    by_cases e : l = k
    · subst e
      rw [if_pos rfl, if_pos hk, h.2, ha]
    · rw [if_neg e]
      by_cases q : l < 3
      · rw [if_pos q, if_pos q, h.2]
        cases hb : M.2.2 (x + 137) (l : Int) with
        | none => rfl
        | some b => exact (ok l q e b hb).2
      · rw [if_neg q, if_neg q]
  · show M1.1 x 9 = M.1 x 9
    rw [h.1 x (by omega)]
  · show M1.2.1 x 10 = M.2.1 x 10
    rw [h.2]
  · show M1.2.1 x 11 = M.2.1 x 11
    rw [h.2]
  · show M1.1 x 12 = M.1 x 12
    rw [h.1 x (by omega)]
  · show cCt M1 x q = cCt M x q
    unfold cCt
    rw [h.1 (x + 305) (by omega)]
theorem cs_mt {T : cm_T} {M M1 : cm_M} {x L : Nat} (hC : CMG T M x L) (F1 : Fr M M1 (x + 283) 8) (G1 : TrG T M1 (x + 283)) : CMG T M1 x L ∧ cst M1 x = cst M x ∧ FrC M M1 x L := by
  refine cs_aside hC (F1.wide (by omega) (by omega)) ?_ ?_ ?_ G1 (F1.trq (by omega) hC.2.2.2.2.1.2.2.1.2)
  · obtain ⟨z1, ⟨z2, z3, z4⟩, z5⟩ := hC.2.2.2.2.1.1.1
    exact ⟨by rw [F1.2]; exact z1, ⟨by rw [F1.1 _ (by omega)]; exact z2, by rw [F1.1 _ (by omega)]; exact z3, by rw [F1.1 _ (by omega)]; exact z4⟩, by rw [F1.szq (by omega)]; exact z5⟩
  · rw [F1.1 _ (by omega)]; exact hC.2.2.2.2.1.1.2
  · exact fun i hi => F1.trq (by omega) (hC.2.2.2.2.1.2.1.2.2 i hi).2
theorem bCut_0 {B : Bk} : bCut B 0 = bkE := Prod.ext rfl (funext fun v => if_neg (t := B.2 v) (Nat.not_lt_zero v))
theorem stKz_s {s : St} {n : Nat} : stK (stKz s n) n bkE = stKz s (n + 1) := by
  refine St_ext rfl rfl rfl (funext fun q => ?_) rfl rfl rfl rfl rfl
  show (if q = n then bkE else if q < n then bkE else s.2.2.2.1 q) = if q < n + 1 then bkE else s.2.2.2.1 q
  by_cases e : q = n
  · rw [if_pos e, if_pos (by omega)]
  · rw [if_neg e]
    by_cases e2 : q < n
    · rw [if_pos e2, if_pos (by omega)]
    · rw [if_neg e2, if_neg (by omega)]
theorem stKz_k {M : cm_M} {x : Nat} {s : St} {n : Nat} (h : cst M x = stKz s n) (hn : n < 3) (h0 : M.2.2 (x + 137) (n : Int) = none) : cst M x = stKz s (n + 1) := by
  refine h.trans (St_ext rfl rfl rfl (funext fun q => ?_) rfl rfl rfl rfl rfl)
  show (if q < n then bkE else s.2.2.2.1 q) = if q < n + 1 then bkE else s.2.2.2.1 q
  by_cases e : q = n
  · subst e
    have := congrArg (fun t : St => t.2.2.2.1 q) h
    have e2 : cKq M x q = if q < q then bkE else s.2.2.2.1 q := this
    rw [if_neg (by omega), if_pos (by omega)]
    rw [if_neg (by omega)] at e2
    rw [← e2]
    unfold cKq cKp
    rw [if_pos hn, h0]
  · by_cases e2 : q < n
    · rw [if_pos e2, if_pos (by omega)]
    · rw [if_neg e2, if_neg (by omega)]
def SX6_fault : cm_CT := fun as T M Φ => match as with
  | [.ref x, .int t] => ∃ L, CMG T M x L ∧ cPo T M x L Φ (fFau (cst M x) t.toInt)
  | _ => False
def JX6_fault : cm_J := (6, false, 1, [(103, 1, 5, 0, 0, SX4_isThere), (89, 2, 7, 0, 0, SX6_found)], [(123, 1, 0, 0, 0, SX6_isText), (126, 2, 0, 0, 0, SX6_readTree)], [])
theorem jX6_fault : JX6_fault.1 = 6 ∧ JX6_fault.2.1 = false ∧ JX6_fault.2.2.1 = 1 ∧ cm_gv JX6_fault 103 = some (1, 5, 0, 0, SX4_isThere) ∧ cm_gv JX6_fault 89 = some (2, 7, 0, 0, SX6_found) ∧ cm_gs JX6_fault 123 = some (1, 0, 0, 0, SX6_isText) ∧ cm_gs JX6_fault 126 = some (2, 0, 0, 0, SX6_readTree) := ⟨rfl, rfl, rfl, rfl, rfl, rfl, rfl⟩
theorem eX6_fault (d : Nat) (hd : 3 ≤ d) : cm_Cok d JX6_fault := ⟨(List.forall_mem_cons.mpr ⟨q6_103 (mX4_isThere (d - 1) (by omega)) (by omega), (List.forall_mem_cons.mpr ⟨q6_89 (mX6_found (d - 1) (by omega)) (by omega), (fun q h => by cases h)⟩)⟩), (List.forall_mem_cons.mpr ⟨q6_123 (mX6_isText (d - 1) (by omega)) (by omega), (List.forall_mem_cons.mpr ⟨q6_126 (mX6_readTree (d - 1) (by omega)) (by omega), (fun q h => by cases h)⟩)⟩), (fun q h => by cases h)⟩
set_option maxHeartbeats 4000000 in
theorem mX6_fault (d : Nat) (hd : 3 ≤ d) : cm_Met d yX6_fault cX6_fault 2 (some .int) 0 0 SX6_fault := by
  refine cm_meets (J := JX6_fault) (by decide) rfl (fun h => by cases h) trivial ?_
  intro as T M Φ hS
  match as, hS with
  | [.ref x, .int t], ⟨L, hC, hS⟩ =>
    refine ⟨Nat.le_of_ble_eq_true rfl, ?_⟩
    obtain ⟨k0, ⟨r0, r1, r2, r3, r4, r5, r6, r7, r8, r13⟩, ⟨k1, k2, k137, k305⟩, ⟨l1, l2, l137, l305⟩, hr, ht⟩ := id hC.2.1
    have hB := hC.2.2.1
    obtain ⟨⟨K0, ⟨R1, R2, R3, R4, R5⟩, ⟨KK1, K2, K3, K4, K5⟩, ⟨L1, L2, L3, L4, L5⟩, RV⟩, HZ, HT, HW, HA⟩ := id hB
    obtain ⟨hn, hn16⟩ := hB.n
    have hz0 : M.1 (x + 3) 0 = w3 ((bkv M (x + 3)).1 : Int) := i3_of hn
    by_cases ht0 : 0 ≤ t.toInt ∧ t.toInt < 4
    · obtain ⟨τ, et, hτ⟩ : ∃ τ : Nat, t.toInt = (τ : Int) ∧ τ < 4 := ⟨t.toInt.toNat, by omega, by omega⟩
      obtain ⟨q1, q2, q3, q4, q5⟩ := ht τ hτ
      obtain ⟨sg, pp, cp⟩ := hC.txt hτ
      have ix : cm_ix t 4 := ⟨ht0.1, by show t.toInt < ((4 : Nat) : Int); omega⟩
      have ent : ((τ : Int)).toNat = τ := by omega
      have tt : (0 ≤ (τ : Int) ∧ (τ : Int) < 4) = True := eq_true ⟨by omega, by omega⟩
      unfold fFau at hS
      rw [if_pos ht0, et, ent, cst_t hτ] at hS
      cases hK : fl M (x + 318 + 2 * τ) with
      | none =>
        rw [hK] at hS
        have kn : (fl M (x + 318 + 2 * τ) = none) = True := eq_true hK
        refine cm_go hX6_fault 200 oX6_fault (eX6_fault d hd) lX6_fault_0 ?_
        simp only [jX6_fault, kX6_fault_0, fl_6_15, fl_6_39, SX6_isText, SX4_isThere, fl_th, kn, et, ix, tt, q1, q2, k0, r0, r1, r2, r3, r4, r5, r6, r7, r8, r13, k1, k2, k137, k305, l1, l2, l137, l305, K0, R1, R2, R3, R4, R5, KK1, K2, K3, K4, K5, L1, L2, L3, L4, L5, w3_00, w3_10, cn_iconst, cn_lconst0, cn_lconst1, cn_null, cn_iload, cn_aload, cn_lload, cn_lo1, cn_loa1, cn_loa2, cn_lol1, cn_get0, cn_gets, cn_put0, cn_puts, cn_istore, cn_astore, cn_astoreN, cn_lstore, cn_iinc, cn_in1, cn_iadd, cn_isub, cn_imul, cn_iand, cn_ior, cn_ixor, cn_ishl, cn_ishr, cn_iushr, cn_idiv, cn_irem, cn_ladd, cn_lmul, cn_ldiv, cn_lrem, cn_i2l, cn_l2i, cn_i2b, cn_lcmp, cn_dupi, cn_dupr, cn_dup2, cn_popi, cn_popr, cn_goto, cn_if_eq, cn_if_ne, cn_if_lt, cn_if_ge, cn_if_gt, cn_if_le, cn_ic_eq, cn_ic_ne, cn_ic_lt, cn_ic_ge, cn_ic_gt, cn_ic_le, cn_ifnullN, cn_ifnullR, cn_ifnonnullN, cn_ifnonnullR, cn_tswS, cn_tsw0, cn_tsw1, cn_lswS, cn_lsw0, cn_lsw1, cn_alen, cn_iaload, cn_laload, cn_rr1, cn_rr0, cn_aaload, cn_iastore, cn_lastore, cn_aastore, cn_getfield, cn_gf0, cn_gf1, cn_gf2, cn_gf3, cn_putfield, cn_pf0f, cn_pf1f, cn_pf2f, cn_pf3f, cn_pf0t, cn_pf1t, cn_pf2t, cn_pf3t, cn_new, cn_nw1, cn_newi, cn_newl, cn_anew, cn_an1, cn_inv_v, cn_inv_s, cn_inv_p, cn_ca1, cn_cb1, cn_pop0, cn_pops, cn_rk0, cn_rk1, cn_kcn, cn_kcs, cn_ireturn, cn_lreturn, cn_areturn, cn_return, cn_re0, cn_re1, cn_re2, cn_re3, cn_re4, cn_re5, cn_wp0, cn_wps, cn_m0, cn_m1, cn_e0, cn_en, cn_ei, cn_er, cn_eu, cn_el, cn_nl0, cn_nls, cn_nb0, cn_nb1, cn_nb2, cn_nb3, cn_bd0, cn_bds, cn_cwi, cn_cwr, cn_cwl, cn_cwn, cn_wi2, cn_wl1, cn_wl3, cn_wr1, cn_wr2, cn_wi_eq, cn_wl_eq, cb_0, cb_n0, cb_b, cm_okb0, cm_okb1, Classical.not_not, true_and, and_true, Nat.reduceAdd, Nat.reduceSub, Nat.reduceLT, Nat.reduceLeDiff, Int.reduceToNat, Int.reduceNatCast', Nat.zero_le, Nat.reduceEqDiff, false_or, or_false, or_true, true_or, Int.reduceNeg, reduceCtorEq, false_implies, implies_true, forall_const, true_implies, not_true_eq_false, not_false_eq_true, Nat.le_refl, ne_eq, if_true, if_false, ite_true, ite_false, List.cons_append, List.nil_append]
        refine ⟨L, hC, fun M1 f1 c1 s1 => ?_⟩
        simp only [jX6_fault, kX6_fault_0, fl_6_15, fl_6_39, cn_iconst, cn_lconst0, cn_lconst1, cn_null, cn_iload, cn_aload, cn_lload, cn_lo1, cn_loa1, cn_loa2, cn_lol1, cn_get0, cn_gets, cn_put0, cn_puts, cn_istore, cn_astore, cn_astoreN, cn_lstore, cn_iinc, cn_in1, cn_iadd, cn_isub, cn_imul, cn_iand, cn_ior, cn_ixor, cn_ishl, cn_ishr, cn_iushr, cn_idiv, cn_irem, cn_ladd, cn_lmul, cn_ldiv, cn_lrem, cn_i2l, cn_l2i, cn_i2b, cn_lcmp, cn_dupi, cn_dupr, cn_dup2, cn_popi, cn_popr, cn_goto, cn_if_eq, cn_if_ne, cn_if_lt, cn_if_ge, cn_if_gt, cn_if_le, cn_ic_eq, cn_ic_ne, cn_ic_lt, cn_ic_ge, cn_ic_gt, cn_ic_le, cn_ifnullN, cn_ifnullR, cn_ifnonnullN, cn_ifnonnullR, cn_tswS, cn_tsw0, cn_tsw1, cn_lswS, cn_lsw0, cn_lsw1, cn_alen, cn_iaload, cn_laload, cn_rr1, cn_rr0, cn_aaload, cn_iastore, cn_lastore, cn_aastore, cn_getfield, cn_gf0, cn_gf1, cn_gf2, cn_gf3, cn_putfield, cn_pf0f, cn_pf1f, cn_pf2f, cn_pf3f, cn_pf0t, cn_pf1t, cn_pf2t, cn_pf3t, cn_new, cn_nw1, cn_newi, cn_newl, cn_anew, cn_an1, cn_inv_v, cn_inv_s, cn_inv_p, cn_ca1, cn_cb1, cn_pop0, cn_pops, cn_rk0, cn_rk1, cn_kcn, cn_kcs, cn_ireturn, cn_lreturn, cn_areturn, cn_return, cn_re0, cn_re1, cn_re2, cn_re3, cn_re4, cn_re5, cn_wp0, cn_wps, cn_m0, cn_m1, cn_e0, cn_en, cn_ei, cn_er, cn_eu, cn_el, cn_nl0, cn_nls, cn_nb0, cn_nb1, cn_nb2, cn_nb3, cn_bd0, cn_bds, cn_cwi, cn_cwr, cn_cwl, cn_cwn, cn_wi2, cn_wl1, cn_wl3, cn_wr1, cn_wr2, cn_wi_eq, cn_wl_eq, cb_0, cb_n0, cb_b, cm_okb0, cm_okb1, Classical.not_not, true_and, and_true, Nat.reduceAdd, Nat.reduceSub, Nat.reduceLT, Nat.reduceLeDiff, Int.reduceToNat, Int.reduceNatCast', Nat.zero_le, Nat.reduceEqDiff, false_or, or_false, or_true, true_or, Int.reduceNeg, reduceCtorEq, false_implies, implies_true, forall_const, true_implies, not_true_eq_false, not_false_eq_true, Nat.le_refl, ne_eq, if_true, if_false, ite_true, ite_false, List.cons_append, List.nil_append]
        exact hS M1 f1 c1 s1
      | some K =>
        rw [hK] at hS
        dsimp only at hS
        have kn : (fl M (x + 318 + 2 * τ) = none) = False := eq_false (by rw [hK]; simp)
        have tG := hC.2.2.2.2.1.2.2.1.1
        have kt := tG.1.1
        refine cm_go hX6_fault 200 oX6_fault (eX6_fault d hd) lX6_fault_0 ?_
        simp only [jX6_fault, kX6_fault_0, fl_6_15, fl_6_39, SX6_isText, SX4_isThere, fl_th, kn, et, ix, tt, q1, q2, k0, r0, r1, r2, r3, r4, r5, r6, r7, r8, r13, k1, k2, k137, k305, l1, l2, l137, l305, K0, R1, R2, R3, R4, R5, KK1, K2, K3, K4, K5, L1, L2, L3, L4, L5, w3_00, w3_10, cn_iconst, cn_lconst0, cn_lconst1, cn_null, cn_iload, cn_aload, cn_lload, cn_lo1, cn_loa1, cn_loa2, cn_lol1, cn_get0, cn_gets, cn_put0, cn_puts, cn_istore, cn_astore, cn_astoreN, cn_lstore, cn_iinc, cn_in1, cn_iadd, cn_isub, cn_imul, cn_iand, cn_ior, cn_ixor, cn_ishl, cn_ishr, cn_iushr, cn_idiv, cn_irem, cn_ladd, cn_lmul, cn_ldiv, cn_lrem, cn_i2l, cn_l2i, cn_i2b, cn_lcmp, cn_dupi, cn_dupr, cn_dup2, cn_popi, cn_popr, cn_goto, cn_if_eq, cn_if_ne, cn_if_lt, cn_if_ge, cn_if_gt, cn_if_le, cn_ic_eq, cn_ic_ne, cn_ic_lt, cn_ic_ge, cn_ic_gt, cn_ic_le, cn_ifnullN, cn_ifnullR, cn_ifnonnullN, cn_ifnonnullR, cn_tswS, cn_tsw0, cn_tsw1, cn_lswS, cn_lsw0, cn_lsw1, cn_alen, cn_iaload, cn_laload, cn_rr1, cn_rr0, cn_aaload, cn_iastore, cn_lastore, cn_aastore, cn_getfield, cn_gf0, cn_gf1, cn_gf2, cn_gf3, cn_putfield, cn_pf0f, cn_pf1f, cn_pf2f, cn_pf3f, cn_pf0t, cn_pf1t, cn_pf2t, cn_pf3t, cn_new, cn_nw1, cn_newi, cn_newl, cn_anew, cn_an1, cn_inv_v, cn_inv_s, cn_inv_p, cn_ca1, cn_cb1, cn_pop0, cn_pops, cn_rk0, cn_rk1, cn_kcn, cn_kcs, cn_ireturn, cn_lreturn, cn_areturn, cn_return, cn_re0, cn_re1, cn_re2, cn_re3, cn_re4, cn_re5, cn_wp0, cn_wps, cn_m0, cn_m1, cn_e0, cn_en, cn_ei, cn_er, cn_eu, cn_el, cn_nl0, cn_nls, cn_nb0, cn_nb1, cn_nb2, cn_nb3, cn_bd0, cn_bds, cn_cwi, cn_cwr, cn_cwl, cn_cwn, cn_wi2, cn_wl1, cn_wl3, cn_wr1, cn_wr2, cn_wi_eq, cn_wl_eq, cb_0, cb_n0, cb_b, cm_okb0, cm_okb1, Classical.not_not, true_and, and_true, Nat.reduceAdd, Nat.reduceSub, Nat.reduceLT, Nat.reduceLeDiff, Int.reduceToNat, Int.reduceNatCast', Nat.zero_le, Nat.reduceEqDiff, false_or, or_false, or_true, true_or, Int.reduceNeg, reduceCtorEq, false_implies, implies_true, forall_const, true_implies, not_true_eq_false, not_false_eq_true, Nat.le_refl, ne_eq, if_true, if_false, ite_true, ite_false, List.cons_append, List.nil_append]
        refine ⟨K, sg, hK, tG, ⟨by omega, by rw [pp]; omega⟩, fun M1 F1 G1 t1 => ?_⟩
        obtain ⟨c1, c2, c3⟩ := cs_mt hC F1 G1
        have e1 := F1.2
        simp only [jX6_fault, kX6_fault_0, fl_6_15, fl_6_39, cn_iconst, cn_lconst0, cn_lconst1, cn_null, cn_iload, cn_aload, cn_lload, cn_lo1, cn_loa1, cn_loa2, cn_lol1, cn_get0, cn_gets, cn_put0, cn_puts, cn_istore, cn_astore, cn_astoreN, cn_lstore, cn_iinc, cn_in1, cn_iadd, cn_isub, cn_imul, cn_iand, cn_ior, cn_ixor, cn_ishl, cn_ishr, cn_iushr, cn_idiv, cn_irem, cn_ladd, cn_lmul, cn_ldiv, cn_lrem, cn_i2l, cn_l2i, cn_i2b, cn_lcmp, cn_dupi, cn_dupr, cn_dup2, cn_popi, cn_popr, cn_goto, cn_if_eq, cn_if_ne, cn_if_lt, cn_if_ge, cn_if_gt, cn_if_le, cn_ic_eq, cn_ic_ne, cn_ic_lt, cn_ic_ge, cn_ic_gt, cn_ic_le, cn_ifnullN, cn_ifnullR, cn_ifnonnullN, cn_ifnonnullR, cn_tswS, cn_tsw0, cn_tsw1, cn_lswS, cn_lsw0, cn_lsw1, cn_alen, cn_iaload, cn_laload, cn_rr1, cn_rr0, cn_aaload, cn_iastore, cn_lastore, cn_aastore, cn_getfield, cn_gf0, cn_gf1, cn_gf2, cn_gf3, cn_putfield, cn_pf0f, cn_pf1f, cn_pf2f, cn_pf3f, cn_pf0t, cn_pf1t, cn_pf2t, cn_pf3t, cn_new, cn_nw1, cn_newi, cn_newl, cn_anew, cn_an1, cn_inv_v, cn_inv_s, cn_inv_p, cn_ca1, cn_cb1, cn_pop0, cn_pops, cn_rk0, cn_rk1, cn_kcn, cn_kcs, cn_ireturn, cn_lreturn, cn_areturn, cn_return, cn_re0, cn_re1, cn_re2, cn_re3, cn_re4, cn_re5, cn_wp0, cn_wps, cn_m0, cn_m1, cn_e0, cn_en, cn_ei, cn_er, cn_eu, cn_el, cn_nl0, cn_nls, cn_nb0, cn_nb1, cn_nb2, cn_nb3, cn_bd0, cn_bds, cn_cwi, cn_cwr, cn_cwl, cn_cwn, cn_wi2, cn_wl1, cn_wl3, cn_wr1, cn_wr2, cn_wi_eq, cn_wl_eq, cb_0, cb_n0, cb_b, cm_okb0, cm_okb1, Classical.not_not, true_and, and_true, Nat.reduceAdd, Nat.reduceSub, Nat.reduceLT, Nat.reduceLeDiff, Int.reduceToNat, Int.reduceNatCast', Nat.zero_le, Nat.reduceEqDiff, false_or, or_false, or_true, true_or, Int.reduceNeg, reduceCtorEq, false_implies, implies_true, forall_const, true_implies, not_true_eq_false, not_false_eq_true, Nat.le_refl, ne_eq, if_true, if_false, ite_true, ite_false, List.cons_append, List.nil_append]
        exact hS M1 c3 c1 c2
    · have ff := eq_false ht0
      unfold fFau at hS
      rw [if_neg ht0] at hS
      refine cm_go hX6_fault 200 oX6_fault (eX6_fault d hd) lX6_fault_0 ?_
      simp only [jX6_fault, kX6_fault_0, fl_6_15, fl_6_39, SX6_isText, ff, k0, r0, r1, r2, r3, r4, r5, r6, r7, r8, r13, k1, k2, k137, k305, l1, l2, l137, l305, K0, R1, R2, R3, R4, R5, KK1, K2, K3, K4, K5, L1, L2, L3, L4, L5, w3_00, w3_10, cn_iconst, cn_lconst0, cn_lconst1, cn_null, cn_iload, cn_aload, cn_lload, cn_lo1, cn_loa1, cn_loa2, cn_lol1, cn_get0, cn_gets, cn_put0, cn_puts, cn_istore, cn_astore, cn_astoreN, cn_lstore, cn_iinc, cn_in1, cn_iadd, cn_isub, cn_imul, cn_iand, cn_ior, cn_ixor, cn_ishl, cn_ishr, cn_iushr, cn_idiv, cn_irem, cn_ladd, cn_lmul, cn_ldiv, cn_lrem, cn_i2l, cn_l2i, cn_i2b, cn_lcmp, cn_dupi, cn_dupr, cn_dup2, cn_popi, cn_popr, cn_goto, cn_if_eq, cn_if_ne, cn_if_lt, cn_if_ge, cn_if_gt, cn_if_le, cn_ic_eq, cn_ic_ne, cn_ic_lt, cn_ic_ge, cn_ic_gt, cn_ic_le, cn_ifnullN, cn_ifnullR, cn_ifnonnullN, cn_ifnonnullR, cn_tswS, cn_tsw0, cn_tsw1, cn_lswS, cn_lsw0, cn_lsw1, cn_alen, cn_iaload, cn_laload, cn_rr1, cn_rr0, cn_aaload, cn_iastore, cn_lastore, cn_aastore, cn_getfield, cn_gf0, cn_gf1, cn_gf2, cn_gf3, cn_putfield, cn_pf0f, cn_pf1f, cn_pf2f, cn_pf3f, cn_pf0t, cn_pf1t, cn_pf2t, cn_pf3t, cn_new, cn_nw1, cn_newi, cn_newl, cn_anew, cn_an1, cn_inv_v, cn_inv_s, cn_inv_p, cn_ca1, cn_cb1, cn_pop0, cn_pops, cn_rk0, cn_rk1, cn_kcn, cn_kcs, cn_ireturn, cn_lreturn, cn_areturn, cn_return, cn_re0, cn_re1, cn_re2, cn_re3, cn_re4, cn_re5, cn_wp0, cn_wps, cn_m0, cn_m1, cn_e0, cn_en, cn_ei, cn_er, cn_eu, cn_el, cn_nl0, cn_nls, cn_nb0, cn_nb1, cn_nb2, cn_nb3, cn_bd0, cn_bds, cn_cwi, cn_cwr, cn_cwl, cn_cwn, cn_wi2, cn_wl1, cn_wl3, cn_wr1, cn_wr2, cn_wi_eq, cn_wl_eq, cb_0, cb_n0, cb_b, cm_okb0, cm_okb1, Classical.not_not, true_and, and_true, Nat.reduceAdd, Nat.reduceSub, Nat.reduceLT, Nat.reduceLeDiff, Int.reduceToNat, Int.reduceNatCast', Nat.zero_le, Nat.reduceEqDiff, false_or, or_false, or_true, true_or, Int.reduceNeg, reduceCtorEq, false_implies, implies_true, forall_const, true_implies, not_true_eq_false, not_false_eq_true, Nat.le_refl, ne_eq, if_true, if_false, ite_true, ite_false, List.cons_append, List.nil_append]
      exact hS.k hC
def SX6_book : cm_CT := fun as T M Φ => match as with
  | [.ref x, .int t] => ∃ L, CMG T M x L ∧ cPo T M x L Φ (fBok (cst M x) t.toInt)
  | _ => False
def JX6_book : cm_J := (6, false, 1, [(103, 1, 5, 0, 0, SX4_isThere), (89, 2, 7, 0, 0, SX6_found), (131, 4, 1, 0, 0, SX0_add), (135, 1, 6, 0, 0, SX5_present)], [(123, 1, 0, 0, 0, SX6_isText), (126, 2, 0, 0, 0, SX6_readTree), (139, 1, 0, 0, 0, SJ6_bitCount_0f7a4)], [])
theorem jX6_book : JX6_book.1 = 6 ∧ JX6_book.2.1 = false ∧ JX6_book.2.2.1 = 1 ∧ cm_gv JX6_book 103 = some (1, 5, 0, 0, SX4_isThere) ∧ cm_gv JX6_book 89 = some (2, 7, 0, 0, SX6_found) ∧ cm_gv JX6_book 131 = some (4, 1, 0, 0, SX0_add) ∧ cm_gv JX6_book 135 = some (1, 6, 0, 0, SX5_present) ∧ cm_gs JX6_book 123 = some (1, 0, 0, 0, SX6_isText) ∧ cm_gs JX6_book 126 = some (2, 0, 0, 0, SX6_readTree) ∧ cm_gs JX6_book 139 = some (1, 0, 0, 0, SJ6_bitCount_0f7a4) := ⟨rfl, rfl, rfl, rfl, rfl, rfl, rfl, rfl, rfl, rfl⟩
theorem eX6_book (d : Nat) (hd : 4 ≤ d) : cm_Cok d JX6_book := ⟨(List.forall_mem_cons.mpr ⟨q6_103 (mX4_isThere (d - 1) (by omega)) (by omega), (List.forall_mem_cons.mpr ⟨q6_89 (mX6_found (d - 1) (by omega)) (by omega), (List.forall_mem_cons.mpr ⟨q6_131 (mX0_add (d - 1) (by omega)) (by omega), (List.forall_mem_cons.mpr ⟨q6_135 (mX5_present (d - 1) (by omega)) (by omega), (fun q h => by cases h)⟩)⟩)⟩)⟩), (List.forall_mem_cons.mpr ⟨q6_123 (mX6_isText (d - 1) (by omega)) (by omega), (List.forall_mem_cons.mpr ⟨q6_126 (mX6_readTree (d - 1) (by omega)) (by omega), (List.forall_mem_cons.mpr ⟨q6_139 (mJ6_bitCount_0f7a4 (d - 1) (by omega)) (by omega), (fun q h => by cases h)⟩)⟩)⟩), (fun q h => by cases h)⟩
set_option maxHeartbeats 4000000 in
theorem lX6_book (d : Nat) (hd : 4 ≤ d) {T : cm_T} {M : cm_M} {Φ : Option Value → cm_T → cm_M → Prop} {x L : Nat} {t : Int32} {X : Tv} {s : St} (hS : ∀ M1, FrC M M1 x L → CMG T M1 x L → cst M1 x = stK0 s → Φ (some (.int (bcI (w3 (prsT X))))) T M1) (hs : ∀ q, 3 ≤ q → s.2.2.2.1 q = bkE) :
    ∀ (k : Nat) (M1 : cm_M), k ≤ 3 → FrC M M1 x L → CMG T M1 x L → trv M1 (x + 283) = X → cst M1 x = stKz s k → cm_Go d cX6_book 3 0 0 JX6_book Φ 74 [some (.ref x), some (.int t), some (.int (w3 k))] [] (0, 0) T M1 := by
  intro k
  induction hf : (3 - k) using Nat.strongRecOn generalizing k with
  | _ fu ih =>
    intro M1 k1 f1 hC tx s1
    obtain ⟨k0, ⟨r0, r1, r2, r3, r4, r5, r6, r7, r8, r13⟩, ⟨-, -, k137, -⟩, ⟨-, -, l137, -⟩, hr, ht⟩ := id hC.2.1
    have ek : (w3 (k : Int)).toInt = (k : Int) := w3_toInt (by omega) (by omega)
    have tG := hC.2.2.2.2.1.2.2.1.1
    have kt := tG.1.1
    by_cases hk : k < 3
    · have ix : cm_ix (w3 (k : Int)) 3 := by rw [w3_ix (by omega) (by omega)]; exact ⟨by omega, by omega⟩
      cases e : M1.2.2 (x + 137) (k : Int) with
      | none =>
        refine cm_go hX6_book 200 oX6_book (eX6_book d hd) lX6_book_74 ?_
        simp only [jX6_book, kX6_book_0, kX6_book_1, fl_6_15, fl_6_39, fl_6_21, fl_6_130, fl_6_25, k0, r3, k137, l137, ek, ix, e, w3_add, cn_iconst, cn_lconst0, cn_lconst1, cn_null, cn_iload, cn_aload, cn_lload, cn_lo1, cn_loa1, cn_loa2, cn_lol1, cn_get0, cn_gets, cn_put0, cn_puts, cn_istore, cn_astore, cn_astoreN, cn_lstore, cn_iinc, cn_in1, cn_iadd, cn_isub, cn_imul, cn_iand, cn_ior, cn_ixor, cn_ishl, cn_ishr, cn_iushr, cn_idiv, cn_irem, cn_ladd, cn_lmul, cn_ldiv, cn_lrem, cn_i2l, cn_l2i, cn_i2b, cn_lcmp, cn_dupi, cn_dupr, cn_dup2, cn_popi, cn_popr, cn_goto, cn_if_eq, cn_if_ne, cn_if_lt, cn_if_ge, cn_if_gt, cn_if_le, cn_ic_eq, cn_ic_ne, cn_ic_lt, cn_ic_ge, cn_ic_gt, cn_ic_le, cn_ifnullN, cn_ifnullR, cn_ifnonnullN, cn_ifnonnullR, cn_tswS, cn_tsw0, cn_tsw1, cn_lswS, cn_lsw0, cn_lsw1, cn_alen, cn_iaload, cn_laload, cn_rr1, cn_rr0, cn_aaload, cn_iastore, cn_lastore, cn_aastore, cn_getfield, cn_gf0, cn_gf1, cn_gf2, cn_gf3, cn_putfield, cn_pf0f, cn_pf1f, cn_pf2f, cn_pf3f, cn_pf0t, cn_pf1t, cn_pf2t, cn_pf3t, cn_new, cn_nw1, cn_newi, cn_newl, cn_anew, cn_an1, cn_inv_v, cn_inv_s, cn_inv_p, cn_ca1, cn_cb1, cn_pop0, cn_pops, cn_rk0, cn_rk1, cn_kcn, cn_kcs, cn_ireturn, cn_lreturn, cn_areturn, cn_return, cn_re0, cn_re1, cn_re2, cn_re3, cn_re4, cn_re5, cn_wp0, cn_wps, cn_m0, cn_m1, cn_e0, cn_en, cn_ei, cn_er, cn_eu, cn_el, cn_nl0, cn_nls, cn_nb0, cn_nb1, cn_nb2, cn_nb3, cn_bd0, cn_bds, cn_cwi, cn_cwr, cn_cwl, cn_cwn, cn_wi2, cn_wl1, cn_wl3, cn_wr1, cn_wr2, cn_wi_eq, cn_wl_eq, cb_0, cb_n0, cb_b, cm_okb0, cm_okb1, Classical.not_not, true_and, and_true, Nat.reduceAdd, Nat.reduceSub, Nat.reduceLT, Nat.reduceLeDiff, Int.reduceToNat, Int.reduceNatCast', Nat.zero_le, Nat.reduceEqDiff, false_or, or_false, or_true, true_or, Int.reduceNeg, reduceCtorEq, false_implies, implies_true, forall_const, true_implies, not_true_eq_false, not_false_eq_true, Nat.le_refl, ne_eq, if_true, if_false, ite_true, ite_false, List.cons_append, List.nil_append]
        simp (disch := omega) only [w3_le]
        refine ⟨fun q => by omega, fun _ => ?_⟩
        exact ih (3 - (k + 1)) (by omega) (k + 1) rfl M1 (by omega) f1 hC tx (stKz_k s1 hk e)
      | some a =>
        obtain ⟨b1, b2, b3⟩ := hC.2.2.2.1.1 k hk a e
        have ka := b3.1.1
        refine cm_go hX6_book 200 oX6_book (eX6_book d hd) lX6_book_74 ?_
        simp only [jX6_book, kX6_book_0, kX6_book_1, fl_6_15, fl_6_39, fl_6_21, fl_6_130, fl_6_25, k0, r3, k137, l137, ek, ix, e, ka, w3_add, cn_iconst, cn_lconst0, cn_lconst1, cn_null, cn_iload, cn_aload, cn_lload, cn_lo1, cn_loa1, cn_loa2, cn_lol1, cn_get0, cn_gets, cn_put0, cn_puts, cn_istore, cn_astore, cn_astoreN, cn_lstore, cn_iinc, cn_in1, cn_iadd, cn_isub, cn_imul, cn_iand, cn_ior, cn_ixor, cn_ishl, cn_ishr, cn_iushr, cn_idiv, cn_irem, cn_ladd, cn_lmul, cn_ldiv, cn_lrem, cn_i2l, cn_l2i, cn_i2b, cn_lcmp, cn_dupi, cn_dupr, cn_dup2, cn_popi, cn_popr, cn_goto, cn_if_eq, cn_if_ne, cn_if_lt, cn_if_ge, cn_if_gt, cn_if_le, cn_ic_eq, cn_ic_ne, cn_ic_lt, cn_ic_ge, cn_ic_gt, cn_ic_le, cn_ifnullN, cn_ifnullR, cn_ifnonnullN, cn_ifnonnullR, cn_tswS, cn_tsw0, cn_tsw1, cn_lswS, cn_lsw0, cn_lsw1, cn_alen, cn_iaload, cn_laload, cn_rr1, cn_rr0, cn_aaload, cn_iastore, cn_lastore, cn_aastore, cn_getfield, cn_gf0, cn_gf1, cn_gf2, cn_gf3, cn_putfield, cn_pf0f, cn_pf1f, cn_pf2f, cn_pf3f, cn_pf0t, cn_pf1t, cn_pf2t, cn_pf3t, cn_new, cn_nw1, cn_newi, cn_newl, cn_anew, cn_an1, cn_inv_v, cn_inv_s, cn_inv_p, cn_ca1, cn_cb1, cn_pop0, cn_pops, cn_rk0, cn_rk1, cn_kcn, cn_kcs, cn_ireturn, cn_lreturn, cn_areturn, cn_return, cn_re0, cn_re1, cn_re2, cn_re3, cn_re4, cn_re5, cn_wp0, cn_wps, cn_m0, cn_m1, cn_e0, cn_en, cn_ei, cn_er, cn_eu, cn_el, cn_nl0, cn_nls, cn_nb0, cn_nb1, cn_nb2, cn_nb3, cn_bd0, cn_bds, cn_cwi, cn_cwr, cn_cwl, cn_cwn, cn_wi2, cn_wl1, cn_wl3, cn_wr1, cn_wr2, cn_wi_eq, cn_wl_eq, cb_0, cb_n0, cb_b, cm_okb0, cm_okb1, Classical.not_not, true_and, and_true, Nat.reduceAdd, Nat.reduceSub, Nat.reduceLT, Nat.reduceLeDiff, Int.reduceToNat, Int.reduceNatCast', Nat.zero_le, Nat.reduceEqDiff, false_or, or_false, or_true, true_or, Int.reduceNeg, reduceCtorEq, false_implies, implies_true, forall_const, true_implies, not_true_eq_false, not_false_eq_true, Nat.le_refl, ne_eq, if_true, if_false, ite_true, ite_false, List.cons_append, List.nil_append]
        simp (disch := omega) only [w3_le]
        refine ⟨fun q => by omega, fun _ => ?_⟩
        obtain ⟨c1, c2⟩ := bk_cut (n := 0) b3 (Nat.zero_le _)
        rw [bCut_0] at c2
        have F : Fr M1 (cm_wi M1 a 0 (w3 ((0 : Nat) : Int))) a 134 := Fr.wi (by omega) (by omega)
        obtain ⟨d1, d2, d3⟩ := cs_kept hC hk e F c1
        rw [c2, s1, stKz_s] at d2
        have xl := hC.1.1
        exact ih (3 - (k + 1)) (by omega) (k + 1) rfl _ (by omega) (f1.trans d3) d1 ((F.tvq (by omega) tG).trans tx) d2
    · have e3 : k = 3 := by omega
      subst e3
      refine cm_go hX6_book 200 oX6_book (eX6_book d hd) lX6_book_74 ?_
      simp only [jX6_book, kX6_book_0, kX6_book_1, fl_6_15, fl_6_39, fl_6_21, fl_6_130, fl_6_25, SX5_present, SJ6_bitCount_0f7a4, k0, r5, tG, kt, prs_tv, tx, cn_iconst, cn_lconst0, cn_lconst1, cn_null, cn_iload, cn_aload, cn_lload, cn_lo1, cn_loa1, cn_loa2, cn_lol1, cn_get0, cn_gets, cn_put0, cn_puts, cn_istore, cn_astore, cn_astoreN, cn_lstore, cn_iinc, cn_in1, cn_iadd, cn_isub, cn_imul, cn_iand, cn_ior, cn_ixor, cn_ishl, cn_ishr, cn_iushr, cn_idiv, cn_irem, cn_ladd, cn_lmul, cn_ldiv, cn_lrem, cn_i2l, cn_l2i, cn_i2b, cn_lcmp, cn_dupi, cn_dupr, cn_dup2, cn_popi, cn_popr, cn_goto, cn_if_eq, cn_if_ne, cn_if_lt, cn_if_ge, cn_if_gt, cn_if_le, cn_ic_eq, cn_ic_ne, cn_ic_lt, cn_ic_ge, cn_ic_gt, cn_ic_le, cn_ifnullN, cn_ifnullR, cn_ifnonnullN, cn_ifnonnullR, cn_tswS, cn_tsw0, cn_tsw1, cn_lswS, cn_lsw0, cn_lsw1, cn_alen, cn_iaload, cn_laload, cn_rr1, cn_rr0, cn_aaload, cn_iastore, cn_lastore, cn_aastore, cn_getfield, cn_gf0, cn_gf1, cn_gf2, cn_gf3, cn_putfield, cn_pf0f, cn_pf1f, cn_pf2f, cn_pf3f, cn_pf0t, cn_pf1t, cn_pf2t, cn_pf3t, cn_new, cn_nw1, cn_newi, cn_newl, cn_anew, cn_an1, cn_inv_v, cn_inv_s, cn_inv_p, cn_ca1, cn_cb1, cn_pop0, cn_pops, cn_rk0, cn_rk1, cn_kcn, cn_kcs, cn_ireturn, cn_lreturn, cn_areturn, cn_return, cn_re0, cn_re1, cn_re2, cn_re3, cn_re4, cn_re5, cn_wp0, cn_wps, cn_m0, cn_m1, cn_e0, cn_en, cn_ei, cn_er, cn_eu, cn_el, cn_nl0, cn_nls, cn_nb0, cn_nb1, cn_nb2, cn_nb3, cn_bd0, cn_bds, cn_cwi, cn_cwr, cn_cwl, cn_cwn, cn_wi2, cn_wl1, cn_wl3, cn_wr1, cn_wr2, cn_wi_eq, cn_wl_eq, cb_0, cb_n0, cb_b, cm_okb0, cm_okb1, Classical.not_not, true_and, and_true, Nat.reduceAdd, Nat.reduceSub, Nat.reduceLT, Nat.reduceLeDiff, Int.reduceToNat, Int.reduceNatCast', Nat.zero_le, Nat.reduceEqDiff, false_or, or_false, or_true, true_or, Int.reduceNeg, reduceCtorEq, false_implies, implies_true, forall_const, true_implies, not_true_eq_false, not_false_eq_true, Nat.le_refl, ne_eq, if_true, if_false, ite_true, ite_false, List.cons_append, List.nil_append]
      refine ⟨fun _ => ?_, fun q => absurd (by decide) q⟩
      refine hS M1 f1 hC (s1.trans (St_ext rfl rfl rfl (funext fun q => ?_) rfl rfl rfl rfl rfl))
      show (if q < 3 then bkE else s.2.2.2.1 q) = bkE
      by_cases e2 : q < 3
      · rw [if_pos e2]
      · rw [if_neg e2]; exact hs q (by omega)
set_option maxHeartbeats 4000000 in
theorem mX6_book (d : Nat) (hd : 4 ≤ d) : cm_Met d yX6_book cX6_book 3 (some .int) 0 0 SX6_book := by
  refine cm_meets (J := JX6_book) (by decide) rfl (fun h => by cases h) trivial ?_
  intro as T M Φ hS
  match as, hS with
  | [.ref x, .int t], ⟨L, hC, hS⟩ =>
    refine ⟨Nat.le_of_ble_eq_true rfl, ?_⟩
    obtain ⟨k0, ⟨r0, r1, r2, r3, r4, r5, r6, r7, r8, r13⟩, ⟨k1, k2, k137, k305⟩, ⟨l1, l2, l137, l305⟩, hr, ht⟩ := id hC.2.1
    have hB := hC.2.2.1
    obtain ⟨⟨K0, ⟨R1, R2, R3, R4, R5⟩, ⟨KK1, K2, K3, K4, K5⟩, ⟨L1, L2, L3, L4, L5⟩, RV⟩, HZ, HT, HW, HA⟩ := id hB
    obtain ⟨hn, hn16⟩ := hB.n
    have hz0 : M.1 (x + 3) 0 = w3 ((bkv M (x + 3)).1 : Int) := i3_of hn
    by_cases ht0 : 0 ≤ t.toInt ∧ t.toInt < 4
    · obtain ⟨τ, et, hτ⟩ : ∃ τ : Nat, t.toInt = (τ : Int) ∧ τ < 4 := ⟨t.toInt.toNat, by omega, by omega⟩
      obtain ⟨q1, q2, q3, q4, q5⟩ := ht τ hτ
      obtain ⟨sg, pp, cp⟩ := hC.txt hτ
      have ix : cm_ix t 4 := ⟨ht0.1, by show t.toInt < ((4 : Nat) : Int); omega⟩
      have ent : ((τ : Int)).toNat = τ := by omega
      have tt : (0 ≤ (τ : Int) ∧ (τ : Int) < 4) = True := eq_true ⟨by omega, by omega⟩
      unfold fBok at hS
      rw [if_pos ht0, et, ent, cst_t hτ] at hS
      cases hK : fl M (x + 318 + 2 * τ) with
      | none =>
        rw [hK] at hS
        have kn : (fl M (x + 318 + 2 * τ) = none) = True := eq_true hK
        refine cm_go hX6_book 200 oX6_book (eX6_book d hd) lX6_book_0 ?_
        simp only [jX6_book, kX6_book_0, kX6_book_1, fl_6_15, fl_6_39, fl_6_21, fl_6_130, fl_6_25, SX6_isText, SX4_isThere, fl_th, kn, et, ix, tt, q1, q2, k0, r0, r1, r2, r3, r4, r5, r6, r7, r8, r13, k1, k2, k137, k305, l1, l2, l137, l305, K0, R1, R2, R3, R4, R5, KK1, K2, K3, K4, K5, L1, L2, L3, L4, L5, w3_00, w3_10, cn_iconst, cn_lconst0, cn_lconst1, cn_null, cn_iload, cn_aload, cn_lload, cn_lo1, cn_loa1, cn_loa2, cn_lol1, cn_get0, cn_gets, cn_put0, cn_puts, cn_istore, cn_astore, cn_astoreN, cn_lstore, cn_iinc, cn_in1, cn_iadd, cn_isub, cn_imul, cn_iand, cn_ior, cn_ixor, cn_ishl, cn_ishr, cn_iushr, cn_idiv, cn_irem, cn_ladd, cn_lmul, cn_ldiv, cn_lrem, cn_i2l, cn_l2i, cn_i2b, cn_lcmp, cn_dupi, cn_dupr, cn_dup2, cn_popi, cn_popr, cn_goto, cn_if_eq, cn_if_ne, cn_if_lt, cn_if_ge, cn_if_gt, cn_if_le, cn_ic_eq, cn_ic_ne, cn_ic_lt, cn_ic_ge, cn_ic_gt, cn_ic_le, cn_ifnullN, cn_ifnullR, cn_ifnonnullN, cn_ifnonnullR, cn_tswS, cn_tsw0, cn_tsw1, cn_lswS, cn_lsw0, cn_lsw1, cn_alen, cn_iaload, cn_laload, cn_rr1, cn_rr0, cn_aaload, cn_iastore, cn_lastore, cn_aastore, cn_getfield, cn_gf0, cn_gf1, cn_gf2, cn_gf3, cn_putfield, cn_pf0f, cn_pf1f, cn_pf2f, cn_pf3f, cn_pf0t, cn_pf1t, cn_pf2t, cn_pf3t, cn_new, cn_nw1, cn_newi, cn_newl, cn_anew, cn_an1, cn_inv_v, cn_inv_s, cn_inv_p, cn_ca1, cn_cb1, cn_pop0, cn_pops, cn_rk0, cn_rk1, cn_kcn, cn_kcs, cn_ireturn, cn_lreturn, cn_areturn, cn_return, cn_re0, cn_re1, cn_re2, cn_re3, cn_re4, cn_re5, cn_wp0, cn_wps, cn_m0, cn_m1, cn_e0, cn_en, cn_ei, cn_er, cn_eu, cn_el, cn_nl0, cn_nls, cn_nb0, cn_nb1, cn_nb2, cn_nb3, cn_bd0, cn_bds, cn_cwi, cn_cwr, cn_cwl, cn_cwn, cn_wi2, cn_wl1, cn_wl3, cn_wr1, cn_wr2, cn_wi_eq, cn_wl_eq, cb_0, cb_n0, cb_b, cm_okb0, cm_okb1, Classical.not_not, true_and, and_true, Nat.reduceAdd, Nat.reduceSub, Nat.reduceLT, Nat.reduceLeDiff, Int.reduceToNat, Int.reduceNatCast', Nat.zero_le, Nat.reduceEqDiff, false_or, or_false, or_true, true_or, Int.reduceNeg, reduceCtorEq, false_implies, implies_true, forall_const, true_implies, not_true_eq_false, not_false_eq_true, Nat.le_refl, ne_eq, if_true, if_false, ite_true, ite_false, List.cons_append, List.nil_append]
        refine ⟨L, hC, fun M1 f1 c1 s1 => ?_⟩
        simp only [jX6_book, kX6_book_0, kX6_book_1, fl_6_15, fl_6_39, fl_6_21, fl_6_130, fl_6_25, cn_iconst, cn_lconst0, cn_lconst1, cn_null, cn_iload, cn_aload, cn_lload, cn_lo1, cn_loa1, cn_loa2, cn_lol1, cn_get0, cn_gets, cn_put0, cn_puts, cn_istore, cn_astore, cn_astoreN, cn_lstore, cn_iinc, cn_in1, cn_iadd, cn_isub, cn_imul, cn_iand, cn_ior, cn_ixor, cn_ishl, cn_ishr, cn_iushr, cn_idiv, cn_irem, cn_ladd, cn_lmul, cn_ldiv, cn_lrem, cn_i2l, cn_l2i, cn_i2b, cn_lcmp, cn_dupi, cn_dupr, cn_dup2, cn_popi, cn_popr, cn_goto, cn_if_eq, cn_if_ne, cn_if_lt, cn_if_ge, cn_if_gt, cn_if_le, cn_ic_eq, cn_ic_ne, cn_ic_lt, cn_ic_ge, cn_ic_gt, cn_ic_le, cn_ifnullN, cn_ifnullR, cn_ifnonnullN, cn_ifnonnullR, cn_tswS, cn_tsw0, cn_tsw1, cn_lswS, cn_lsw0, cn_lsw1, cn_alen, cn_iaload, cn_laload, cn_rr1, cn_rr0, cn_aaload, cn_iastore, cn_lastore, cn_aastore, cn_getfield, cn_gf0, cn_gf1, cn_gf2, cn_gf3, cn_putfield, cn_pf0f, cn_pf1f, cn_pf2f, cn_pf3f, cn_pf0t, cn_pf1t, cn_pf2t, cn_pf3t, cn_new, cn_nw1, cn_newi, cn_newl, cn_anew, cn_an1, cn_inv_v, cn_inv_s, cn_inv_p, cn_ca1, cn_cb1, cn_pop0, cn_pops, cn_rk0, cn_rk1, cn_kcn, cn_kcs, cn_ireturn, cn_lreturn, cn_areturn, cn_return, cn_re0, cn_re1, cn_re2, cn_re3, cn_re4, cn_re5, cn_wp0, cn_wps, cn_m0, cn_m1, cn_e0, cn_en, cn_ei, cn_er, cn_eu, cn_el, cn_nl0, cn_nls, cn_nb0, cn_nb1, cn_nb2, cn_nb3, cn_bd0, cn_bds, cn_cwi, cn_cwr, cn_cwl, cn_cwn, cn_wi2, cn_wl1, cn_wl3, cn_wr1, cn_wr2, cn_wi_eq, cn_wl_eq, cb_0, cb_n0, cb_b, cm_okb0, cm_okb1, Classical.not_not, true_and, and_true, Nat.reduceAdd, Nat.reduceSub, Nat.reduceLT, Nat.reduceLeDiff, Int.reduceToNat, Int.reduceNatCast', Nat.zero_le, Nat.reduceEqDiff, false_or, or_false, or_true, true_or, Int.reduceNeg, reduceCtorEq, false_implies, implies_true, forall_const, true_implies, not_true_eq_false, not_false_eq_true, Nat.le_refl, ne_eq, if_true, if_false, ite_true, ite_false, List.cons_append, List.nil_append]
        exact hS M1 f1 c1 s1
      | some K =>
        rw [hK] at hS
        dsimp only at hS
        have kn : (fl M (x + 318 + 2 * τ) = none) = False := eq_false (by rw [hK]; simp)
        have tG := hC.2.2.2.2.1.2.2.1.1
        have kt := tG.1.1
        refine cm_go hX6_book 200 oX6_book (eX6_book d hd) lX6_book_0 ?_
        simp only [jX6_book, kX6_book_0, kX6_book_1, fl_6_15, fl_6_39, fl_6_21, fl_6_130, fl_6_25, SX6_isText, SX4_isThere, fl_th, kn, et, ix, tt, q1, q2, k0, r0, r1, r2, r3, r4, r5, r6, r7, r8, r13, k1, k2, k137, k305, l1, l2, l137, l305, K0, R1, R2, R3, R4, R5, KK1, K2, K3, K4, K5, L1, L2, L3, L4, L5, w3_00, w3_10, cn_iconst, cn_lconst0, cn_lconst1, cn_null, cn_iload, cn_aload, cn_lload, cn_lo1, cn_loa1, cn_loa2, cn_lol1, cn_get0, cn_gets, cn_put0, cn_puts, cn_istore, cn_astore, cn_astoreN, cn_lstore, cn_iinc, cn_in1, cn_iadd, cn_isub, cn_imul, cn_iand, cn_ior, cn_ixor, cn_ishl, cn_ishr, cn_iushr, cn_idiv, cn_irem, cn_ladd, cn_lmul, cn_ldiv, cn_lrem, cn_i2l, cn_l2i, cn_i2b, cn_lcmp, cn_dupi, cn_dupr, cn_dup2, cn_popi, cn_popr, cn_goto, cn_if_eq, cn_if_ne, cn_if_lt, cn_if_ge, cn_if_gt, cn_if_le, cn_ic_eq, cn_ic_ne, cn_ic_lt, cn_ic_ge, cn_ic_gt, cn_ic_le, cn_ifnullN, cn_ifnullR, cn_ifnonnullN, cn_ifnonnullR, cn_tswS, cn_tsw0, cn_tsw1, cn_lswS, cn_lsw0, cn_lsw1, cn_alen, cn_iaload, cn_laload, cn_rr1, cn_rr0, cn_aaload, cn_iastore, cn_lastore, cn_aastore, cn_getfield, cn_gf0, cn_gf1, cn_gf2, cn_gf3, cn_putfield, cn_pf0f, cn_pf1f, cn_pf2f, cn_pf3f, cn_pf0t, cn_pf1t, cn_pf2t, cn_pf3t, cn_new, cn_nw1, cn_newi, cn_newl, cn_anew, cn_an1, cn_inv_v, cn_inv_s, cn_inv_p, cn_ca1, cn_cb1, cn_pop0, cn_pops, cn_rk0, cn_rk1, cn_kcn, cn_kcs, cn_ireturn, cn_lreturn, cn_areturn, cn_return, cn_re0, cn_re1, cn_re2, cn_re3, cn_re4, cn_re5, cn_wp0, cn_wps, cn_m0, cn_m1, cn_e0, cn_en, cn_ei, cn_er, cn_eu, cn_el, cn_nl0, cn_nls, cn_nb0, cn_nb1, cn_nb2, cn_nb3, cn_bd0, cn_bds, cn_cwi, cn_cwr, cn_cwl, cn_cwn, cn_wi2, cn_wl1, cn_wl3, cn_wr1, cn_wr2, cn_wi_eq, cn_wl_eq, cb_0, cb_n0, cb_b, cm_okb0, cm_okb1, Classical.not_not, true_and, and_true, Nat.reduceAdd, Nat.reduceSub, Nat.reduceLT, Nat.reduceLeDiff, Int.reduceToNat, Int.reduceNatCast', Nat.zero_le, Nat.reduceEqDiff, false_or, or_false, or_true, true_or, Int.reduceNeg, reduceCtorEq, false_implies, implies_true, forall_const, true_implies, not_true_eq_false, not_false_eq_true, Nat.le_refl, ne_eq, if_true, if_false, ite_true, ite_false, List.cons_append, List.nil_append]
        refine ⟨K, sg, hK, tG, ⟨by omega, by rw [pp]; omega⟩, fun M1 F1 G1 t1 => ?_⟩
        obtain ⟨c1, c2, c3⟩ := cs_mt hC F1 G1
        have e1 := F1.2
        have rg := rdG_rg K none tv0 0
        have kl := (Sg_len sg hK).2.1
        by_cases h9 : (rdG none tv0 0 K).1 = -9
        · rw [if_pos h9] at hS
          have q9 : (w3 (rdG none tv0 0 K).1 = w3 (-9)) = True := eq_true (by rw [h9])
          simp only [jX6_book, kX6_book_0, kX6_book_1, fl_6_15, fl_6_39, fl_6_21, fl_6_130, fl_6_25, e1, q9, k0, r0, r1, r2, r3, r4, r5, r6, r7, r8, r13, k1, k2, k137, k305, l1, l2, l137, l305, K0, R1, R2, R3, R4, R5, KK1, K2, K3, K4, K5, L1, L2, L3, L4, L5, w3_00, w3_10, cn_iconst, cn_lconst0, cn_lconst1, cn_null, cn_iload, cn_aload, cn_lload, cn_lo1, cn_loa1, cn_loa2, cn_lol1, cn_get0, cn_gets, cn_put0, cn_puts, cn_istore, cn_astore, cn_astoreN, cn_lstore, cn_iinc, cn_in1, cn_iadd, cn_isub, cn_imul, cn_iand, cn_ior, cn_ixor, cn_ishl, cn_ishr, cn_iushr, cn_idiv, cn_irem, cn_ladd, cn_lmul, cn_ldiv, cn_lrem, cn_i2l, cn_l2i, cn_i2b, cn_lcmp, cn_dupi, cn_dupr, cn_dup2, cn_popi, cn_popr, cn_goto, cn_if_eq, cn_if_ne, cn_if_lt, cn_if_ge, cn_if_gt, cn_if_le, cn_ic_eq, cn_ic_ne, cn_ic_lt, cn_ic_ge, cn_ic_gt, cn_ic_le, cn_ifnullN, cn_ifnullR, cn_ifnonnullN, cn_ifnonnullR, cn_tswS, cn_tsw0, cn_tsw1, cn_lswS, cn_lsw0, cn_lsw1, cn_alen, cn_iaload, cn_laload, cn_rr1, cn_rr0, cn_aaload, cn_iastore, cn_lastore, cn_aastore, cn_getfield, cn_gf0, cn_gf1, cn_gf2, cn_gf3, cn_putfield, cn_pf0f, cn_pf1f, cn_pf2f, cn_pf3f, cn_pf0t, cn_pf1t, cn_pf2t, cn_pf3t, cn_new, cn_nw1, cn_newi, cn_newl, cn_anew, cn_an1, cn_inv_v, cn_inv_s, cn_inv_p, cn_ca1, cn_cb1, cn_pop0, cn_pops, cn_rk0, cn_rk1, cn_kcn, cn_kcs, cn_ireturn, cn_lreturn, cn_areturn, cn_return, cn_re0, cn_re1, cn_re2, cn_re3, cn_re4, cn_re5, cn_wp0, cn_wps, cn_m0, cn_m1, cn_e0, cn_en, cn_ei, cn_er, cn_eu, cn_el, cn_nl0, cn_nls, cn_nb0, cn_nb1, cn_nb2, cn_nb3, cn_bd0, cn_bds, cn_cwi, cn_cwr, cn_cwl, cn_cwn, cn_wi2, cn_wl1, cn_wl3, cn_wr1, cn_wr2, cn_wi_eq, cn_wl_eq, cb_0, cb_n0, cb_b, cm_okb0, cm_okb1, Classical.not_not, true_and, and_true, Nat.reduceAdd, Nat.reduceSub, Nat.reduceLT, Nat.reduceLeDiff, Int.reduceToNat, Int.reduceNatCast', Nat.zero_le, Nat.reduceEqDiff, false_or, or_false, or_true, true_or, Int.reduceNeg, reduceCtorEq, false_implies, implies_true, forall_const, true_implies, not_true_eq_false, not_false_eq_true, Nat.le_refl, ne_eq, if_true, if_false, ite_true, ite_false, List.cons_append, List.nil_append]
          have tx := t1 h9
          have gx := rdG_g K none tv0 0 (fun f h => by cases h) tv0_g
          have hB1 := c1.2.2.1
          obtain ⟨b1, b2⟩ := bk_cut (n := 0) hB1 (Nat.zero_le _)
          rw [bCut_0] at b2
          have F2 : Fr M1 (cm_wi M1 (x + 3) 0 (w3 ((0 : Nat) : Int))) (x + 3) 134 := Fr.wi (by omega) (by omega)
          obtain ⟨d1, d2, d3⟩ := cs_book c1 F2 b1
          have t2 : trv (cm_wi M1 (x + 3) 0 (w3 ((0 : Nat) : Int))) (x + 283) = (rdG none tv0 0 K).2 := (F2.tvq (by omega) G1).trans tx
          refine ⟨b1, fun q => ?_, fun q => ⟨F2.trq (by omega) G1, ?_, ?_, ?_, fun M3 F3 G3 b3 => ?_⟩⟩
          · have q2 : 16 ≤ (bkv (cm_wi M1 (x + 3) 0 (w3 ((0 : Nat) : Int))) (x + 3)).1 := q
            rw [b2] at q2
            exact absurd q2 (by decide)
          · show dja (x + 283) (x + 3) (bkv (cm_wi M1 (x + 3) 0 (w3 ((0 : Nat) : Int))) (x + 3)).1
            rw [b2]
            have e0 : bkE.1 = 0 := rfl
            rw [e0]
            exact ⟨by omega, by unfold dj; omega⟩
          · show TvG (trv (cm_wi M1 (x + 3) 0 (w3 ((0 : Nat) : Int))) (x + 283))
            rw [t2]; exact gx
          · show WP (bkv (cm_wi M1 (x + 3) 0 (w3 ((0 : Nat) : Int))) (x + 3)).1 _ _
            rw [b2]
            exact ⟨fun _ => ⟨by decide, by decide⟩, fun h => absurd rfl h⟩
          · have b4 : bkv M3 (x + 3) = bAdd bkE ((rdG none tv0 0 K).2, -9, -9) := by
              have h0 : bkv M3 (x + 3) = bAdd (bkv (cm_wi M1 (x + 3) 0 (w3 ((0 : Nat) : Int))) (x + 3)) (trv (cm_wi M1 (x + 3) 0 (w3 ((0 : Nat) : Int))) (x + 283), (w3 (-9)).toInt, (w3 (-9)).toInt) := b3
              rw [h0, b2, t2]
              rfl
            simp only [jX6_book, kX6_book_0, kX6_book_1, fl_6_15, fl_6_39, fl_6_21, fl_6_130, fl_6_25, k0, r0, r1, r2, r3, r4, r5, r6, r7, r8, r13, k1, k2, k137, k305, l1, l2, l137, l305, K0, R1, R2, R3, R4, R5, KK1, K2, K3, K4, K5, L1, L2, L3, L4, L5, w3_00, w3_10, cn_iconst, cn_lconst0, cn_lconst1, cn_null, cn_iload, cn_aload, cn_lload, cn_lo1, cn_loa1, cn_loa2, cn_lol1, cn_get0, cn_gets, cn_put0, cn_puts, cn_istore, cn_astore, cn_astoreN, cn_lstore, cn_iinc, cn_in1, cn_iadd, cn_isub, cn_imul, cn_iand, cn_ior, cn_ixor, cn_ishl, cn_ishr, cn_iushr, cn_idiv, cn_irem, cn_ladd, cn_lmul, cn_ldiv, cn_lrem, cn_i2l, cn_l2i, cn_i2b, cn_lcmp, cn_dupi, cn_dupr, cn_dup2, cn_popi, cn_popr, cn_goto, cn_if_eq, cn_if_ne, cn_if_lt, cn_if_ge, cn_if_gt, cn_if_le, cn_ic_eq, cn_ic_ne, cn_ic_lt, cn_ic_ge, cn_ic_gt, cn_ic_le, cn_ifnullN, cn_ifnullR, cn_ifnonnullN, cn_ifnonnullR, cn_tswS, cn_tsw0, cn_tsw1, cn_lswS, cn_lsw0, cn_lsw1, cn_alen, cn_iaload, cn_laload, cn_rr1, cn_rr0, cn_aaload, cn_iastore, cn_lastore, cn_aastore, cn_getfield, cn_gf0, cn_gf1, cn_gf2, cn_gf3, cn_putfield, cn_pf0f, cn_pf1f, cn_pf2f, cn_pf3f, cn_pf0t, cn_pf1t, cn_pf2t, cn_pf3t, cn_new, cn_nw1, cn_newi, cn_newl, cn_anew, cn_an1, cn_inv_v, cn_inv_s, cn_inv_p, cn_ca1, cn_cb1, cn_pop0, cn_pops, cn_rk0, cn_rk1, cn_kcn, cn_kcs, cn_ireturn, cn_lreturn, cn_areturn, cn_return, cn_re0, cn_re1, cn_re2, cn_re3, cn_re4, cn_re5, cn_wp0, cn_wps, cn_m0, cn_m1, cn_e0, cn_en, cn_ei, cn_er, cn_eu, cn_el, cn_nl0, cn_nls, cn_nb0, cn_nb1, cn_nb2, cn_nb3, cn_bd0, cn_bds, cn_cwi, cn_cwr, cn_cwl, cn_cwn, cn_wi2, cn_wl1, cn_wl3, cn_wr1, cn_wr2, cn_wi_eq, cn_wl_eq, cb_0, cb_n0, cb_b, cm_okb0, cm_okb1, Classical.not_not, true_and, and_true, Nat.reduceAdd, Nat.reduceSub, Nat.reduceLT, Nat.reduceLeDiff, Int.reduceToNat, Int.reduceNatCast', Nat.zero_le, Nat.reduceEqDiff, false_or, or_false, or_true, true_or, Int.reduceNeg, reduceCtorEq, false_implies, implies_true, forall_const, true_implies, not_true_eq_false, not_false_eq_true, Nat.le_refl, ne_eq, if_true, if_false, ite_true, ite_false, List.cons_append, List.nil_append]
            obtain ⟨f1, f2, f3⟩ := cs_book d1 F3 G3
            have t3 : trv M3 (x + 283) = (rdG none tv0 0 K).2 := (F3.tvq (by omega) (F2.trq (by omega) G1)).trans t2
            refine lX6_book d hd (M := M) (L := L) (X := (rdG none tv0 0 K).2) (s := stB (cst M x) (bAdd bkE ((rdG none tv0 0 K).2, -9, -9))) hS (fun q hq => if_neg (by omega)) 0 M3 (Nat.zero_le _) ((c3.trans d3).trans f3) f1 t3 ?_
            rw [f2, d2, c2, b4]
            refine St_ext rfl rfl rfl (funext fun q => ?_) rfl rfl rfl rfl rfl
            exact (if_neg (t := bkE) (Nat.not_lt_zero q)).symm
        · rw [if_neg h9] at hS
          have q9 : (w3 (rdG none tv0 0 K).1 = w3 (-9)) = False := eq_false (by rw [w3_eq (by omega) (by omega) (by omega) (by omega)]; exact h9)
          simp only [jX6_book, kX6_book_0, kX6_book_1, fl_6_15, fl_6_39, fl_6_21, fl_6_130, fl_6_25, e1, q9, k0, r0, r1, r2, r3, r4, r5, r6, r7, r8, r13, k1, k2, k137, k305, l1, l2, l137, l305, K0, R1, R2, R3, R4, R5, KK1, K2, K3, K4, K5, L1, L2, L3, L4, L5, w3_00, w3_10, cn_iconst, cn_lconst0, cn_lconst1, cn_null, cn_iload, cn_aload, cn_lload, cn_lo1, cn_loa1, cn_loa2, cn_lol1, cn_get0, cn_gets, cn_put0, cn_puts, cn_istore, cn_astore, cn_astoreN, cn_lstore, cn_iinc, cn_in1, cn_iadd, cn_isub, cn_imul, cn_iand, cn_ior, cn_ixor, cn_ishl, cn_ishr, cn_iushr, cn_idiv, cn_irem, cn_ladd, cn_lmul, cn_ldiv, cn_lrem, cn_i2l, cn_l2i, cn_i2b, cn_lcmp, cn_dupi, cn_dupr, cn_dup2, cn_popi, cn_popr, cn_goto, cn_if_eq, cn_if_ne, cn_if_lt, cn_if_ge, cn_if_gt, cn_if_le, cn_ic_eq, cn_ic_ne, cn_ic_lt, cn_ic_ge, cn_ic_gt, cn_ic_le, cn_ifnullN, cn_ifnullR, cn_ifnonnullN, cn_ifnonnullR, cn_tswS, cn_tsw0, cn_tsw1, cn_lswS, cn_lsw0, cn_lsw1, cn_alen, cn_iaload, cn_laload, cn_rr1, cn_rr0, cn_aaload, cn_iastore, cn_lastore, cn_aastore, cn_getfield, cn_gf0, cn_gf1, cn_gf2, cn_gf3, cn_putfield, cn_pf0f, cn_pf1f, cn_pf2f, cn_pf3f, cn_pf0t, cn_pf1t, cn_pf2t, cn_pf3t, cn_new, cn_nw1, cn_newi, cn_newl, cn_anew, cn_an1, cn_inv_v, cn_inv_s, cn_inv_p, cn_ca1, cn_cb1, cn_pop0, cn_pops, cn_rk0, cn_rk1, cn_kcn, cn_kcs, cn_ireturn, cn_lreturn, cn_areturn, cn_return, cn_re0, cn_re1, cn_re2, cn_re3, cn_re4, cn_re5, cn_wp0, cn_wps, cn_m0, cn_m1, cn_e0, cn_en, cn_ei, cn_er, cn_eu, cn_el, cn_nl0, cn_nls, cn_nb0, cn_nb1, cn_nb2, cn_nb3, cn_bd0, cn_bds, cn_cwi, cn_cwr, cn_cwl, cn_cwn, cn_wi2, cn_wl1, cn_wl3, cn_wr1, cn_wr2, cn_wi_eq, cn_wl_eq, cb_0, cb_n0, cb_b, cm_okb0, cm_okb1, Classical.not_not, true_and, and_true, Nat.reduceAdd, Nat.reduceSub, Nat.reduceLT, Nat.reduceLeDiff, Int.reduceToNat, Int.reduceNatCast', Nat.zero_le, Nat.reduceEqDiff, false_or, or_false, or_true, true_or, Int.reduceNeg, reduceCtorEq, false_implies, implies_true, forall_const, true_implies, not_true_eq_false, not_false_eq_true, Nat.le_refl, ne_eq, if_true, if_false, ite_true, ite_false, List.cons_append, List.nil_append]
          exact hS M1 c3 c1 c2
    · have ff := eq_false ht0
      unfold fBok at hS
      rw [if_neg ht0] at hS
      refine cm_go hX6_book 200 oX6_book (eX6_book d hd) lX6_book_0 ?_
      simp only [jX6_book, kX6_book_0, kX6_book_1, fl_6_15, fl_6_39, fl_6_21, fl_6_130, fl_6_25, SX6_isText, ff, k0, r0, r1, r2, r3, r4, r5, r6, r7, r8, r13, k1, k2, k137, k305, l1, l2, l137, l305, K0, R1, R2, R3, R4, R5, KK1, K2, K3, K4, K5, L1, L2, L3, L4, L5, w3_00, w3_10, cn_iconst, cn_lconst0, cn_lconst1, cn_null, cn_iload, cn_aload, cn_lload, cn_lo1, cn_loa1, cn_loa2, cn_lol1, cn_get0, cn_gets, cn_put0, cn_puts, cn_istore, cn_astore, cn_astoreN, cn_lstore, cn_iinc, cn_in1, cn_iadd, cn_isub, cn_imul, cn_iand, cn_ior, cn_ixor, cn_ishl, cn_ishr, cn_iushr, cn_idiv, cn_irem, cn_ladd, cn_lmul, cn_ldiv, cn_lrem, cn_i2l, cn_l2i, cn_i2b, cn_lcmp, cn_dupi, cn_dupr, cn_dup2, cn_popi, cn_popr, cn_goto, cn_if_eq, cn_if_ne, cn_if_lt, cn_if_ge, cn_if_gt, cn_if_le, cn_ic_eq, cn_ic_ne, cn_ic_lt, cn_ic_ge, cn_ic_gt, cn_ic_le, cn_ifnullN, cn_ifnullR, cn_ifnonnullN, cn_ifnonnullR, cn_tswS, cn_tsw0, cn_tsw1, cn_lswS, cn_lsw0, cn_lsw1, cn_alen, cn_iaload, cn_laload, cn_rr1, cn_rr0, cn_aaload, cn_iastore, cn_lastore, cn_aastore, cn_getfield, cn_gf0, cn_gf1, cn_gf2, cn_gf3, cn_putfield, cn_pf0f, cn_pf1f, cn_pf2f, cn_pf3f, cn_pf0t, cn_pf1t, cn_pf2t, cn_pf3t, cn_new, cn_nw1, cn_newi, cn_newl, cn_anew, cn_an1, cn_inv_v, cn_inv_s, cn_inv_p, cn_ca1, cn_cb1, cn_pop0, cn_pops, cn_rk0, cn_rk1, cn_kcn, cn_kcs, cn_ireturn, cn_lreturn, cn_areturn, cn_return, cn_re0, cn_re1, cn_re2, cn_re3, cn_re4, cn_re5, cn_wp0, cn_wps, cn_m0, cn_m1, cn_e0, cn_en, cn_ei, cn_er, cn_eu, cn_el, cn_nl0, cn_nls, cn_nb0, cn_nb1, cn_nb2, cn_nb3, cn_bd0, cn_bds, cn_cwi, cn_cwr, cn_cwl, cn_cwn, cn_wi2, cn_wl1, cn_wl3, cn_wr1, cn_wr2, cn_wi_eq, cn_wl_eq, cb_0, cb_n0, cb_b, cm_okb0, cm_okb1, Classical.not_not, true_and, and_true, Nat.reduceAdd, Nat.reduceSub, Nat.reduceLT, Nat.reduceLeDiff, Int.reduceToNat, Int.reduceNatCast', Nat.zero_le, Nat.reduceEqDiff, false_or, or_false, or_true, true_or, Int.reduceNeg, reduceCtorEq, false_implies, implies_true, forall_const, true_implies, not_true_eq_false, not_false_eq_true, Nat.le_refl, ne_eq, if_true, if_false, ite_true, ite_false, List.cons_append, List.nil_append]
      exact hS.k hC
def SX6_on : cm_CT := fun as T M Φ => match as with
  | [.ref x, .int k] => ∃ L, CMG T M x L ∧ cPo T M x L Φ (fOn (cst M x) k.toInt)
  | _ => False
def JX6_on : cm_J := (6, false, 1, [(89, 2, 7, 0, 0, SX6_found), (226, 2, 1, 0, 0, SX0_become)], [(223, 1, 0, 0, 0, SX6_isKept)], [])
theorem jX6_on : JX6_on.1 = 6 ∧ JX6_on.2.1 = false ∧ JX6_on.2.2.1 = 1 ∧ cm_gv JX6_on 89 = some (2, 7, 0, 0, SX6_found) ∧ cm_gv JX6_on 226 = some (2, 1, 0, 0, SX0_become) ∧ cm_gs JX6_on 223 = some (1, 0, 0, 0, SX6_isKept) := ⟨rfl, rfl, rfl, rfl, rfl, rfl⟩
theorem eX6_on (d : Nat) (hd : 4 ≤ d) : cm_Cok d JX6_on := ⟨(List.forall_mem_cons.mpr ⟨q6_89 (mX6_found (d - 1) (by omega)) (by omega), (List.forall_mem_cons.mpr ⟨q6_226 (mX0_become (d - 1) (by omega)) (by omega), (fun q h => by cases h)⟩)⟩), (List.forall_mem_cons.mpr ⟨q6_223 (mX6_isKept (d - 1) (by omega)) (by omega), (fun q h => by cases h)⟩), (fun q h => by cases h)⟩
set_option maxHeartbeats 4000000 in
theorem mX6_on (d : Nat) (hd : 4 ≤ d) : cm_Met d yX6_on cX6_on 3 (some .int) 0 0 SX6_on := by
  refine cm_meets (J := JX6_on) (by decide) rfl (fun h => by cases h) trivial ?_
  intro as T M Φ hS
  match as, hS with
  | [.ref x, .int k], ⟨L, hC, hS⟩ =>
    refine ⟨Nat.le_of_ble_eq_true rfl, ?_⟩
    obtain ⟨k0, ⟨r0, r1, r2, r3, r4, r5, r6, r7, r8, r13⟩, ⟨k1, k2, k137, k305⟩, ⟨l1, l2, l137, l305⟩, hr, ht⟩ := id hC.2.1
    have hB := hC.2.2.1
    obtain ⟨⟨K0, ⟨R1, R2, R3, R4, R5⟩, ⟨KK1, K2, K3, K4, K5⟩, ⟨L1, L2, L3, L4, L5⟩, RV⟩, HZ, HT, HW, HA⟩ := id hB
    obtain ⟨hn, hn16⟩ := hB.n
    have hz0 : M.1 (x + 3) 0 = w3 ((bkv M (x + 3)).1 : Int) := i3_of hn
    by_cases hk0 : 0 ≤ k.toInt ∧ k.toInt < 3
    · obtain ⟨κ, ek, hκ⟩ : ∃ κ : Nat, k.toInt = (κ : Int) ∧ κ < 3 := ⟨k.toInt.toNat, by omega, by omega⟩
      have ix : cm_ix k 3 := ⟨hk0.1, by show k.toInt < ((3 : Nat) : Int); omega⟩
      have enk : ((κ : Int)).toNat = κ := by omega
      have tt : (0 ≤ (κ : Int) ∧ (κ : Int) < 3) = True := eq_true ⟨by omega, by omega⟩
      unfold fOn at hS
      rw [if_pos hk0, ek, enk] at hS
      have hcs : (cst M x).2.2.2.1 κ = cKp M x κ := if_pos hκ
      rw [hcs] at hS
      cases e : M.2.2 (x + 137) (κ : Int) with
      | none =>
        have e0 : cKp M x κ = bkE := by unfold cKp; rw [e]
        rw [e0, if_pos (show bkE.1 = 0 from rfl)] at hS
        refine cm_go hX6_on 200 oX6_on (eX6_on d hd) lX6_on_0 ?_
        simp only [jX6_on, kX6_on_0, fl_6_25, fl_6_130, fl_6_21, SX6_isKept, ek, ix, tt, e, k0, r0, r1, r2, r3, r4, r5, r6, r7, r8, r13, k1, k2, k137, k305, l1, l2, l137, l305, K0, R1, R2, R3, R4, R5, KK1, K2, K3, K4, K5, L1, L2, L3, L4, L5, w3_00, w3_10, cn_iconst, cn_lconst0, cn_lconst1, cn_null, cn_iload, cn_aload, cn_lload, cn_lo1, cn_loa1, cn_loa2, cn_lol1, cn_get0, cn_gets, cn_put0, cn_puts, cn_istore, cn_astore, cn_astoreN, cn_lstore, cn_iinc, cn_in1, cn_iadd, cn_isub, cn_imul, cn_iand, cn_ior, cn_ixor, cn_ishl, cn_ishr, cn_iushr, cn_idiv, cn_irem, cn_ladd, cn_lmul, cn_ldiv, cn_lrem, cn_i2l, cn_l2i, cn_i2b, cn_lcmp, cn_dupi, cn_dupr, cn_dup2, cn_popi, cn_popr, cn_goto, cn_if_eq, cn_if_ne, cn_if_lt, cn_if_ge, cn_if_gt, cn_if_le, cn_ic_eq, cn_ic_ne, cn_ic_lt, cn_ic_ge, cn_ic_gt, cn_ic_le, cn_ifnullN, cn_ifnullR, cn_ifnonnullN, cn_ifnonnullR, cn_tswS, cn_tsw0, cn_tsw1, cn_lswS, cn_lsw0, cn_lsw1, cn_alen, cn_iaload, cn_laload, cn_rr1, cn_rr0, cn_aaload, cn_iastore, cn_lastore, cn_aastore, cn_getfield, cn_gf0, cn_gf1, cn_gf2, cn_gf3, cn_putfield, cn_pf0f, cn_pf1f, cn_pf2f, cn_pf3f, cn_pf0t, cn_pf1t, cn_pf2t, cn_pf3t, cn_new, cn_nw1, cn_newi, cn_newl, cn_anew, cn_an1, cn_inv_v, cn_inv_s, cn_inv_p, cn_ca1, cn_cb1, cn_pop0, cn_pops, cn_rk0, cn_rk1, cn_kcn, cn_kcs, cn_ireturn, cn_lreturn, cn_areturn, cn_return, cn_re0, cn_re1, cn_re2, cn_re3, cn_re4, cn_re5, cn_wp0, cn_wps, cn_m0, cn_m1, cn_e0, cn_en, cn_ei, cn_er, cn_eu, cn_el, cn_nl0, cn_nls, cn_nb0, cn_nb1, cn_nb2, cn_nb3, cn_bd0, cn_bds, cn_cwi, cn_cwr, cn_cwl, cn_cwn, cn_wi2, cn_wl1, cn_wl3, cn_wr1, cn_wr2, cn_wi_eq, cn_wl_eq, cb_0, cb_n0, cb_b, cm_okb0, cm_okb1, Classical.not_not, true_and, and_true, Nat.reduceAdd, Nat.reduceSub, Nat.reduceLT, Nat.reduceLeDiff, Int.reduceToNat, Int.reduceNatCast', Nat.zero_le, Nat.reduceEqDiff, false_or, or_false, or_true, true_or, Int.reduceNeg, reduceCtorEq, false_implies, implies_true, forall_const, true_implies, not_true_eq_false, not_false_eq_true, Nat.le_refl, ne_eq, if_true, if_false, ite_true, ite_false, List.cons_append, List.nil_append]
        refine ⟨L, hC, fun M1 f1 c1 s1 => ?_⟩
        simp only [jX6_on, kX6_on_0, fl_6_25, fl_6_130, fl_6_21, cn_iconst, cn_lconst0, cn_lconst1, cn_null, cn_iload, cn_aload, cn_lload, cn_lo1, cn_loa1, cn_loa2, cn_lol1, cn_get0, cn_gets, cn_put0, cn_puts, cn_istore, cn_astore, cn_astoreN, cn_lstore, cn_iinc, cn_in1, cn_iadd, cn_isub, cn_imul, cn_iand, cn_ior, cn_ixor, cn_ishl, cn_ishr, cn_iushr, cn_idiv, cn_irem, cn_ladd, cn_lmul, cn_ldiv, cn_lrem, cn_i2l, cn_l2i, cn_i2b, cn_lcmp, cn_dupi, cn_dupr, cn_dup2, cn_popi, cn_popr, cn_goto, cn_if_eq, cn_if_ne, cn_if_lt, cn_if_ge, cn_if_gt, cn_if_le, cn_ic_eq, cn_ic_ne, cn_ic_lt, cn_ic_ge, cn_ic_gt, cn_ic_le, cn_ifnullN, cn_ifnullR, cn_ifnonnullN, cn_ifnonnullR, cn_tswS, cn_tsw0, cn_tsw1, cn_lswS, cn_lsw0, cn_lsw1, cn_alen, cn_iaload, cn_laload, cn_rr1, cn_rr0, cn_aaload, cn_iastore, cn_lastore, cn_aastore, cn_getfield, cn_gf0, cn_gf1, cn_gf2, cn_gf3, cn_putfield, cn_pf0f, cn_pf1f, cn_pf2f, cn_pf3f, cn_pf0t, cn_pf1t, cn_pf2t, cn_pf3t, cn_new, cn_nw1, cn_newi, cn_newl, cn_anew, cn_an1, cn_inv_v, cn_inv_s, cn_inv_p, cn_ca1, cn_cb1, cn_pop0, cn_pops, cn_rk0, cn_rk1, cn_kcn, cn_kcs, cn_ireturn, cn_lreturn, cn_areturn, cn_return, cn_re0, cn_re1, cn_re2, cn_re3, cn_re4, cn_re5, cn_wp0, cn_wps, cn_m0, cn_m1, cn_e0, cn_en, cn_ei, cn_er, cn_eu, cn_el, cn_nl0, cn_nls, cn_nb0, cn_nb1, cn_nb2, cn_nb3, cn_bd0, cn_bds, cn_cwi, cn_cwr, cn_cwl, cn_cwn, cn_wi2, cn_wl1, cn_wl3, cn_wr1, cn_wr2, cn_wi_eq, cn_wl_eq, cb_0, cb_n0, cb_b, cm_okb0, cm_okb1, Classical.not_not, true_and, and_true, Nat.reduceAdd, Nat.reduceSub, Nat.reduceLT, Nat.reduceLeDiff, Int.reduceToNat, Int.reduceNatCast', Nat.zero_le, Nat.reduceEqDiff, false_or, or_false, or_true, true_or, Int.reduceNeg, reduceCtorEq, false_implies, implies_true, forall_const, true_implies, not_true_eq_false, not_false_eq_true, Nat.le_refl, ne_eq, if_true, if_false, ite_true, ite_false, List.cons_append, List.nil_append]
        exact hS M1 f1 c1 s1
      | some a =>
        obtain ⟨b1, b2, b3⟩ := hC.2.2.2.1.1 κ hκ a e
        have ka := b3.1.1
        obtain ⟨n1, n2⟩ := b3.n
        have za : M.1 a 0 = w3 ((bkv M a).1 : Int) := i3_of n1
        have e0 : cKp M x κ = bkv M a := by unfold cKp; rw [e]
        rw [e0] at hS
        have xl := hC.1.1
        by_cases h0 : (bkv M a).1 = 0
        · have z0 : (w3 ((bkv M a).1 : Int) = 0) = True := eq_true (by rw [h0]; rfl)
          rw [if_pos h0] at hS
          refine cm_go hX6_on 200 oX6_on (eX6_on d hd) lX6_on_0 ?_
          simp only [jX6_on, kX6_on_0, fl_6_25, fl_6_130, fl_6_21, SX6_isKept, ek, ix, tt, e, ka, za, z0, k0, r0, r1, r2, r3, r4, r5, r6, r7, r8, r13, k1, k2, k137, k305, l1, l2, l137, l305, K0, R1, R2, R3, R4, R5, KK1, K2, K3, K4, K5, L1, L2, L3, L4, L5, w3_00, w3_10, cn_iconst, cn_lconst0, cn_lconst1, cn_null, cn_iload, cn_aload, cn_lload, cn_lo1, cn_loa1, cn_loa2, cn_lol1, cn_get0, cn_gets, cn_put0, cn_puts, cn_istore, cn_astore, cn_astoreN, cn_lstore, cn_iinc, cn_in1, cn_iadd, cn_isub, cn_imul, cn_iand, cn_ior, cn_ixor, cn_ishl, cn_ishr, cn_iushr, cn_idiv, cn_irem, cn_ladd, cn_lmul, cn_ldiv, cn_lrem, cn_i2l, cn_l2i, cn_i2b, cn_lcmp, cn_dupi, cn_dupr, cn_dup2, cn_popi, cn_popr, cn_goto, cn_if_eq, cn_if_ne, cn_if_lt, cn_if_ge, cn_if_gt, cn_if_le, cn_ic_eq, cn_ic_ne, cn_ic_lt, cn_ic_ge, cn_ic_gt, cn_ic_le, cn_ifnullN, cn_ifnullR, cn_ifnonnullN, cn_ifnonnullR, cn_tswS, cn_tsw0, cn_tsw1, cn_lswS, cn_lsw0, cn_lsw1, cn_alen, cn_iaload, cn_laload, cn_rr1, cn_rr0, cn_aaload, cn_iastore, cn_lastore, cn_aastore, cn_getfield, cn_gf0, cn_gf1, cn_gf2, cn_gf3, cn_putfield, cn_pf0f, cn_pf1f, cn_pf2f, cn_pf3f, cn_pf0t, cn_pf1t, cn_pf2t, cn_pf3t, cn_new, cn_nw1, cn_newi, cn_newl, cn_anew, cn_an1, cn_inv_v, cn_inv_s, cn_inv_p, cn_ca1, cn_cb1, cn_pop0, cn_pops, cn_rk0, cn_rk1, cn_kcn, cn_kcs, cn_ireturn, cn_lreturn, cn_areturn, cn_return, cn_re0, cn_re1, cn_re2, cn_re3, cn_re4, cn_re5, cn_wp0, cn_wps, cn_m0, cn_m1, cn_e0, cn_en, cn_ei, cn_er, cn_eu, cn_el, cn_nl0, cn_nls, cn_nb0, cn_nb1, cn_nb2, cn_nb3, cn_bd0, cn_bds, cn_cwi, cn_cwr, cn_cwl, cn_cwn, cn_wi2, cn_wl1, cn_wl3, cn_wr1, cn_wr2, cn_wi_eq, cn_wl_eq, cb_0, cb_n0, cb_b, cm_okb0, cm_okb1, Classical.not_not, true_and, and_true, Nat.reduceAdd, Nat.reduceSub, Nat.reduceLT, Nat.reduceLeDiff, Int.reduceToNat, Int.reduceNatCast', Nat.zero_le, Nat.reduceEqDiff, false_or, or_false, or_true, true_or, Int.reduceNeg, reduceCtorEq, false_implies, implies_true, forall_const, true_implies, not_true_eq_false, not_false_eq_true, Nat.le_refl, ne_eq, if_true, if_false, ite_true, ite_false, List.cons_append, List.nil_append]
          refine ⟨L, hC, fun M1 f1 c1 s1 => ?_⟩
          simp only [jX6_on, kX6_on_0, fl_6_25, fl_6_130, fl_6_21, cn_iconst, cn_lconst0, cn_lconst1, cn_null, cn_iload, cn_aload, cn_lload, cn_lo1, cn_loa1, cn_loa2, cn_lol1, cn_get0, cn_gets, cn_put0, cn_puts, cn_istore, cn_astore, cn_astoreN, cn_lstore, cn_iinc, cn_in1, cn_iadd, cn_isub, cn_imul, cn_iand, cn_ior, cn_ixor, cn_ishl, cn_ishr, cn_iushr, cn_idiv, cn_irem, cn_ladd, cn_lmul, cn_ldiv, cn_lrem, cn_i2l, cn_l2i, cn_i2b, cn_lcmp, cn_dupi, cn_dupr, cn_dup2, cn_popi, cn_popr, cn_goto, cn_if_eq, cn_if_ne, cn_if_lt, cn_if_ge, cn_if_gt, cn_if_le, cn_ic_eq, cn_ic_ne, cn_ic_lt, cn_ic_ge, cn_ic_gt, cn_ic_le, cn_ifnullN, cn_ifnullR, cn_ifnonnullN, cn_ifnonnullR, cn_tswS, cn_tsw0, cn_tsw1, cn_lswS, cn_lsw0, cn_lsw1, cn_alen, cn_iaload, cn_laload, cn_rr1, cn_rr0, cn_aaload, cn_iastore, cn_lastore, cn_aastore, cn_getfield, cn_gf0, cn_gf1, cn_gf2, cn_gf3, cn_putfield, cn_pf0f, cn_pf1f, cn_pf2f, cn_pf3f, cn_pf0t, cn_pf1t, cn_pf2t, cn_pf3t, cn_new, cn_nw1, cn_newi, cn_newl, cn_anew, cn_an1, cn_inv_v, cn_inv_s, cn_inv_p, cn_ca1, cn_cb1, cn_pop0, cn_pops, cn_rk0, cn_rk1, cn_kcn, cn_kcs, cn_ireturn, cn_lreturn, cn_areturn, cn_return, cn_re0, cn_re1, cn_re2, cn_re3, cn_re4, cn_re5, cn_wp0, cn_wps, cn_m0, cn_m1, cn_e0, cn_en, cn_ei, cn_er, cn_eu, cn_el, cn_nl0, cn_nls, cn_nb0, cn_nb1, cn_nb2, cn_nb3, cn_bd0, cn_bds, cn_cwi, cn_cwr, cn_cwl, cn_cwn, cn_wi2, cn_wl1, cn_wl3, cn_wr1, cn_wr2, cn_wi_eq, cn_wl_eq, cb_0, cb_n0, cb_b, cm_okb0, cm_okb1, Classical.not_not, true_and, and_true, Nat.reduceAdd, Nat.reduceSub, Nat.reduceLT, Nat.reduceLeDiff, Int.reduceToNat, Int.reduceNatCast', Nat.zero_le, Nat.reduceEqDiff, false_or, or_false, or_true, true_or, Int.reduceNeg, reduceCtorEq, false_implies, implies_true, forall_const, true_implies, not_true_eq_false, not_false_eq_true, Nat.le_refl, ne_eq, if_true, if_false, ite_true, ite_false, List.cons_append, List.nil_append]
          exact hS M1 f1 c1 s1
        · have z0 : (w3 ((bkv M a).1 : Int) = 0) = False := eq_false (by rw [w3_z, w3_eq (by omega) (by omega) (by omega) (by omega)]; omega)
          rw [if_neg h0] at hS
          refine cm_go hX6_on 200 oX6_on (eX6_on d hd) lX6_on_0 ?_
          simp only [jX6_on, kX6_on_0, fl_6_25, fl_6_130, fl_6_21, SX6_isKept, ek, ix, tt, e, ka, za, z0, k0, r0, r1, r2, r3, r4, r5, r6, r7, r8, r13, k1, k2, k137, k305, l1, l2, l137, l305, K0, R1, R2, R3, R4, R5, KK1, K2, K3, K4, K5, L1, L2, L3, L4, L5, w3_00, w3_10, cn_iconst, cn_lconst0, cn_lconst1, cn_null, cn_iload, cn_aload, cn_lload, cn_lo1, cn_loa1, cn_loa2, cn_lol1, cn_get0, cn_gets, cn_put0, cn_puts, cn_istore, cn_astore, cn_astoreN, cn_lstore, cn_iinc, cn_in1, cn_iadd, cn_isub, cn_imul, cn_iand, cn_ior, cn_ixor, cn_ishl, cn_ishr, cn_iushr, cn_idiv, cn_irem, cn_ladd, cn_lmul, cn_ldiv, cn_lrem, cn_i2l, cn_l2i, cn_i2b, cn_lcmp, cn_dupi, cn_dupr, cn_dup2, cn_popi, cn_popr, cn_goto, cn_if_eq, cn_if_ne, cn_if_lt, cn_if_ge, cn_if_gt, cn_if_le, cn_ic_eq, cn_ic_ne, cn_ic_lt, cn_ic_ge, cn_ic_gt, cn_ic_le, cn_ifnullN, cn_ifnullR, cn_ifnonnullN, cn_ifnonnullR, cn_tswS, cn_tsw0, cn_tsw1, cn_lswS, cn_lsw0, cn_lsw1, cn_alen, cn_iaload, cn_laload, cn_rr1, cn_rr0, cn_aaload, cn_iastore, cn_lastore, cn_aastore, cn_getfield, cn_gf0, cn_gf1, cn_gf2, cn_gf3, cn_putfield, cn_pf0f, cn_pf1f, cn_pf2f, cn_pf3f, cn_pf0t, cn_pf1t, cn_pf2t, cn_pf3t, cn_new, cn_nw1, cn_newi, cn_newl, cn_anew, cn_an1, cn_inv_v, cn_inv_s, cn_inv_p, cn_ca1, cn_cb1, cn_pop0, cn_pops, cn_rk0, cn_rk1, cn_kcn, cn_kcs, cn_ireturn, cn_lreturn, cn_areturn, cn_return, cn_re0, cn_re1, cn_re2, cn_re3, cn_re4, cn_re5, cn_wp0, cn_wps, cn_m0, cn_m1, cn_e0, cn_en, cn_ei, cn_er, cn_eu, cn_el, cn_nl0, cn_nls, cn_nb0, cn_nb1, cn_nb2, cn_nb3, cn_bd0, cn_bds, cn_cwi, cn_cwr, cn_cwl, cn_cwn, cn_wi2, cn_wl1, cn_wl3, cn_wr1, cn_wr2, cn_wi_eq, cn_wl_eq, cb_0, cb_n0, cb_b, cm_okb0, cm_okb1, Classical.not_not, true_and, and_true, Nat.reduceAdd, Nat.reduceSub, Nat.reduceLT, Nat.reduceLeDiff, Int.reduceToNat, Int.reduceNatCast', Nat.zero_le, Nat.reduceEqDiff, false_or, or_false, or_true, true_or, Int.reduceNeg, reduceCtorEq, false_implies, implies_true, forall_const, true_implies, not_true_eq_false, not_false_eq_true, Nat.le_refl, ne_eq, if_true, if_false, ite_true, ite_false, List.cons_append, List.nil_append]
          refine ⟨hB, b3, by unfold dB; omega, fun M1 F1 G1 bb => ?_⟩
          have e1 := F1.2
          have z1 : M1.1 (x + 3) 0 = w3 ((bkv M a).1 : Int) := by rw [← bb]; exact i3_of G1.n.1
          simp only [jX6_on, kX6_on_0, fl_6_25, fl_6_130, fl_6_21, e1, z1, k0, r0, r1, r2, r3, r4, r5, r6, r7, r8, r13, k1, k2, k137, k305, l1, l2, l137, l305, K0, R1, R2, R3, R4, R5, KK1, K2, K3, K4, K5, L1, L2, L3, L4, L5, w3_00, w3_10, cn_iconst, cn_lconst0, cn_lconst1, cn_null, cn_iload, cn_aload, cn_lload, cn_lo1, cn_loa1, cn_loa2, cn_lol1, cn_get0, cn_gets, cn_put0, cn_puts, cn_istore, cn_astore, cn_astoreN, cn_lstore, cn_iinc, cn_in1, cn_iadd, cn_isub, cn_imul, cn_iand, cn_ior, cn_ixor, cn_ishl, cn_ishr, cn_iushr, cn_idiv, cn_irem, cn_ladd, cn_lmul, cn_ldiv, cn_lrem, cn_i2l, cn_l2i, cn_i2b, cn_lcmp, cn_dupi, cn_dupr, cn_dup2, cn_popi, cn_popr, cn_goto, cn_if_eq, cn_if_ne, cn_if_lt, cn_if_ge, cn_if_gt, cn_if_le, cn_ic_eq, cn_ic_ne, cn_ic_lt, cn_ic_ge, cn_ic_gt, cn_ic_le, cn_ifnullN, cn_ifnullR, cn_ifnonnullN, cn_ifnonnullR, cn_tswS, cn_tsw0, cn_tsw1, cn_lswS, cn_lsw0, cn_lsw1, cn_alen, cn_iaload, cn_laload, cn_rr1, cn_rr0, cn_aaload, cn_iastore, cn_lastore, cn_aastore, cn_getfield, cn_gf0, cn_gf1, cn_gf2, cn_gf3, cn_putfield, cn_pf0f, cn_pf1f, cn_pf2f, cn_pf3f, cn_pf0t, cn_pf1t, cn_pf2t, cn_pf3t, cn_new, cn_nw1, cn_newi, cn_newl, cn_anew, cn_an1, cn_inv_v, cn_inv_s, cn_inv_p, cn_ca1, cn_cb1, cn_pop0, cn_pops, cn_rk0, cn_rk1, cn_kcn, cn_kcs, cn_ireturn, cn_lreturn, cn_areturn, cn_return, cn_re0, cn_re1, cn_re2, cn_re3, cn_re4, cn_re5, cn_wp0, cn_wps, cn_m0, cn_m1, cn_e0, cn_en, cn_ei, cn_er, cn_eu, cn_el, cn_nl0, cn_nls, cn_nb0, cn_nb1, cn_nb2, cn_nb3, cn_bd0, cn_bds, cn_cwi, cn_cwr, cn_cwl, cn_cwn, cn_wi2, cn_wl1, cn_wl3, cn_wr1, cn_wr2, cn_wi_eq, cn_wl_eq, cb_0, cb_n0, cb_b, cm_okb0, cm_okb1, Classical.not_not, true_and, and_true, Nat.reduceAdd, Nat.reduceSub, Nat.reduceLT, Nat.reduceLeDiff, Int.reduceToNat, Int.reduceNatCast', Nat.zero_le, Nat.reduceEqDiff, false_or, or_false, or_true, true_or, Int.reduceNeg, reduceCtorEq, false_implies, implies_true, forall_const, true_implies, not_true_eq_false, not_false_eq_true, Nat.le_refl, ne_eq, if_true, if_false, ite_true, ite_false, List.cons_append, List.nil_append]
          obtain ⟨c1, c2, c3⟩ := cs_book hC F1 G1
          exact hS M1 c3 c1 (by rw [c2, bb])
    · have ff := eq_false hk0
      unfold fOn at hS
      rw [if_neg hk0] at hS
      refine cm_go hX6_on 200 oX6_on (eX6_on d hd) lX6_on_0 ?_
      simp only [jX6_on, kX6_on_0, fl_6_25, fl_6_130, fl_6_21, SX6_isKept, ff, k0, r0, r1, r2, r3, r4, r5, r6, r7, r8, r13, k1, k2, k137, k305, l1, l2, l137, l305, K0, R1, R2, R3, R4, R5, KK1, K2, K3, K4, K5, L1, L2, L3, L4, L5, w3_00, w3_10, cn_iconst, cn_lconst0, cn_lconst1, cn_null, cn_iload, cn_aload, cn_lload, cn_lo1, cn_loa1, cn_loa2, cn_lol1, cn_get0, cn_gets, cn_put0, cn_puts, cn_istore, cn_astore, cn_astoreN, cn_lstore, cn_iinc, cn_in1, cn_iadd, cn_isub, cn_imul, cn_iand, cn_ior, cn_ixor, cn_ishl, cn_ishr, cn_iushr, cn_idiv, cn_irem, cn_ladd, cn_lmul, cn_ldiv, cn_lrem, cn_i2l, cn_l2i, cn_i2b, cn_lcmp, cn_dupi, cn_dupr, cn_dup2, cn_popi, cn_popr, cn_goto, cn_if_eq, cn_if_ne, cn_if_lt, cn_if_ge, cn_if_gt, cn_if_le, cn_ic_eq, cn_ic_ne, cn_ic_lt, cn_ic_ge, cn_ic_gt, cn_ic_le, cn_ifnullN, cn_ifnullR, cn_ifnonnullN, cn_ifnonnullR, cn_tswS, cn_tsw0, cn_tsw1, cn_lswS, cn_lsw0, cn_lsw1, cn_alen, cn_iaload, cn_laload, cn_rr1, cn_rr0, cn_aaload, cn_iastore, cn_lastore, cn_aastore, cn_getfield, cn_gf0, cn_gf1, cn_gf2, cn_gf3, cn_putfield, cn_pf0f, cn_pf1f, cn_pf2f, cn_pf3f, cn_pf0t, cn_pf1t, cn_pf2t, cn_pf3t, cn_new, cn_nw1, cn_newi, cn_newl, cn_anew, cn_an1, cn_inv_v, cn_inv_s, cn_inv_p, cn_ca1, cn_cb1, cn_pop0, cn_pops, cn_rk0, cn_rk1, cn_kcn, cn_kcs, cn_ireturn, cn_lreturn, cn_areturn, cn_return, cn_re0, cn_re1, cn_re2, cn_re3, cn_re4, cn_re5, cn_wp0, cn_wps, cn_m0, cn_m1, cn_e0, cn_en, cn_ei, cn_er, cn_eu, cn_el, cn_nl0, cn_nls, cn_nb0, cn_nb1, cn_nb2, cn_nb3, cn_bd0, cn_bds, cn_cwi, cn_cwr, cn_cwl, cn_cwn, cn_wi2, cn_wl1, cn_wl3, cn_wr1, cn_wr2, cn_wi_eq, cn_wl_eq, cb_0, cb_n0, cb_b, cm_okb0, cm_okb1, Classical.not_not, true_and, and_true, Nat.reduceAdd, Nat.reduceSub, Nat.reduceLT, Nat.reduceLeDiff, Int.reduceToNat, Int.reduceNatCast', Nat.zero_le, Nat.reduceEqDiff, false_or, or_false, or_true, true_or, Int.reduceNeg, reduceCtorEq, false_implies, implies_true, forall_const, true_implies, not_true_eq_false, not_false_eq_true, Nat.le_refl, ne_eq, if_true, if_false, ite_true, ite_false, List.cons_append, List.nil_append]
      exact hS.k hC

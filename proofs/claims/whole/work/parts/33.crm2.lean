theorem St_ext {s s' : St} (h1 : s.1 = s'.1) (h2 : s.2.1 = s'.2.1) (h3 : s.2.2.1 = s'.2.2.1) (h4 : s.2.2.2.1 = s'.2.2.2.1) (h5 : s.2.2.2.2.1 = s'.2.2.2.2.1) (h6 : s.2.2.2.2.2.1 = s'.2.2.2.2.2.1) (h7 : s.2.2.2.2.2.2.1 = s'.2.2.2.2.2.2.1) (h8 : s.2.2.2.2.2.2.2.1 = s'.2.2.2.2.2.2.2.1) (h9 : s.2.2.2.2.2.2.2.2 = s'.2.2.2.2.2.2.2.2) : s = s' :=
  Prod.ext h1 (Prod.ext h2 (Prod.ext h3 (Prod.ext h4 (Prod.ext h5 (Prod.ext h6 (Prod.ext h7 (Prod.ext h8 h9)))))))
theorem cs_book {T : cm_T} {M M1 : cm_M} {x L : Nat} (hC : CMG T M x L) (h : Fr M M1 (x + 3) 134) (hB : BkG T M1 (x + 3)) : CMG T M1 x L ∧ cst M1 x = stB (cst M x) (bkv M1 (x + 3)) ∧ FrC M M1 x L := by
  obtain ⟨p1, p2, -, p4, p5, p6, p7, p8, p9⟩ := cm_part hC h (by omega)
  obtain ⟨q5, q5'⟩ := p5 (by omega)
  obtain ⟨q6, q6'⟩ := p6 (by omega)
  have q8 := p8 (by omega)
  exact ⟨⟨hC.1, p1, hB, p2.1, p4 (by omega), q5, q6⟩, St_ext q5' q6' (@rfl _ (bkv M1 (x + 3))) p2.2 (congrFun q8 9) (by show M1.2.1 x 10 = _; rw [p9]; rfl) (by show M1.2.1 x 11 = _; rw [p9]; rfl) (congrFun q8 12) (p7 (by omega)), h.c (by omega) (by omega)⟩
theorem cs_scr {T : cm_T} {M M1 : cm_M} {x L : Nat} (hC : CMG T M x L) (h : Fr M M1 (x + 138) 167) (hS : SCR T M1 x) : CMG T M1 x L ∧ cst M1 x = cst M x ∧ FrC M M1 x L := by
  obtain ⟨p1, p2, p3, -, p5, p6, p7, p8, p9⟩ := cm_part hC h (by omega)
  obtain ⟨q5, q5'⟩ := p5 (by omega)
  obtain ⟨q6, q6'⟩ := p6 (by omega)
  obtain ⟨q3, q3'⟩ := p3 (by omega)
  have q8 := p8 (by omega)
  exact ⟨⟨hC.1, p1, q3, p2.1, hS, q5, q6⟩, St_ext q5' q6' q3' p2.2 (congrFun q8 9) (by show M1.2.1 x 10 = _; rw [p9]; rfl) (by show M1.2.1 x 11 = _; rw [p9]; rfl) (congrFun q8 12) (p7 (by omega)), h.c (by omega) (by omega)⟩
theorem cs_row {T : cm_T} {M M1 : cm_M} {x L r : Nat} (hC : CMG T M x L) (hr : r < 6) (h : Fr M M1 (x + 306 + 2 * r) 2) (hz : sz1 M1 (x + 306 + 2 * r) 40) : CMG T M1 x L ∧ cst M1 x = stR (cst M x) r (fl M1 (x + 306 + 2 * r)) ∧ FrC M M1 x L := by
  obtain ⟨p1, p2, p3, p4, -, p6, p7, p8, p9⟩ := cm_part hC h (by omega)
  obtain ⟨q6, q6'⟩ := p6 (by omega)
  obtain ⟨q3, q3'⟩ := p3 (by omega)
  have q8 := p8 (by omega)
  refine ⟨⟨hC.1, p1, q3, p2.1, p4 (by omega), fun u hu => ?_, q6⟩, St_ext (funext fun u => ?_) q6' q3' p2.2 (congrFun q8 9) (by show M1.2.1 x 10 = _; rw [p9]; rfl) (by show M1.2.1 x 11 = _; rw [p9]; rfl) (congrFun q8 12) (p7 (by omega)), h.c (by omega) (by omega)⟩
  · by_cases e : u = r
    · rw [e]; exact hz
    · unfold sz1; rw [(h.rwq hC.2.1 hu (by omega)).2]; exact hC.2.2.2.2.2.1 u hu
  · show cRw M1 x u = if u = r then fl M1 (x + 306 + 2 * r) else cRw M x u
    unfold cRw
    by_cases e : u = r
    · rw [if_pos e, if_pos (by omega), e]
    · rw [if_neg e]
      by_cases hu : u < 6
      · rw [if_pos hu, if_pos hu, (h.rwq hC.2.1 hu (by omega)).1]
      · rw [if_neg hu, if_neg hu]
theorem cs_txt {T : cm_T} {M M1 : cm_M} {x L r : Nat} (hC : CMG T M x L) (hr : r < 4) (h : Fr M M1 (x + 318 + 2 * r) 2) (hz : sz1 M1 (x + 318 + 2 * r) 60) : CMG T M1 x L ∧ cst M1 x = stT (cst M x) r (fl M1 (x + 318 + 2 * r)) ∧ FrC M M1 x L := by
  obtain ⟨p1, p2, p3, p4, p5, -, p7, p8, p9⟩ := cm_part hC h (by omega)
  obtain ⟨q5, q5'⟩ := p5 (by omega)
  obtain ⟨q3, q3'⟩ := p3 (by omega)
  have q8 := p8 (by omega)
  refine ⟨⟨hC.1, p1, q3, p2.1, p4 (by omega), q5, fun u hu => ?_⟩, St_ext q5' (funext fun u => ?_) q3' p2.2 (congrFun q8 9) (by show M1.2.1 x 10 = _; rw [p9]; rfl) (by show M1.2.1 x 11 = _; rw [p9]; rfl) (congrFun q8 12) (p7 (by omega)), h.c (by omega) (by omega)⟩
  · by_cases e : u = r
    · rw [e]; exact hz
    · unfold sz1; rw [(h.txq hC.2.1 hu (by omega)).2]; exact hC.2.2.2.2.2.2 u hu
  · show cTx M1 x u = if u = r then fl M1 (x + 318 + 2 * r) else cTx M x u
    unfold cTx
    by_cases e : u = r
    · rw [if_pos e, if_pos (by omega), e]
    · rw [if_neg e]
      by_cases hu : u < 4
      · rw [if_pos hu, if_pos hu, (h.txq hC.2.1 hu (by omega)).1]
      · rw [if_neg hu, if_neg hu]
theorem cs_tell {T : cm_T} {M : cm_M} {x L : Nat} {v : Int32} (hC : CMG T M x L) : CMG T (cm_wi M x 9 v) x L ∧ cst (cm_wi M x 9 v) x = stO (cst M x) v ∧ FrC M (cm_wi M x 9 v) x L := by
  have h : Fr M (cm_wi M x 9 v) x 1 := Fr.wi (by omega) (by omega)
  obtain ⟨p1, p2, p3, p4, p5, p6, p7, -, p9⟩ := cm_part hC h (by omega)
  obtain ⟨q5, q5'⟩ := p5 (by omega)
  obtain ⟨q6, q6'⟩ := p6 (by omega)
  obtain ⟨q3, q3'⟩ := p3 (by omega)
  exact ⟨⟨hC.1, p1, q3, p2.1, p4 (by omega), q5, q6⟩, St_ext q5' q6' q3' p2.2 cn_wi_eq rfl rfl (cn_wi_ne (Or.inr (by decide))) (p7 (by omega)), h.c (by omega) (by omega)⟩
theorem cs_fin {T : cm_T} {M : cm_M} {x L : Nat} {v : Int32} (hC : CMG T M x L) : CMG T (cm_wi M x 12 v) x L ∧ FrC M (cm_wi M x 12 v) x L ∧ cst (cm_wi M x 12 v) x = ((cst M x).1, (cst M x).2.1, (cst M x).2.2.1, (cst M x).2.2.2.1, (cst M x).2.2.2.2.1, (cst M x).2.2.2.2.2.1, (cst M x).2.2.2.2.2.2.1, v, (cst M x).2.2.2.2.2.2.2.2) := by
  have h : Fr M (cm_wi M x 12 v) x 1 := Fr.wi (by omega) (by omega)
  obtain ⟨p1, p2, p3, p4, p5, p6, p7, -, p9⟩ := cm_part hC h (by omega)
  obtain ⟨q5, q5'⟩ := p5 (by omega)
  obtain ⟨q6, q6'⟩ := p6 (by omega)
  obtain ⟨q3, q3'⟩ := p3 (by omega)
  exact ⟨⟨hC.1, p1, q3, p2.1, p4 (by omega), q5, q6⟩, h.c (by omega) (by omega), St_ext q5' q6' q3' p2.2 (cn_wi_ne (Or.inr (by decide))) rfl rfl cn_wi_eq (p7 (by omega))⟩
theorem cs_ct {T : cm_T} {M : cm_M} {x L k : Nat} {v : Int32} (hC : CMG T M x L) (hk : k < 6) : CMG T (cm_wi M (x + 305) (k : Int) v) x L ∧ FrC M (cm_wi M (x + 305) (k : Int) v) x L ∧ cst (cm_wi M (x + 305) (k : Int) v) x = ((cst M x).1, (cst M x).2.1, (cst M x).2.2.1, (cst M x).2.2.2.1, (cst M x).2.2.2.2.1, (cst M x).2.2.2.2.2.1, (cst M x).2.2.2.2.2.2.1, (cst M x).2.2.2.2.2.2.2.1, up (cst M x).2.2.2.2.2.2.2.2 k v) := by
  have h : Fr M (cm_wi M (x + 305) (k : Int) v) (x + 305) 1 := Fr.wi (by omega) (by omega)
  obtain ⟨p1, p2, p3, p4, p5, p6, -, p8, p9⟩ := cm_part hC h (by omega)
  obtain ⟨q5, q5'⟩ := p5 (by omega)
  obtain ⟨q6, q6'⟩ := p6 (by omega)
  obtain ⟨q3, q3'⟩ := p3 (by omega)
  have q8 := p8 (by omega)
  refine ⟨⟨hC.1, p1, q3, p2.1, p4 (by omega), q5, q6⟩, h.c (by omega) (by omega), St_ext q5' q6' q3' p2.2 (congrFun q8 9) rfl rfl (congrFun q8 12) (funext fun u => ?_)⟩
  show cCt (cm_wi M (x + 305) (k : Int) v) x u = if u = k then v else cCt M x u
  unfold cCt
  by_cases e : u = k
  · rw [if_pos e, if_pos (by omega), e]; exact cn_wi_eq
  · rw [if_neg e]
    by_cases hu : u < 6
    · rw [if_pos hu, if_pos hu, cn_wi_ne (Or.inr (by omega))]
    · rw [if_neg hu, if_neg hu]
def SX6_isRow : cm_CT := fun as T M Φ => match as with
  | [.int r] => Φ (some (.int (cb (0 ≤ r.toInt ∧ r.toInt < 6)))) T M
  | _ => False
def JX6_isRow : cm_J := (6, false, 2, [], [], [])
theorem jX6_isRow : JX6_isRow.1 = 6 ∧ JX6_isRow.2.1 = false ∧ JX6_isRow.2.2.1 = 2 := ⟨rfl, rfl, rfl⟩
theorem eX6_isRow (d : Nat) (hd : 0 ≤ d) : cm_Cok d JX6_isRow := ⟨(fun q h => by cases h), (fun q h => by cases h), (fun q h => by cases h)⟩
set_option maxHeartbeats 4000000 in
theorem mX6_isRow (d : Nat) (hd : 0 ≤ d) : cm_Met d yX6_isRow cX6_isRow 1 (some .boolean) 0 0 SX6_isRow := by
  refine cm_meets (J := JX6_isRow) (by decide) rfl (fun h => by cases h) trivial ?_
  intro as T M Φ hS
  match as, hS with
  | [.int r], hS =>
    refine ⟨Nat.le_of_ble_eq_true rfl, ?_⟩
    refine cm_go hX6_isRow 200 oX6_isRow (eX6_isRow d hd) lX6_isRow_0 ?_
    simp only [jX6_isRow, kX6_isRow_0, cn_iconst, cn_lconst0, cn_lconst1, cn_null, cn_iload, cn_aload, cn_lload, cn_lo1, cn_loa1, cn_loa2, cn_lol1, cn_get0, cn_gets, cn_put0, cn_puts, cn_istore, cn_astore, cn_astoreN, cn_lstore, cn_iinc, cn_in1, cn_iadd, cn_isub, cn_imul, cn_iand, cn_ior, cn_ixor, cn_ishl, cn_ishr, cn_iushr, cn_idiv, cn_irem, cn_ladd, cn_lmul, cn_ldiv, cn_lrem, cn_i2l, cn_l2i, cn_i2b, cn_lcmp, cn_dupi, cn_dupr, cn_dup2, cn_popi, cn_popr, cn_goto, cn_if_eq, cn_if_ne, cn_if_lt, cn_if_ge, cn_if_gt, cn_if_le, cn_ic_eq, cn_ic_ne, cn_ic_lt, cn_ic_ge, cn_ic_gt, cn_ic_le, cn_ifnullN, cn_ifnullR, cn_ifnonnullN, cn_ifnonnullR, cn_tswS, cn_tsw0, cn_tsw1, cn_lswS, cn_lsw0, cn_lsw1, cn_alen, cn_iaload, cn_laload, cn_rr1, cn_rr0, cn_aaload, cn_iastore, cn_lastore, cn_aastore, cn_getfield, cn_gf0, cn_gf1, cn_gf2, cn_gf3, cn_putfield, cn_pf0f, cn_pf1f, cn_pf2f, cn_pf3f, cn_pf0t, cn_pf1t, cn_pf2t, cn_pf3t, cn_new, cn_nw1, cn_newi, cn_newl, cn_anew, cn_an1, cn_inv_v, cn_inv_s, cn_inv_p, cn_ca1, cn_cb1, cn_pop0, cn_pops, cn_rk0, cn_rk1, cn_kcn, cn_kcs, cn_ireturn, cn_lreturn, cn_areturn, cn_return, cn_re0, cn_re1, cn_re2, cn_re3, cn_re4, cn_re5, cn_wp0, cn_wps, cn_m0, cn_m1, cn_e0, cn_en, cn_ei, cn_er, cn_eu, cn_el, cn_nl0, cn_nls, cn_nb0, cn_nb1, cn_nb2, cn_nb3, cn_bd0, cn_bds, cn_cwi, cn_cwr, cn_cwl, cn_cwn, cn_wi2, cn_wl1, cn_wl3, cn_wr1, cn_wr2, cn_wi_eq, cn_wl_eq, cb_0, cb_n0, cb_b, cm_okb0, cm_okb1, Classical.not_not, true_and, and_true, Nat.reduceAdd, Nat.reduceSub, Nat.reduceLT, Nat.reduceLeDiff, Int.reduceToNat, Int.reduceNatCast', Nat.zero_le, Nat.reduceEqDiff, false_or, or_false, or_true, true_or, Int.reduceNeg, reduceCtorEq, false_implies, implies_true, forall_const, true_implies, not_true_eq_false, not_false_eq_true, Nat.le_refl, ne_eq, if_true, if_false, ite_true, ite_false, List.cons_append, List.nil_append]
    have hS : Φ (some (.int (cb (0 ≤ r.toInt ∧ r.toInt < 6)))) T M := hS
    have e : (w3 6).toInt = 6 := by decide
    simp only [i3_lt, i3_le, i3_z, e]
    refine ⟨fun h => ?_, fun h => ⟨fun h2 => ?_, fun h2 => ?_⟩⟩
    · rw [cb_f (by omega)] at hS; exact hS
    · rw [cb_f (by omega)] at hS; exact hS
    · rw [cb_t (by omega)] at hS; exact hS
def SX6_isText : cm_CT := fun as T M Φ => match as with
  | [.int r] => Φ (some (.int (cb (0 ≤ r.toInt ∧ r.toInt < 4)))) T M
  | _ => False
def JX6_isText : cm_J := (6, false, 2, [], [], [])
theorem jX6_isText : JX6_isText.1 = 6 ∧ JX6_isText.2.1 = false ∧ JX6_isText.2.2.1 = 2 := ⟨rfl, rfl, rfl⟩
theorem eX6_isText (d : Nat) (hd : 0 ≤ d) : cm_Cok d JX6_isText := ⟨(fun q h => by cases h), (fun q h => by cases h), (fun q h => by cases h)⟩
set_option maxHeartbeats 4000000 in
theorem mX6_isText (d : Nat) (hd : 0 ≤ d) : cm_Met d yX6_isText cX6_isText 1 (some .boolean) 0 0 SX6_isText := by
  refine cm_meets (J := JX6_isText) (by decide) rfl (fun h => by cases h) trivial ?_
  intro as T M Φ hS
  match as, hS with
  | [.int r], hS =>
    refine ⟨Nat.le_of_ble_eq_true rfl, ?_⟩
    refine cm_go hX6_isText 200 oX6_isText (eX6_isText d hd) lX6_isText_0 ?_
    simp only [jX6_isText, kX6_isText_0, cn_iconst, cn_lconst0, cn_lconst1, cn_null, cn_iload, cn_aload, cn_lload, cn_lo1, cn_loa1, cn_loa2, cn_lol1, cn_get0, cn_gets, cn_put0, cn_puts, cn_istore, cn_astore, cn_astoreN, cn_lstore, cn_iinc, cn_in1, cn_iadd, cn_isub, cn_imul, cn_iand, cn_ior, cn_ixor, cn_ishl, cn_ishr, cn_iushr, cn_idiv, cn_irem, cn_ladd, cn_lmul, cn_ldiv, cn_lrem, cn_i2l, cn_l2i, cn_i2b, cn_lcmp, cn_dupi, cn_dupr, cn_dup2, cn_popi, cn_popr, cn_goto, cn_if_eq, cn_if_ne, cn_if_lt, cn_if_ge, cn_if_gt, cn_if_le, cn_ic_eq, cn_ic_ne, cn_ic_lt, cn_ic_ge, cn_ic_gt, cn_ic_le, cn_ifnullN, cn_ifnullR, cn_ifnonnullN, cn_ifnonnullR, cn_tswS, cn_tsw0, cn_tsw1, cn_lswS, cn_lsw0, cn_lsw1, cn_alen, cn_iaload, cn_laload, cn_rr1, cn_rr0, cn_aaload, cn_iastore, cn_lastore, cn_aastore, cn_getfield, cn_gf0, cn_gf1, cn_gf2, cn_gf3, cn_putfield, cn_pf0f, cn_pf1f, cn_pf2f, cn_pf3f, cn_pf0t, cn_pf1t, cn_pf2t, cn_pf3t, cn_new, cn_nw1, cn_newi, cn_newl, cn_anew, cn_an1, cn_inv_v, cn_inv_s, cn_inv_p, cn_ca1, cn_cb1, cn_pop0, cn_pops, cn_rk0, cn_rk1, cn_kcn, cn_kcs, cn_ireturn, cn_lreturn, cn_areturn, cn_return, cn_re0, cn_re1, cn_re2, cn_re3, cn_re4, cn_re5, cn_wp0, cn_wps, cn_m0, cn_m1, cn_e0, cn_en, cn_ei, cn_er, cn_eu, cn_el, cn_nl0, cn_nls, cn_nb0, cn_nb1, cn_nb2, cn_nb3, cn_bd0, cn_bds, cn_cwi, cn_cwr, cn_cwl, cn_cwn, cn_wi2, cn_wl1, cn_wl3, cn_wr1, cn_wr2, cn_wi_eq, cn_wl_eq, cb_0, cb_n0, cb_b, cm_okb0, cm_okb1, Classical.not_not, true_and, and_true, Nat.reduceAdd, Nat.reduceSub, Nat.reduceLT, Nat.reduceLeDiff, Int.reduceToNat, Int.reduceNatCast', Nat.zero_le, Nat.reduceEqDiff, false_or, or_false, or_true, true_or, Int.reduceNeg, reduceCtorEq, false_implies, implies_true, forall_const, true_implies, not_true_eq_false, not_false_eq_true, Nat.le_refl, ne_eq, if_true, if_false, ite_true, ite_false, List.cons_append, List.nil_append]
    have hS : Φ (some (.int (cb (0 ≤ r.toInt ∧ r.toInt < 4)))) T M := hS
    have e : (w3 4).toInt = 4 := by decide
    simp only [i3_lt, i3_le, i3_z, e]
    refine ⟨fun h => ?_, fun h => ⟨fun h2 => ?_, fun h2 => ?_⟩⟩
    · rw [cb_f (by omega)] at hS; exact hS
    · rw [cb_f (by omega)] at hS; exact hS
    · rw [cb_t (by omega)] at hS; exact hS
def SX6_isKept : cm_CT := fun as T M Φ => match as with
  | [.int r] => Φ (some (.int (cb (0 ≤ r.toInt ∧ r.toInt < 3)))) T M
  | _ => False
def JX6_isKept : cm_J := (6, false, 2, [], [], [])
theorem jX6_isKept : JX6_isKept.1 = 6 ∧ JX6_isKept.2.1 = false ∧ JX6_isKept.2.2.1 = 2 := ⟨rfl, rfl, rfl⟩
theorem eX6_isKept (d : Nat) (hd : 0 ≤ d) : cm_Cok d JX6_isKept := ⟨(fun q h => by cases h), (fun q h => by cases h), (fun q h => by cases h)⟩
set_option maxHeartbeats 4000000 in
theorem mX6_isKept (d : Nat) (hd : 0 ≤ d) : cm_Met d yX6_isKept cX6_isKept 1 (some .boolean) 0 0 SX6_isKept := by
  refine cm_meets (J := JX6_isKept) (by decide) rfl (fun h => by cases h) trivial ?_
  intro as T M Φ hS
  match as, hS with
  | [.int r], hS =>
    refine ⟨Nat.le_of_ble_eq_true rfl, ?_⟩
    refine cm_go hX6_isKept 200 oX6_isKept (eX6_isKept d hd) lX6_isKept_0 ?_
    simp only [jX6_isKept, kX6_isKept_0, cn_iconst, cn_lconst0, cn_lconst1, cn_null, cn_iload, cn_aload, cn_lload, cn_lo1, cn_loa1, cn_loa2, cn_lol1, cn_get0, cn_gets, cn_put0, cn_puts, cn_istore, cn_astore, cn_astoreN, cn_lstore, cn_iinc, cn_in1, cn_iadd, cn_isub, cn_imul, cn_iand, cn_ior, cn_ixor, cn_ishl, cn_ishr, cn_iushr, cn_idiv, cn_irem, cn_ladd, cn_lmul, cn_ldiv, cn_lrem, cn_i2l, cn_l2i, cn_i2b, cn_lcmp, cn_dupi, cn_dupr, cn_dup2, cn_popi, cn_popr, cn_goto, cn_if_eq, cn_if_ne, cn_if_lt, cn_if_ge, cn_if_gt, cn_if_le, cn_ic_eq, cn_ic_ne, cn_ic_lt, cn_ic_ge, cn_ic_gt, cn_ic_le, cn_ifnullN, cn_ifnullR, cn_ifnonnullN, cn_ifnonnullR, cn_tswS, cn_tsw0, cn_tsw1, cn_lswS, cn_lsw0, cn_lsw1, cn_alen, cn_iaload, cn_laload, cn_rr1, cn_rr0, cn_aaload, cn_iastore, cn_lastore, cn_aastore, cn_getfield, cn_gf0, cn_gf1, cn_gf2, cn_gf3, cn_putfield, cn_pf0f, cn_pf1f, cn_pf2f, cn_pf3f, cn_pf0t, cn_pf1t, cn_pf2t, cn_pf3t, cn_new, cn_nw1, cn_newi, cn_newl, cn_anew, cn_an1, cn_inv_v, cn_inv_s, cn_inv_p, cn_ca1, cn_cb1, cn_pop0, cn_pops, cn_rk0, cn_rk1, cn_kcn, cn_kcs, cn_ireturn, cn_lreturn, cn_areturn, cn_return, cn_re0, cn_re1, cn_re2, cn_re3, cn_re4, cn_re5, cn_wp0, cn_wps, cn_m0, cn_m1, cn_e0, cn_en, cn_ei, cn_er, cn_eu, cn_el, cn_nl0, cn_nls, cn_nb0, cn_nb1, cn_nb2, cn_nb3, cn_bd0, cn_bds, cn_cwi, cn_cwr, cn_cwl, cn_cwn, cn_wi2, cn_wl1, cn_wl3, cn_wr1, cn_wr2, cn_wi_eq, cn_wl_eq, cb_0, cb_n0, cb_b, cm_okb0, cm_okb1, Classical.not_not, true_and, and_true, Nat.reduceAdd, Nat.reduceSub, Nat.reduceLT, Nat.reduceLeDiff, Int.reduceToNat, Int.reduceNatCast', Nat.zero_le, Nat.reduceEqDiff, false_or, or_false, or_true, true_or, Int.reduceNeg, reduceCtorEq, false_implies, implies_true, forall_const, true_implies, not_true_eq_false, not_false_eq_true, Nat.le_refl, ne_eq, if_true, if_false, ite_true, ite_false, List.cons_append, List.nil_append]
    have hS : Φ (some (.int (cb (0 ≤ r.toInt ∧ r.toInt < 3)))) T M := hS
    have e : (w3 3).toInt = 3 := by decide
    simp only [i3_lt, i3_le, i3_z, e]
    refine ⟨fun h => ?_, fun h => ⟨fun h2 => ?_, fun h2 => ?_⟩⟩
    · rw [cb_f (by omega)] at hS; exact hS
    · rw [cb_f (by omega)] at hS; exact hS
    · rw [cb_t (by omega)] at hS; exact hS
def SX6_tell : cm_CT := fun as T M Φ => match as with
  | [.ref x, .int v] => ∃ L, CMG T M x L ∧ ∀ M1, FrC M M1 x L → CMG T M1 x L → cst M1 x = stO (cst M x) v → Φ (some (.int (w3 1))) T M1
  | _ => False
def JX6_tell : cm_J := (6, false, 1, [], [], [])
theorem jX6_tell : JX6_tell.1 = 6 ∧ JX6_tell.2.1 = false ∧ JX6_tell.2.2.1 = 1 := ⟨rfl, rfl, rfl⟩
theorem eX6_tell (d : Nat) (hd : 0 ≤ d) : cm_Cok d JX6_tell := ⟨(fun q h => by cases h), (fun q h => by cases h), (fun q h => by cases h)⟩
set_option maxHeartbeats 4000000 in
theorem mX6_tell (d : Nat) (hd : 0 ≤ d) : cm_Met d yX6_tell cX6_tell 2 (some .int) 0 0 SX6_tell := by
  refine cm_meets (J := JX6_tell) (by decide) rfl (fun h => by cases h) trivial ?_
  intro as T M Φ hS
  match as, hS with
  | [.ref x, .int v], ⟨L, hC, hS⟩ =>
    refine ⟨Nat.le_of_ble_eq_true rfl, ?_⟩
    have k0 := hC.2.1.1
    refine cm_go hX6_tell 200 oX6_tell (eX6_tell d hd) lX6_tell_0 ?_
    simp only [jX6_tell, kX6_tell_0, fl_6_56, k0, cn_iconst, cn_lconst0, cn_lconst1, cn_null, cn_iload, cn_aload, cn_lload, cn_lo1, cn_loa1, cn_loa2, cn_lol1, cn_get0, cn_gets, cn_put0, cn_puts, cn_istore, cn_astore, cn_astoreN, cn_lstore, cn_iinc, cn_in1, cn_iadd, cn_isub, cn_imul, cn_iand, cn_ior, cn_ixor, cn_ishl, cn_ishr, cn_iushr, cn_idiv, cn_irem, cn_ladd, cn_lmul, cn_ldiv, cn_lrem, cn_i2l, cn_l2i, cn_i2b, cn_lcmp, cn_dupi, cn_dupr, cn_dup2, cn_popi, cn_popr, cn_goto, cn_if_eq, cn_if_ne, cn_if_lt, cn_if_ge, cn_if_gt, cn_if_le, cn_ic_eq, cn_ic_ne, cn_ic_lt, cn_ic_ge, cn_ic_gt, cn_ic_le, cn_ifnullN, cn_ifnullR, cn_ifnonnullN, cn_ifnonnullR, cn_tswS, cn_tsw0, cn_tsw1, cn_lswS, cn_lsw0, cn_lsw1, cn_alen, cn_iaload, cn_laload, cn_rr1, cn_rr0, cn_aaload, cn_iastore, cn_lastore, cn_aastore, cn_getfield, cn_gf0, cn_gf1, cn_gf2, cn_gf3, cn_putfield, cn_pf0f, cn_pf1f, cn_pf2f, cn_pf3f, cn_pf0t, cn_pf1t, cn_pf2t, cn_pf3t, cn_new, cn_nw1, cn_newi, cn_newl, cn_anew, cn_an1, cn_inv_v, cn_inv_s, cn_inv_p, cn_ca1, cn_cb1, cn_pop0, cn_pops, cn_rk0, cn_rk1, cn_kcn, cn_kcs, cn_ireturn, cn_lreturn, cn_areturn, cn_return, cn_re0, cn_re1, cn_re2, cn_re3, cn_re4, cn_re5, cn_wp0, cn_wps, cn_m0, cn_m1, cn_e0, cn_en, cn_ei, cn_er, cn_eu, cn_el, cn_nl0, cn_nls, cn_nb0, cn_nb1, cn_nb2, cn_nb3, cn_bd0, cn_bds, cn_cwi, cn_cwr, cn_cwl, cn_cwn, cn_wi2, cn_wl1, cn_wl3, cn_wr1, cn_wr2, cn_wi_eq, cn_wl_eq, cb_0, cb_n0, cb_b, cm_okb0, cm_okb1, Classical.not_not, true_and, and_true, Nat.reduceAdd, Nat.reduceSub, Nat.reduceLT, Nat.reduceLeDiff, Int.reduceToNat, Int.reduceNatCast', Nat.zero_le, Nat.reduceEqDiff, false_or, or_false, or_true, true_or, Int.reduceNeg, reduceCtorEq, false_implies, implies_true, forall_const, true_implies, not_true_eq_false, not_false_eq_true, Nat.le_refl, ne_eq, if_true, if_false, ite_true, ite_false, List.cons_append, List.nil_append]
    obtain ⟨c1, c2, c3⟩ := cs_tell (v := v) hC
    exact hS _ c3 c1 c2
def SX6_found : cm_CT := fun as T M Φ => match as with
  | [.ref x, .int v] => ∃ L, CMG T M x L ∧ ∀ M1, FrC M M1 x L → CMG T M1 x L → cst M1 x = stF (cst M x) v → Φ (some (.int (w3 (-3)))) T M1
  | _ => False
def JX6_found : cm_J := (6, false, 1, [], [], [])
theorem jX6_found : JX6_found.1 = 6 ∧ JX6_found.2.1 = false ∧ JX6_found.2.2.1 = 1 := ⟨rfl, rfl, rfl⟩
theorem eX6_found (d : Nat) (hd : 0 ≤ d) : cm_Cok d JX6_found := ⟨(fun q h => by cases h), (fun q h => by cases h), (fun q h => by cases h)⟩
set_option maxHeartbeats 4000000 in
theorem mX6_found (d : Nat) (hd : 0 ≤ d) : cm_Met d yX6_found cX6_found 2 (some .int) 0 0 SX6_found := by
  refine cm_meets (J := JX6_found) (by decide) rfl (fun h => by cases h) trivial ?_
  intro as T M Φ hS
  match as, hS with
  | [.ref x, .int v], ⟨L, hC, hS⟩ =>
    refine ⟨Nat.le_of_ble_eq_true rfl, ?_⟩
    obtain ⟨k0, ⟨r0, r1, r2, r3, r4, r5, r6, r7, r8, r13⟩, ⟨k1, k2, k137, k305⟩, ⟨l1, l2, l137, l305⟩, hr, ht⟩ := id hC.2.1
    obtain ⟨c1, c2, c3⟩ := cs_fin (v := v) hC
    refine cm_go hX6_found 200 oX6_found (eX6_found d hd) lX6_found_0 ?_
    simp only [jX6_found, kX6_found_0, fl_6_67, fl_6_70, k0, r13, k305, l305, cn_iconst, cn_lconst0, cn_lconst1, cn_null, cn_iload, cn_aload, cn_lload, cn_lo1, cn_loa1, cn_loa2, cn_lol1, cn_get0, cn_gets, cn_put0, cn_puts, cn_istore, cn_astore, cn_astoreN, cn_lstore, cn_iinc, cn_in1, cn_iadd, cn_isub, cn_imul, cn_iand, cn_ior, cn_ixor, cn_ishl, cn_ishr, cn_iushr, cn_idiv, cn_irem, cn_ladd, cn_lmul, cn_ldiv, cn_lrem, cn_i2l, cn_l2i, cn_i2b, cn_lcmp, cn_dupi, cn_dupr, cn_dup2, cn_popi, cn_popr, cn_goto, cn_if_eq, cn_if_ne, cn_if_lt, cn_if_ge, cn_if_gt, cn_if_le, cn_ic_eq, cn_ic_ne, cn_ic_lt, cn_ic_ge, cn_ic_gt, cn_ic_le, cn_ifnullN, cn_ifnullR, cn_ifnonnullN, cn_ifnonnullR, cn_tswS, cn_tsw0, cn_tsw1, cn_lswS, cn_lsw0, cn_lsw1, cn_alen, cn_iaload, cn_laload, cn_rr1, cn_rr0, cn_aaload, cn_iastore, cn_lastore, cn_aastore, cn_getfield, cn_gf0, cn_gf1, cn_gf2, cn_gf3, cn_putfield, cn_pf0f, cn_pf1f, cn_pf2f, cn_pf3f, cn_pf0t, cn_pf1t, cn_pf2t, cn_pf3t, cn_new, cn_nw1, cn_newi, cn_newl, cn_anew, cn_an1, cn_inv_v, cn_inv_s, cn_inv_p, cn_ca1, cn_cb1, cn_pop0, cn_pops, cn_rk0, cn_rk1, cn_kcn, cn_kcs, cn_ireturn, cn_lreturn, cn_areturn, cn_return, cn_re0, cn_re1, cn_re2, cn_re3, cn_re4, cn_re5, cn_wp0, cn_wps, cn_m0, cn_m1, cn_e0, cn_en, cn_ei, cn_er, cn_eu, cn_el, cn_nl0, cn_nls, cn_nb0, cn_nb1, cn_nb2, cn_nb3, cn_bd0, cn_bds, cn_cwi, cn_cwr, cn_cwl, cn_cwn, cn_wi2, cn_wl1, cn_wl3, cn_wr1, cn_wr2, cn_wi_eq, cn_wl_eq, cb_0, cb_n0, cb_b, cm_okb0, cm_okb1, Classical.not_not, true_and, and_true, Nat.reduceAdd, Nat.reduceSub, Nat.reduceLT, Nat.reduceLeDiff, Int.reduceToNat, Int.reduceNatCast', Nat.zero_le, Nat.reduceEqDiff, false_or, or_false, or_true, true_or, Int.reduceNeg, reduceCtorEq, false_implies, implies_true, forall_const, true_implies, not_true_eq_false, not_false_eq_true, Nat.le_refl, ne_eq, if_true, if_false, ite_true, ite_false, List.cons_append, List.nil_append]
    have e1 : (w3 1).toInt = 1 := by decide
    have e5 : (w3 5).toInt = 5 := by decide
    simp only [i3_lt, e1, e5]
    refine ⟨fun q => hS _ c2 c1 ?_, fun q => ⟨fun q2 => hS _ c2 c1 ?_, fun q2 => ?_⟩⟩
    · rw [c3]
      unfold stF
      rw [if_neg (by rw [i3_le, e1]; omega)]
    · rw [c3]
      unfold stF
      rw [if_neg (by rw [i3_le, i3_le, e5]; omega)]
    · have ix : cm_ix v 6 := ⟨by omega, by show v.toInt < ((6 : Nat) : Int); omega⟩
      refine ⟨ix, ix, ?_⟩
      have ev : v.toInt = ((v.toInt.toNat : Nat) : Int) := (Int.toNat_of_nonneg (by omega)).symm
      have hk : v.toInt.toNat < 6 := by omega
      have ew : (cm_wi M x 12 v).1 (x + 305) ((v.toInt.toNat : Nat) : Int) = (cst M x).2.2.2.2.2.2.2.2 v.toInt.toNat := by
        rw [cn_wi_ne (Or.inl (by omega))]
        show _ = cCt M x v.toInt.toNat
        unfold cCt
        rw [if_pos hk]
      obtain ⟨d1, d2, d3⟩ := cs_ct (v := (cm_wi M x 12 v).1 (x + 305) ((v.toInt.toNat : Nat) : Int) + w3 1) c1 hk
      rw [← ev] at d1 d2 d3
      refine hS _ (c2.trans d2) d1 ?_
      rw [d3, c3]
      unfold stF
      rw [if_pos (by rw [i3_le, i3_le, e1, e5]; omega)]
      rw [← ev] at ew
      rw [ew]
def SX6_findingAt : cm_CT := fun as T M Φ => match as with
  | [.ref a, .int i] => Sg T M a ∧ Φ (some (.int (if fl M a = none then w3 1 else if 0 ≤ i.toInt ∧ i.toInt < sz M a then w3 0 else w3 2))) T M
  | _ => False
def JX6_findingAt : cm_J := (6, false, 1, [(103, 1, 5, 0, 0, SX4_isThere), (283, 2, 5, 0, 0, SX4_has)], [], [])
theorem jX6_findingAt : JX6_findingAt.1 = 6 ∧ JX6_findingAt.2.1 = false ∧ JX6_findingAt.2.2.1 = 1 ∧ cm_gv JX6_findingAt 103 = some (1, 5, 0, 0, SX4_isThere) ∧ cm_gv JX6_findingAt 283 = some (2, 5, 0, 0, SX4_has) := ⟨rfl, rfl, rfl, rfl, rfl⟩
theorem eX6_findingAt (d : Nat) (hd : 1 ≤ d) : cm_Cok d JX6_findingAt := ⟨(List.forall_mem_cons.mpr ⟨q6_103 (mX4_isThere (d - 1) (by omega)) (by omega), (List.forall_mem_cons.mpr ⟨q6_283 (mX4_has (d - 1) (by omega)) (by omega), (fun q h => by cases h)⟩)⟩), (fun q h => by cases h), (fun q h => by cases h)⟩
set_option maxHeartbeats 4000000 in
theorem mX6_findingAt (d : Nat) (hd : 1 ≤ d) : cm_Met d yX6_findingAt cX6_findingAt 2 (some .int) 0 0 SX6_findingAt := by
  refine cm_meets (J := JX6_findingAt) (by decide) rfl (fun h => by cases h) trivial ?_
  intro as T M Φ hS
  match as, hS with
  | [.ref a, .int i], ⟨hg, hS⟩ =>
    refine ⟨Nat.le_of_ble_eq_true rfl, ?_⟩
    have a1 := hg.1
    refine cm_go hX6_findingAt 200 oX6_findingAt (eX6_findingAt d hd) lX6_findingAt_0 ?_
    simp only [jX6_findingAt, kX6_findingAt_0, SX4_isThere, SX4_has, fl_th, a1, cn_iconst, cn_lconst0, cn_lconst1, cn_null, cn_iload, cn_aload, cn_lload, cn_lo1, cn_loa1, cn_loa2, cn_lol1, cn_get0, cn_gets, cn_put0, cn_puts, cn_istore, cn_astore, cn_astoreN, cn_lstore, cn_iinc, cn_in1, cn_iadd, cn_isub, cn_imul, cn_iand, cn_ior, cn_ixor, cn_ishl, cn_ishr, cn_iushr, cn_idiv, cn_irem, cn_ladd, cn_lmul, cn_ldiv, cn_lrem, cn_i2l, cn_l2i, cn_i2b, cn_lcmp, cn_dupi, cn_dupr, cn_dup2, cn_popi, cn_popr, cn_goto, cn_if_eq, cn_if_ne, cn_if_lt, cn_if_ge, cn_if_gt, cn_if_le, cn_ic_eq, cn_ic_ne, cn_ic_lt, cn_ic_ge, cn_ic_gt, cn_ic_le, cn_ifnullN, cn_ifnullR, cn_ifnonnullN, cn_ifnonnullR, cn_tswS, cn_tsw0, cn_tsw1, cn_lswS, cn_lsw0, cn_lsw1, cn_alen, cn_iaload, cn_laload, cn_rr1, cn_rr0, cn_aaload, cn_iastore, cn_lastore, cn_aastore, cn_getfield, cn_gf0, cn_gf1, cn_gf2, cn_gf3, cn_putfield, cn_pf0f, cn_pf1f, cn_pf2f, cn_pf3f, cn_pf0t, cn_pf1t, cn_pf2t, cn_pf3t, cn_new, cn_nw1, cn_newi, cn_newl, cn_anew, cn_an1, cn_inv_v, cn_inv_s, cn_inv_p, cn_ca1, cn_cb1, cn_pop0, cn_pops, cn_rk0, cn_rk1, cn_kcn, cn_kcs, cn_ireturn, cn_lreturn, cn_areturn, cn_return, cn_re0, cn_re1, cn_re2, cn_re3, cn_re4, cn_re5, cn_wp0, cn_wps, cn_m0, cn_m1, cn_e0, cn_en, cn_ei, cn_er, cn_eu, cn_el, cn_nl0, cn_nls, cn_nb0, cn_nb1, cn_nb2, cn_nb3, cn_bd0, cn_bds, cn_cwi, cn_cwr, cn_cwl, cn_cwn, cn_wi2, cn_wl1, cn_wl3, cn_wr1, cn_wr2, cn_wi_eq, cn_wl_eq, cb_0, cb_n0, cb_b, cm_okb0, cm_okb1, Classical.not_not, true_and, and_true, Nat.reduceAdd, Nat.reduceSub, Nat.reduceLT, Nat.reduceLeDiff, Int.reduceToNat, Int.reduceNatCast', Nat.zero_le, Nat.reduceEqDiff, false_or, or_false, or_true, true_or, Int.reduceNeg, reduceCtorEq, false_implies, implies_true, forall_const, true_implies, not_true_eq_false, not_false_eq_true, Nat.le_refl, ne_eq, if_true, if_false, ite_true, ite_false, List.cons_append, List.nil_append]
    refine ⟨fun q => ⟨fun q2 => ?_, fun q2 => ?_⟩, fun q => ?_⟩
    · rw [if_neg q, if_neg (show ¬ (0 ≤ i.toInt ∧ i.toInt < sz M a) from q2)] at hS; exact hS
    · rw [if_neg q, if_pos (show 0 ≤ i.toInt ∧ i.toInt < sz M a from q2)] at hS; exact hS
    · rw [if_pos q] at hS; exact hS
def SX6_renewed : cm_CT := fun as T M Φ => match as with
  | [.ref x, .ref a, .int n, .int v] => ∃ L, CMG T M x L ∧ Sg T M a ∧ (sz1 M a 60 → ((T.2.1 (pl M a) : Int) < n.toInt → Φ (some (.int (w3 (-1)))) T M) ∧ (n.toInt ≤ (T.2.1 (pl M a) : Int) → (n.toInt < 0 → ∀ M1, FrC M M1 x L → CMG T M1 x L → cst M1 x = stF (cst M x) (w3 5) → Φ (some (.int (w3 (-3)))) T M1) ∧ (0 ≤ n.toInt → Φ (some (.int n)) T (mRow M a n.toInt (fun _ => v)))))
  | _ => False
def JX6_renewed : cm_J := (6, false, 1, [(89, 2, 7, 0, 0, SX6_found), (284, 3, 5, 0, 0, SX4_renew)], [], [])
theorem jX6_renewed : JX6_renewed.1 = 6 ∧ JX6_renewed.2.1 = false ∧ JX6_renewed.2.2.1 = 1 ∧ cm_gv JX6_renewed 89 = some (2, 7, 0, 0, SX6_found) ∧ cm_gv JX6_renewed 284 = some (3, 5, 0, 0, SX4_renew) := ⟨rfl, rfl, rfl, rfl, rfl⟩
theorem eX6_renewed (d : Nat) (hd : 2 ≤ d) : cm_Cok d JX6_renewed := ⟨(List.forall_mem_cons.mpr ⟨q6_89 (mX6_found (d - 1) (by omega)) (by omega), (List.forall_mem_cons.mpr ⟨q6_284 (mX4_renew (d - 1) (by omega)) (by omega), (fun q h => by cases h)⟩)⟩), (fun q h => by cases h), (fun q h => by cases h)⟩
set_option maxHeartbeats 4000000 in
theorem mX6_renewed (d : Nat) (hd : 2 ≤ d) : cm_Met d yX6_renewed cX6_renewed 4 (some .int) 0 0 SX6_renewed := by
  refine cm_meets (J := JX6_renewed) (by decide) rfl (fun h => by cases h) trivial ?_
  intro as T M Φ hS
  match as, hS with
  | [.ref x, .ref a, .int n, .int v], ⟨L, hC, hg, hS⟩ =>
    refine ⟨Nat.le_of_ble_eq_true rfl, ?_⟩
    obtain ⟨k0, ⟨r0, r1, r2, r3, r4, r5, r6, r7, r8, r13⟩, ⟨k1, k2, k137, k305⟩, ⟨l1, l2, l137, l305⟩, hr, ht⟩ := id hC.2.1

    obtain ⟨a1, a2, a3, a4, a5, a6⟩ := id hg
    obtain ⟨hS1, hS2⟩ := hS ⟨a4, by omega⟩
    refine cm_go hX6_renewed 200 oX6_renewed (eX6_renewed d hd) lX6_renewed_0 ?_
    simp only [jX6_renewed, kX6_renewed_0, fl_6_114, a1, a2, a3, k0, r0, r1, r2, r3, r4, r5, r6, r7, r8, r13, k1, k2, k137, k305, l1, l2, l137, l305, cn_iconst, cn_lconst0, cn_lconst1, cn_null, cn_iload, cn_aload, cn_lload, cn_lo1, cn_loa1, cn_loa2, cn_lol1, cn_get0, cn_gets, cn_put0, cn_puts, cn_istore, cn_astore, cn_astoreN, cn_lstore, cn_iinc, cn_in1, cn_iadd, cn_isub, cn_imul, cn_iand, cn_ior, cn_ixor, cn_ishl, cn_ishr, cn_iushr, cn_idiv, cn_irem, cn_ladd, cn_lmul, cn_ldiv, cn_lrem, cn_i2l, cn_l2i, cn_i2b, cn_lcmp, cn_dupi, cn_dupr, cn_dup2, cn_popi, cn_popr, cn_goto, cn_if_eq, cn_if_ne, cn_if_lt, cn_if_ge, cn_if_gt, cn_if_le, cn_ic_eq, cn_ic_ne, cn_ic_lt, cn_ic_ge, cn_ic_gt, cn_ic_le, cn_ifnullN, cn_ifnullR, cn_ifnonnullN, cn_ifnonnullR, cn_tswS, cn_tsw0, cn_tsw1, cn_lswS, cn_lsw0, cn_lsw1, cn_alen, cn_iaload, cn_laload, cn_rr1, cn_rr0, cn_aaload, cn_iastore, cn_lastore, cn_aastore, cn_getfield, cn_gf0, cn_gf1, cn_gf2, cn_gf3, cn_putfield, cn_pf0f, cn_pf1f, cn_pf2f, cn_pf3f, cn_pf0t, cn_pf1t, cn_pf2t, cn_pf3t, cn_new, cn_nw1, cn_newi, cn_newl, cn_anew, cn_an1, cn_inv_v, cn_inv_s, cn_inv_p, cn_ca1, cn_cb1, cn_pop0, cn_pops, cn_rk0, cn_rk1, cn_kcn, cn_kcs, cn_ireturn, cn_lreturn, cn_areturn, cn_return, cn_re0, cn_re1, cn_re2, cn_re3, cn_re4, cn_re5, cn_wp0, cn_wps, cn_m0, cn_m1, cn_e0, cn_en, cn_ei, cn_er, cn_eu, cn_el, cn_nl0, cn_nls, cn_nb0, cn_nb1, cn_nb2, cn_nb3, cn_bd0, cn_bds, cn_cwi, cn_cwr, cn_cwl, cn_cwn, cn_wi2, cn_wl1, cn_wl3, cn_wr1, cn_wr2, cn_wi_eq, cn_wl_eq, cb_0, cb_n0, cb_b, cm_okb0, cm_okb1, Classical.not_not, true_and, and_true, Nat.reduceAdd, Nat.reduceSub, Nat.reduceLT, Nat.reduceLeDiff, Int.reduceToNat, Int.reduceNatCast', Nat.zero_le, Nat.reduceEqDiff, false_or, or_false, or_true, true_or, Int.reduceNeg, reduceCtorEq, false_implies, implies_true, forall_const, true_implies, not_true_eq_false, not_false_eq_true, Nat.le_refl, ne_eq, if_true, if_false, ite_true, ite_false, List.cons_append, List.nil_append]
    have ec : (w3 (T.2.1 (pl M a) : Int)).toInt = (T.2.1 (pl M a) : Int) := w3_toInt (by omega) (by omega)
    simp only [i3_le, i3_z, ec]
    refine ⟨fun q => ⟨fun q2 => ?_, fun q2 => ?_⟩, fun q => hS1 (by omega)⟩
    · refine ⟨n.toInt, hg, by omega, ?_⟩
      simp only [jX6_renewed, kX6_renewed_0, fl_6_114, a1, cn_iconst, cn_lconst0, cn_lconst1, cn_null, cn_iload, cn_aload, cn_lload, cn_lo1, cn_loa1, cn_loa2, cn_lol1, cn_get0, cn_gets, cn_put0, cn_puts, cn_istore, cn_astore, cn_astoreN, cn_lstore, cn_iinc, cn_in1, cn_iadd, cn_isub, cn_imul, cn_iand, cn_ior, cn_ixor, cn_ishl, cn_ishr, cn_iushr, cn_idiv, cn_irem, cn_ladd, cn_lmul, cn_ldiv, cn_lrem, cn_i2l, cn_l2i, cn_i2b, cn_lcmp, cn_dupi, cn_dupr, cn_dup2, cn_popi, cn_popr, cn_goto, cn_if_eq, cn_if_ne, cn_if_lt, cn_if_ge, cn_if_gt, cn_if_le, cn_ic_eq, cn_ic_ne, cn_ic_lt, cn_ic_ge, cn_ic_gt, cn_ic_le, cn_ifnullN, cn_ifnullR, cn_ifnonnullN, cn_ifnonnullR, cn_tswS, cn_tsw0, cn_tsw1, cn_lswS, cn_lsw0, cn_lsw1, cn_alen, cn_iaload, cn_laload, cn_rr1, cn_rr0, cn_aaload, cn_iastore, cn_lastore, cn_aastore, cn_getfield, cn_gf0, cn_gf1, cn_gf2, cn_gf3, cn_putfield, cn_pf0f, cn_pf1f, cn_pf2f, cn_pf3f, cn_pf0t, cn_pf1t, cn_pf2t, cn_pf3t, cn_new, cn_nw1, cn_newi, cn_newl, cn_anew, cn_an1, cn_inv_v, cn_inv_s, cn_inv_p, cn_ca1, cn_cb1, cn_pop0, cn_pops, cn_rk0, cn_rk1, cn_kcn, cn_kcs, cn_ireturn, cn_lreturn, cn_areturn, cn_return, cn_re0, cn_re1, cn_re2, cn_re3, cn_re4, cn_re5, cn_wp0, cn_wps, cn_m0, cn_m1, cn_e0, cn_en, cn_ei, cn_er, cn_eu, cn_el, cn_nl0, cn_nls, cn_nb0, cn_nb1, cn_nb2, cn_nb3, cn_bd0, cn_bds, cn_cwi, cn_cwr, cn_cwl, cn_cwn, cn_wi2, cn_wl1, cn_wl3, cn_wr1, cn_wr2, cn_wi_eq, cn_wl_eq, cb_0, cb_n0, cb_b, cm_okb0, cm_okb1, Classical.not_not, true_and, and_true, Nat.reduceAdd, Nat.reduceSub, Nat.reduceLT, Nat.reduceLeDiff, Int.reduceToNat, Int.reduceNatCast', Nat.zero_le, Nat.reduceEqDiff, false_or, or_false, or_true, true_or, Int.reduceNeg, reduceCtorEq, false_implies, implies_true, forall_const, true_implies, not_true_eq_false, not_false_eq_true, Nat.le_refl, ne_eq, if_true, if_false, ite_true, ite_false, List.cons_append, List.nil_append]
      exact (hS2 q).2 q2
    · refine ⟨L, hC, fun M1 f1 c1 s1 => ?_⟩
      simp only [jX6_renewed, kX6_renewed_0, fl_6_114, a1, cn_iconst, cn_lconst0, cn_lconst1, cn_null, cn_iload, cn_aload, cn_lload, cn_lo1, cn_loa1, cn_loa2, cn_lol1, cn_get0, cn_gets, cn_put0, cn_puts, cn_istore, cn_astore, cn_astoreN, cn_lstore, cn_iinc, cn_in1, cn_iadd, cn_isub, cn_imul, cn_iand, cn_ior, cn_ixor, cn_ishl, cn_ishr, cn_iushr, cn_idiv, cn_irem, cn_ladd, cn_lmul, cn_ldiv, cn_lrem, cn_i2l, cn_l2i, cn_i2b, cn_lcmp, cn_dupi, cn_dupr, cn_dup2, cn_popi, cn_popr, cn_goto, cn_if_eq, cn_if_ne, cn_if_lt, cn_if_ge, cn_if_gt, cn_if_le, cn_ic_eq, cn_ic_ne, cn_ic_lt, cn_ic_ge, cn_ic_gt, cn_ic_le, cn_ifnullN, cn_ifnullR, cn_ifnonnullN, cn_ifnonnullR, cn_tswS, cn_tsw0, cn_tsw1, cn_lswS, cn_lsw0, cn_lsw1, cn_alen, cn_iaload, cn_laload, cn_rr1, cn_rr0, cn_aaload, cn_iastore, cn_lastore, cn_aastore, cn_getfield, cn_gf0, cn_gf1, cn_gf2, cn_gf3, cn_putfield, cn_pf0f, cn_pf1f, cn_pf2f, cn_pf3f, cn_pf0t, cn_pf1t, cn_pf2t, cn_pf3t, cn_new, cn_nw1, cn_newi, cn_newl, cn_anew, cn_an1, cn_inv_v, cn_inv_s, cn_inv_p, cn_ca1, cn_cb1, cn_pop0, cn_pops, cn_rk0, cn_rk1, cn_kcn, cn_kcs, cn_ireturn, cn_lreturn, cn_areturn, cn_return, cn_re0, cn_re1, cn_re2, cn_re3, cn_re4, cn_re5, cn_wp0, cn_wps, cn_m0, cn_m1, cn_e0, cn_en, cn_ei, cn_er, cn_eu, cn_el, cn_nl0, cn_nls, cn_nb0, cn_nb1, cn_nb2, cn_nb3, cn_bd0, cn_bds, cn_cwi, cn_cwr, cn_cwl, cn_cwn, cn_wi2, cn_wl1, cn_wl3, cn_wr1, cn_wr2, cn_wi_eq, cn_wl_eq, cb_0, cb_n0, cb_b, cm_okb0, cm_okb1, Classical.not_not, true_and, and_true, Nat.reduceAdd, Nat.reduceSub, Nat.reduceLT, Nat.reduceLeDiff, Int.reduceToNat, Int.reduceNatCast', Nat.zero_le, Nat.reduceEqDiff, false_or, or_false, or_true, true_or, Int.reduceNeg, reduceCtorEq, false_implies, implies_true, forall_const, true_implies, not_true_eq_false, not_false_eq_true, Nat.le_refl, ne_eq, if_true, if_false, ite_true, ite_false, List.cons_append, List.nil_append]
      exact (hS2 q).1 (by omega) M1 f1 c1 s1

def rwP (m ρ : Nat) : Nat → Int → Prop := fun q k => (q = m + 5 ∧ 40 * (ρ : Int) ≤ k ∧ k < 40 * (ρ : Int) + 40) ∨ (q = m + 6 ∧ k = (ρ : Int))
def txP (m ρ : Nat) : Nat → Int → Prop := fun q k => (q = m + 8 ∧ 60 * (ρ : Int) ≤ k ∧ k < 60 * (ρ : Int) + 60) ∨ (q = m + 9 ∧ k = (ρ : Int))
def scr (m : Nat) : Nat → Int → Prop := fun q k => (q = m ∧ (k = 20 ∨ k = 21 ∨ k = 23 ∨ k = 24)) ∨ q = m + 7 ∨ q = m + 10 ∨ q = m + 11 ∨ q = m + 12 ∨ q = m + 13 ∨ q = m + 14 ∨ q = m + 15 ∨ q = m + 16 ∨ (q = m + 1 ∧ 16792 ≤ k)
theorem md_row {T : cm_T} {M M1 : cm_M} {m ρ : Nat} (hD : MD T M m) (hρ : ρ < 6) (h : Fz (rwP m ρ) M M1) (hz : -1 ≤ (M1.1 (m + 6) (ρ : Int)).toInt ∧ (M1.1 (m + 6) (ρ : Int)).toInt ≤ 40) : MD T M1 m ∧ mst M1 m = stR (mst M m) ρ (flm (M1.1 (m + 5)) (40 * (ρ : Int)) (M1.1 (m + 6) (ρ : Int)).toInt) ∧ FrM M M1 m := by
  have ro : ∀ q, q ≠ m + 5 → q ≠ m + 6 → M1.1 q = M.1 q := fun q a b => funext fun k => h.1 q k (fun w => by unfold rwP at w; omega)
  obtain ⟨d1, d2, d3⟩ := mdb_keep (M1 := M1) hD.2.1 (by rw [ro m (by omega) (by omega)]) (fun k _ _ => by rw [ro (m + 1) (by omega) (by omega)]) (ro _ (by omega) (by omega)) (ro _ (by omega) (by omega)) (ro _ (by omega) (by omega)) (ro _ (by omega) (by omega))
  have zr : ∀ r : Nat, r ≠ ρ → M1.1 (m + 6) (r : Int) = M.1 (m + 6) (r : Int) := fun r hr => h.1 _ _ (fun w => by unfold rwP at w; omega)
  have rr : ∀ r : Nat, r < 6 → r ≠ ρ → flm (M1.1 (m + 5)) (40 * (r : Int)) (M1.1 (m + 6) (r : Int)).toInt = flm (M.1 (m + 5)) (40 * (r : Int)) (M.1 (m + 6) (r : Int)).toInt := by
    intro r hr hne
    have b := hD.2.2.1 r hr
    rw [zr r hne]
    exact flm_cong rfl (fun k k1 k2 => h.1 _ _ (fun w => by unfold rwP at w; omega))
  refine ⟨⟨by rw [h.2]; exact hD.1, d1, fun r hr => ?_, fun t ht => ?_⟩, St_ext (funext fun r => ?_) (funext fun t => ?_) d2 d3 ?_ ?_ ?_ ?_ (funext fun k => ?_), h.m (fun q k w => by unfold rwP at w; omega)⟩
  · by_cases e : r = ρ
    · rw [e]; exact hz
    · rw [zr r e]; exact hD.2.2.1 r hr
  · rw [ro (m + 9) (by omega) (by omega)]; exact hD.2.2.2 t ht
  · show mRw M1 m r = if r = ρ then _ else mRw M m r
    unfold mRw
    by_cases e : r = ρ
    · rw [if_pos e, if_pos (by omega), e]
    · rw [if_neg e]
      by_cases hr : r < 6
      · rw [if_pos hr, if_pos hr, rr r hr e]
      · rw [if_neg hr, if_neg hr]
  · show mTx M1 m t = mTx M m t
    unfold mTx
    rw [ro (m + 8) (by omega) (by omega), ro (m + 9) (by omega) (by omega)]
  · show M1.1 m 4 = M.1 m 4
    rw [ro m (by omega) (by omega)]
  · show M1.2.1 m 7 = M.2.1 m 7
    rw [h.2]
  · show M1.2.1 m 8 = M.2.1 m 8
    rw [h.2]
  · show M1.1 m 5 = M.1 m 5
    rw [ro m (by omega) (by omega)]
  · show mCt M1 m k = mCt M m k
    unfold mCt
    rw [ro (m + 4) (by omega) (by omega)]
theorem md_txt {T : cm_T} {M M1 : cm_M} {m ρ : Nat} (hD : MD T M m) (hρ : ρ < 4) (h : Fz (txP m ρ) M M1) (hz : -1 ≤ (M1.1 (m + 9) (ρ : Int)).toInt ∧ (M1.1 (m + 9) (ρ : Int)).toInt ≤ 60) : MD T M1 m ∧ mst M1 m = stT (mst M m) ρ (flm (M1.1 (m + 8)) (60 * (ρ : Int)) (M1.1 (m + 9) (ρ : Int)).toInt) ∧ FrM M M1 m := by
  have ro : ∀ q, q ≠ m + 8 → q ≠ m + 9 → M1.1 q = M.1 q := fun q a b => funext fun k => h.1 q k (fun w => by unfold txP at w; omega)
  obtain ⟨d1, d2, d3⟩ := mdb_keep (M1 := M1) hD.2.1 (by rw [ro m (by omega) (by omega)]) (fun k _ _ => by rw [ro (m + 1) (by omega) (by omega)]) (ro _ (by omega) (by omega)) (ro _ (by omega) (by omega)) (ro _ (by omega) (by omega)) (ro _ (by omega) (by omega))
  have zr : ∀ r : Nat, r ≠ ρ → M1.1 (m + 9) (r : Int) = M.1 (m + 9) (r : Int) := fun r hr => h.1 _ _ (fun w => by unfold txP at w; omega)
  have rr : ∀ r : Nat, r < 4 → r ≠ ρ → flm (M1.1 (m + 8)) (60 * (r : Int)) (M1.1 (m + 9) (r : Int)).toInt = flm (M.1 (m + 8)) (60 * (r : Int)) (M.1 (m + 9) (r : Int)).toInt := by
    intro r hr hne
    have b := hD.2.2.2 r hr
    rw [zr r hne]
    exact flm_cong rfl (fun k k1 k2 => h.1 _ _ (fun w => by unfold txP at w; omega))
  refine ⟨⟨by rw [h.2]; exact hD.1, d1, fun r hr => ?_, fun t ht => ?_⟩, St_ext (funext fun r => ?_) (funext fun r => ?_) d2 d3 ?_ ?_ ?_ ?_ (funext fun k => ?_), h.m (fun q k w => by unfold txP at w; omega)⟩
  · rw [ro (m + 6) (by omega) (by omega)]; exact hD.2.2.1 r hr
  · by_cases e : t = ρ
    · rw [e]; exact hz
    · rw [zr t e]; exact hD.2.2.2 t ht
  · show mRw M1 m r = mRw M m r
    unfold mRw
    rw [ro (m + 5) (by omega) (by omega), ro (m + 6) (by omega) (by omega)]
  · show mTx M1 m r = if r = ρ then _ else mTx M m r
    unfold mTx
    by_cases e : r = ρ
    · rw [if_pos e, if_pos (by omega), e]
    · rw [if_neg e]
      by_cases hr : r < 4
      · rw [if_pos hr, if_pos hr, rr r hr e]
      · rw [if_neg hr, if_neg hr]
  · show M1.1 m 4 = M.1 m 4
    rw [ro m (by omega) (by omega)]
  · show M1.2.1 m 7 = M.2.1 m 7
    rw [h.2]
  · show M1.2.1 m 8 = M.2.1 m 8
    rw [h.2]
  · show M1.1 m 5 = M.1 m 5
    rw [ro m (by omega) (by omega)]
  · show mCt M1 m k = mCt M m k
    unfold mCt
    rw [ro (m + 4) (by omega) (by omega)]
theorem md_scr {T : cm_T} {M M1 : cm_M} {m : Nat} (hD : MD T M m) (h : Fz (scr m) M M1) : MD T M1 m ∧ mst M1 m = mst M m ∧ FrM M M1 m := by
  have mk : ∀ k : Int, k ≠ 20 → k ≠ 21 → k ≠ 23 → k ≠ 24 → M1.1 m k = M.1 m k := fun k a b c d => h.1 m k (fun w => by unfold scr at w; omega)
  have ro : ∀ q : Nat, (m + 2 ≤ q ∧ q < m + 7) ∨ (m + 8 ≤ q ∧ q < m + 10) ∨ (m + 17 ≤ q) → M1.1 q = M.1 q := fun q a => funext fun k => h.1 q k (fun w => by unfold scr at w; omega)
  obtain ⟨d1, d2, d3⟩ := mdb_keep (M1 := M1) hD.2.1 (mk 1 (by decide) (by decide) (by decide) (by decide)) (fun k _ _ => h.1 _ _ (fun w => by unfold scr at w; omega)) (ro _ (by omega)) (ro _ (by omega)) (ro _ (by omega)) (ro _ (by omega))
  refine ⟨⟨by rw [h.2]; exact hD.1, d1, fun r hr => ?_, fun t ht => ?_⟩, St_ext (funext fun r => ?_) (funext fun t => ?_) d2 d3 (mk 4 (by decide) (by decide) (by decide) (by decide)) ?_ ?_ (mk 5 (by decide) (by decide) (by decide) (by decide)) (funext fun k => ?_), h.m (fun q k w => by unfold scr at w; omega)⟩
  · rw [ro (m + 6) (by omega)]; exact hD.2.2.1 r hr
  · rw [ro (m + 9) (by omega)]; exact hD.2.2.2 t ht
  · show mRw M1 m r = mRw M m r
    unfold mRw
    rw [ro (m + 5) (by omega), ro (m + 6) (by omega)]
  · show mTx M1 m t = mTx M m t
    unfold mTx
    rw [ro (m + 8) (by omega), ro (m + 9) (by omega)]
  · show M1.2.1 m 7 = M.2.1 m 7
    rw [h.2]
  · show M1.2.1 m 8 = M.2.1 m 8
    rw [h.2]
  · show mCt M1 m k = mCt M m k
    unfold mCt
    rw [ro (m + 4) (by omega)]
theorem md_fld {T : cm_T} {M : cm_M} {m : Nat} {j : Int} {v : Int32} (hD : MD T M m) (hj : j = 4 ∨ j = 5) : MD T (cm_wi M m j v) m ∧ FrM M (cm_wi M m j v) m ∧ mst (cm_wi M m j v) m = ((mst M m).1, (mst M m).2.1, (mst M m).2.2.1, (mst M m).2.2.2.1, (if j = 4 then v else M.1 m 4), (mst M m).2.2.2.2.2.1, (mst M m).2.2.2.2.2.2.1, (if j = 5 then v else M.1 m 5), (mst M m).2.2.2.2.2.2.2.2) := by
  have h : Fz (fun q k => q = m ∧ k = j) M (cm_wi M m j v) := Fz.wi ⟨rfl, rfl⟩
  have ro : ∀ q, q ≠ m → (cm_wi M m j v).1 q = M.1 q := fun q a => wi_r a
  obtain ⟨d1, d2, d3⟩ := mdb_keep (M1 := cm_wi M m j v) hD.2.1 (cn_wi_ne (Or.inr (by omega))) (fun k _ _ => by rw [ro (m + 1) (by omega)]) (ro _ (by omega)) (ro _ (by omega)) (ro _ (by omega)) (ro _ (by omega))
  refine ⟨⟨hD.1, d1, fun r hr => ?_, fun t ht => ?_⟩, h.m (fun q k w => by omega), St_ext (funext fun r => ?_) (funext fun t => ?_) d2 d3 ?_ rfl rfl ?_ (funext fun k => ?_)⟩
  · rw [ro (m + 6) (by omega)]; exact hD.2.2.1 r hr
  · rw [ro (m + 9) (by omega)]; exact hD.2.2.2 t ht
  · show mRw (cm_wi M m j v) m r = mRw M m r
    unfold mRw
    rw [ro (m + 5) (by omega), ro (m + 6) (by omega)]
  · show mTx (cm_wi M m j v) m t = mTx M m t
    unfold mTx
    rw [ro (m + 8) (by omega), ro (m + 9) (by omega)]
  · show (cm_wi M m j v).1 m 4 = if j = 4 then v else M.1 m 4
    by_cases e : j = 4
    · rw [if_pos e, e]; exact cn_wi_eq
    · rw [if_neg e]; exact cn_wi_ne (Or.inr (by omega))
  · show (cm_wi M m j v).1 m 5 = if j = 5 then v else M.1 m 5
    by_cases e : j = 5
    · rw [if_pos e, e]; exact cn_wi_eq
    · rw [if_neg e]; exact cn_wi_ne (Or.inr (by omega))
  · show mCt (cm_wi M m j v) m k = mCt M m k
    unfold mCt
    rw [ro (m + 4) (by omega)]
theorem md_tell {T : cm_T} {M : cm_M} {m : Nat} {v : Int32} (hD : MD T M m) : MD T (cm_wi M m 4 v) m ∧ FrM M (cm_wi M m 4 v) m ∧ mst (cm_wi M m 4 v) m = stO (mst M m) v := md_fld hD (Or.inl rfl)
theorem md_fin {T : cm_T} {M : cm_M} {m : Nat} {v : Int32} (hD : MD T M m) : MD T (cm_wi M m 5 v) m ∧ FrM M (cm_wi M m 5 v) m ∧ mst (cm_wi M m 5 v) m = ((mst M m).1, (mst M m).2.1, (mst M m).2.2.1, (mst M m).2.2.2.1, (mst M m).2.2.2.2.1, (mst M m).2.2.2.2.2.1, (mst M m).2.2.2.2.2.2.1, v, (mst M m).2.2.2.2.2.2.2.2) := md_fld hD (Or.inr rfl)
theorem cb_o {P : Prop} : ¬ P ∨ cb P = 1 := by
  by_cases h : P
  · right; rw [cb_t h]; rfl
  · exact Or.inl h
theorem md_ct {T : cm_T} {M : cm_M} {m κ : Nat} {v : Int32} (hD : MD T M m) (hκ : κ < 6) : MD T (cm_wi M (m + 4) (κ : Int) v) m ∧ FrM M (cm_wi M (m + 4) (κ : Int) v) m ∧ mst (cm_wi M (m + 4) (κ : Int) v) m = ((mst M m).1, (mst M m).2.1, (mst M m).2.2.1, (mst M m).2.2.2.1, (mst M m).2.2.2.2.1, (mst M m).2.2.2.2.2.1, (mst M m).2.2.2.2.2.2.1, (mst M m).2.2.2.2.2.2.2.1, up (mst M m).2.2.2.2.2.2.2.2 κ v) := by
  have h : Fz (fun q _ => q = m + 4) M (cm_wi M (m + 4) (κ : Int) v) := Fz.wi rfl
  have ro : ∀ q, q ≠ m + 4 → (cm_wi M (m + 4) (κ : Int) v).1 q = M.1 q := fun q a => wi_r a
  obtain ⟨d1, d2, d3⟩ := mdb_keep (M1 := cm_wi M (m + 4) (κ : Int) v) hD.2.1 (by rw [ro m (by omega)]) (fun k _ _ => by rw [ro (m + 1) (by omega)]) (ro _ (by omega)) (ro _ (by omega)) (ro _ (by omega)) (ro _ (by omega))
  refine ⟨⟨hD.1, d1, fun r hr => ?_, fun t ht => ?_⟩, h.m (fun q k w => by omega), St_ext (funext fun r => ?_) (funext fun t => ?_) d2 d3 ?_ rfl rfl ?_ (funext fun k => ?_)⟩
  · rw [ro (m + 6) (by omega)]; exact hD.2.2.1 r hr
  · rw [ro (m + 9) (by omega)]; exact hD.2.2.2 t ht
  · show mRw (cm_wi M (m + 4) (κ : Int) v) m r = mRw M m r
    unfold mRw
    rw [ro (m + 5) (by omega), ro (m + 6) (by omega)]
  · show mTx (cm_wi M (m + 4) (κ : Int) v) m t = mTx M m t
    unfold mTx
    rw [ro (m + 8) (by omega), ro (m + 9) (by omega)]
  · show (cm_wi M (m + 4) (κ : Int) v).1 m 4 = M.1 m 4
    rw [ro m (by omega)]
  · show (cm_wi M (m + 4) (κ : Int) v).1 m 5 = M.1 m 5
    rw [ro m (by omega)]
  · show mCt (cm_wi M (m + 4) (κ : Int) v) m k = if k = κ then v else mCt M m k
    unfold mCt
    by_cases e : k = κ
    · rw [if_pos e, if_pos (by omega), e]; exact cn_wi_eq
    · rw [if_neg e]
      by_cases hk : k < 6
      · rw [if_pos hk, if_pos hk, cn_wi_ne (Or.inr (by omega))]
      · rw [if_neg hk, if_neg hk]
theorem mst_r {M : cm_M} {m r : Nat} (h : r < 6) : (mst M m).1 r = flm (M.1 (m + 5)) (40 * (r : Int)) (M.1 (m + 6) (r : Int)).toInt := if_pos h
theorem mst_t {M : cm_M} {m r : Nat} (h : r < 4) : (mst M m).2.1 r = flm (M.1 (m + 8)) (60 * (r : Int)) (M.1 (m + 9) (r : Int)).toInt := if_pos h
theorem flm_n {f : Int → Int32} {o z : Int} : (flm f o z = none) = (z < 0) := propext ⟨flm_none, flm_mkn⟩
theorem flm_l {f : Int → Int32} {o z : Int} (h : 0 ≤ z) : ((cnt (flm f o z)).length : Int) = z := by
  have e : flm f o z = some (rdl f o z.toNat) := if_neg (by omega)
  rw [e]
  show ((rdl f o z.toNat).length : Int) = z
  rw [rdl_len]; omega
theorem flm_g {f : Int → Int32} {o z : Int} {k : Nat} (h2 : (k : Int) < z) : gt (cnt (flm f o z)) k = f (o + (k : Int)) := by
  have e : flm f o z = some (rdl f o z.toNat) := if_neg (by omega)
  rw [e]
  exact rdl_at (by omega)
def SX7_in : cm_CT := fun as T M Φ => match as with
  | [.int v, .int a, .int b] => Φ (some (.int (cb (a.toInt ≤ v.toInt ∧ v.toInt ≤ b.toInt)))) T M
  | _ => False
def JX7_in : cm_J := (7, false, 2, [], [], [])
theorem jX7_in : JX7_in.1 = 7 ∧ JX7_in.2.1 = false ∧ JX7_in.2.2.1 = 2 := ⟨rfl, rfl, rfl⟩
theorem eX7_in (d : Nat) (hd : 0 ≤ d) : cm_Cok d JX7_in := ⟨(fun q h => by cases h), (fun q h => by cases h), (fun q h => by cases h)⟩
set_option maxHeartbeats 4000000 in
theorem mX7_in (d : Nat) (hd : 0 ≤ d) : cm_Met d yX7_in cX7_in 3 (some .boolean) 0 0 SX7_in := by
  refine cm_meets (J := JX7_in) (by decide) rfl (fun h => by cases h) trivial ?_
  intro as T M Φ hS
  match as, hS with
  | [.int v, .int a, .int b], hS =>
    refine ⟨Nat.le_of_ble_eq_true rfl, ?_⟩
    have hS : Φ (some (.int (cb (a.toInt ≤ v.toInt ∧ v.toInt ≤ b.toInt)))) T M := hS
    refine cm_go hX7_in 200 oX7_in (eX7_in d hd) lX7_in_0 ?_
    simp only [jX7_in, kX7_in_0, cn_iconst, cn_lconst0, cn_lconst1, cn_null, cn_iload, cn_aload, cn_lload, cn_lo1, cn_loa1, cn_loa2, cn_lol1, cn_get0, cn_gets, cn_put0, cn_puts, cn_istore, cn_astore, cn_astoreN, cn_lstore, cn_iinc, cn_in1, cn_iadd, cn_isub, cn_imul, cn_iand, cn_ior, cn_ixor, cn_ishl, cn_ishr, cn_iushr, cn_idiv, cn_irem, cn_ladd, cn_lmul, cn_ldiv, cn_lrem, cn_i2l, cn_l2i, cn_i2b, cn_lcmp, cn_dupi, cn_dupr, cn_dup2, cn_popi, cn_popr, cn_goto, cn_if_eq, cn_if_ne, cn_if_lt, cn_if_ge, cn_if_gt, cn_if_le, cn_ic_eq, cn_ic_ne, cn_ic_lt, cn_ic_ge, cn_ic_gt, cn_ic_le, cn_ifnullN, cn_ifnullR, cn_ifnonnullN, cn_ifnonnullR, cn_tswS, cn_tsw0, cn_tsw1, cn_lswS, cn_lsw0, cn_lsw1, cn_alen, cn_iaload, cn_laload, cn_rr1, cn_rr0, cn_aaload, cn_iastore, cn_lastore, cn_aastore, cn_getfield, cn_gf0, cn_gf1, cn_gf2, cn_gf3, cn_putfield, cn_pf0f, cn_pf1f, cn_pf2f, cn_pf3f, cn_pf0t, cn_pf1t, cn_pf2t, cn_pf3t, cn_new, cn_nw1, cn_newi, cn_newl, cn_anew, cn_an1, cn_inv_v, cn_inv_s, cn_inv_p, cn_ca1, cn_cb1, cn_pop0, cn_pops, cn_rk0, cn_rk1, cn_kcn, cn_kcs, cn_ireturn, cn_lreturn, cn_areturn, cn_return, cn_re0, cn_re1, cn_re2, cn_re3, cn_re4, cn_re5, cn_wp0, cn_wps, cn_m0, cn_m1, cn_e0, cn_en, cn_ei, cn_er, cn_eu, cn_el, cn_nl0, cn_nls, cn_nb0, cn_nb1, cn_nb2, cn_nb3, cn_bd0, cn_bds, cn_cwi, cn_cwr, cn_cwl, cn_cwn, cn_wi2, cn_wl1, cn_wl3, cn_wr1, cn_wr2, cn_wi_eq, cn_wl_eq, cb_0, cb_n0, cb_b, cm_okb0, cm_okb1, Classical.not_not, true_and, and_true, Nat.reduceAdd, Nat.reduceSub, Nat.reduceLT, Nat.reduceLeDiff, Int.reduceToNat, Int.reduceNatCast', Nat.zero_le, Nat.reduceEqDiff, false_or, or_false, or_true, true_or, Int.reduceNeg, reduceCtorEq, false_implies, implies_true, forall_const, true_implies, not_true_eq_false, not_false_eq_true, Nat.le_refl, ne_eq, if_true, if_false, ite_true, ite_false, List.cons_append, List.nil_append]
    simp only [i3_lt, i3_le]
    refine ⟨fun h => ?_, fun h => ⟨fun h2 => ?_, fun h2 => ?_⟩⟩
    · rw [cb_f (by omega)] at hS; exact hS
    · rw [cb_f (by omega)] at hS; exact hS
    · rw [cb_t (by omega)] at hS; exact hS
def SX7_isRow : cm_CT := fun as T M Φ => match as with
  | [.int r] => Φ (some (.int (cb (0 ≤ r.toInt ∧ r.toInt < 6)))) T M
  | _ => False
def JX7_isRow : cm_J := (7, false, 2, [], [(79, 3, 0, 0, 0, SX7_in)], [])
theorem jX7_isRow : JX7_isRow.1 = 7 ∧ JX7_isRow.2.1 = false ∧ JX7_isRow.2.2.1 = 2 ∧ cm_gs JX7_isRow 79 = some (3, 0, 0, 0, SX7_in) := ⟨rfl, rfl, rfl, rfl⟩
theorem eX7_isRow (d : Nat) (hd : 1 ≤ d) : cm_Cok d JX7_isRow := ⟨(fun q h => by cases h), (List.forall_mem_cons.mpr ⟨q7_79 (mX7_in (d - 1) (by omega)) (by omega), (fun q h => by cases h)⟩), (fun q h => by cases h)⟩
set_option maxHeartbeats 4000000 in
theorem mX7_isRow (d : Nat) (hd : 1 ≤ d) : cm_Met d yX7_isRow cX7_isRow 1 (some .boolean) 0 0 SX7_isRow := by
  refine cm_meets (J := JX7_isRow) (by decide) rfl (fun h => by cases h) trivial ?_
  intro as T M Φ hS
  match as, hS with
  | [.int r], hS =>
    refine ⟨Nat.le_of_ble_eq_true rfl, ?_⟩
    have hS : Φ (some (.int (cb (0 ≤ r.toInt ∧ r.toInt < 6)))) T M := hS
    have e0 : (w3 0).toInt = 0 := by decide
    have e5 : (w3 5).toInt = 5 := by decide
    refine cm_go hX7_isRow 200 oX7_isRow (eX7_isRow d hd) lX7_isRow_0 ?_
    simp only [jX7_isRow, kX7_isRow_0, SX7_in, e0, e5, cn_iconst, cn_lconst0, cn_lconst1, cn_null, cn_iload, cn_aload, cn_lload, cn_lo1, cn_loa1, cn_loa2, cn_lol1, cn_get0, cn_gets, cn_put0, cn_puts, cn_istore, cn_astore, cn_astoreN, cn_lstore, cn_iinc, cn_in1, cn_iadd, cn_isub, cn_imul, cn_iand, cn_ior, cn_ixor, cn_ishl, cn_ishr, cn_iushr, cn_idiv, cn_irem, cn_ladd, cn_lmul, cn_ldiv, cn_lrem, cn_i2l, cn_l2i, cn_i2b, cn_lcmp, cn_dupi, cn_dupr, cn_dup2, cn_popi, cn_popr, cn_goto, cn_if_eq, cn_if_ne, cn_if_lt, cn_if_ge, cn_if_gt, cn_if_le, cn_ic_eq, cn_ic_ne, cn_ic_lt, cn_ic_ge, cn_ic_gt, cn_ic_le, cn_ifnullN, cn_ifnullR, cn_ifnonnullN, cn_ifnonnullR, cn_tswS, cn_tsw0, cn_tsw1, cn_lswS, cn_lsw0, cn_lsw1, cn_alen, cn_iaload, cn_laload, cn_rr1, cn_rr0, cn_aaload, cn_iastore, cn_lastore, cn_aastore, cn_getfield, cn_gf0, cn_gf1, cn_gf2, cn_gf3, cn_putfield, cn_pf0f, cn_pf1f, cn_pf2f, cn_pf3f, cn_pf0t, cn_pf1t, cn_pf2t, cn_pf3t, cn_new, cn_nw1, cn_newi, cn_newl, cn_anew, cn_an1, cn_inv_v, cn_inv_s, cn_inv_p, cn_ca1, cn_cb1, cn_pop0, cn_pops, cn_rk0, cn_rk1, cn_kcn, cn_kcs, cn_ireturn, cn_lreturn, cn_areturn, cn_return, cn_re0, cn_re1, cn_re2, cn_re3, cn_re4, cn_re5, cn_wp0, cn_wps, cn_m0, cn_m1, cn_e0, cn_en, cn_ei, cn_er, cn_eu, cn_el, cn_nl0, cn_nls, cn_nb0, cn_nb1, cn_nb2, cn_nb3, cn_bd0, cn_bds, cn_cwi, cn_cwr, cn_cwl, cn_cwn, cn_wi2, cn_wl1, cn_wl3, cn_wr1, cn_wr2, cn_wi_eq, cn_wl_eq, cb_0, cb_n0, cb_b, cm_okb0, cm_okb1, Classical.not_not, true_and, and_true, Nat.reduceAdd, Nat.reduceSub, Nat.reduceLT, Nat.reduceLeDiff, Int.reduceToNat, Int.reduceNatCast', Nat.zero_le, Nat.reduceEqDiff, false_or, or_false, or_true, true_or, Int.reduceNeg, reduceCtorEq, false_implies, implies_true, forall_const, true_implies, not_true_eq_false, not_false_eq_true, Nat.le_refl, ne_eq, if_true, if_false, ite_true, ite_false, List.cons_append, List.nil_append]
    have e : (0 ≤ r.toInt ∧ r.toInt ≤ 5) = (0 ≤ r.toInt ∧ r.toInt < 6) := propext ⟨fun h => by omega, fun h => by omega⟩
    rw [e]
    exact ⟨cb_o, hS⟩
def SX7_isText : cm_CT := fun as T M Φ => match as with
  | [.int r] => Φ (some (.int (cb (0 ≤ r.toInt ∧ r.toInt < 4)))) T M
  | _ => False
def JX7_isText : cm_J := (7, false, 2, [], [(79, 3, 0, 0, 0, SX7_in)], [])
theorem jX7_isText : JX7_isText.1 = 7 ∧ JX7_isText.2.1 = false ∧ JX7_isText.2.2.1 = 2 ∧ cm_gs JX7_isText 79 = some (3, 0, 0, 0, SX7_in) := ⟨rfl, rfl, rfl, rfl⟩
theorem eX7_isText (d : Nat) (hd : 1 ≤ d) : cm_Cok d JX7_isText := ⟨(fun q h => by cases h), (List.forall_mem_cons.mpr ⟨q7_79 (mX7_in (d - 1) (by omega)) (by omega), (fun q h => by cases h)⟩), (fun q h => by cases h)⟩
set_option maxHeartbeats 4000000 in
theorem mX7_isText (d : Nat) (hd : 1 ≤ d) : cm_Met d yX7_isText cX7_isText 1 (some .boolean) 0 0 SX7_isText := by
  refine cm_meets (J := JX7_isText) (by decide) rfl (fun h => by cases h) trivial ?_
  intro as T M Φ hS
  match as, hS with
  | [.int r], hS =>
    refine ⟨Nat.le_of_ble_eq_true rfl, ?_⟩
    have hS : Φ (some (.int (cb (0 ≤ r.toInt ∧ r.toInt < 4)))) T M := hS
    have e0 : (w3 0).toInt = 0 := by decide
    have e5 : (w3 3).toInt = 3 := by decide
    refine cm_go hX7_isText 200 oX7_isText (eX7_isText d hd) lX7_isText_0 ?_
    simp only [jX7_isText, kX7_isText_0, SX7_in, e0, e5, cn_iconst, cn_lconst0, cn_lconst1, cn_null, cn_iload, cn_aload, cn_lload, cn_lo1, cn_loa1, cn_loa2, cn_lol1, cn_get0, cn_gets, cn_put0, cn_puts, cn_istore, cn_astore, cn_astoreN, cn_lstore, cn_iinc, cn_in1, cn_iadd, cn_isub, cn_imul, cn_iand, cn_ior, cn_ixor, cn_ishl, cn_ishr, cn_iushr, cn_idiv, cn_irem, cn_ladd, cn_lmul, cn_ldiv, cn_lrem, cn_i2l, cn_l2i, cn_i2b, cn_lcmp, cn_dupi, cn_dupr, cn_dup2, cn_popi, cn_popr, cn_goto, cn_if_eq, cn_if_ne, cn_if_lt, cn_if_ge, cn_if_gt, cn_if_le, cn_ic_eq, cn_ic_ne, cn_ic_lt, cn_ic_ge, cn_ic_gt, cn_ic_le, cn_ifnullN, cn_ifnullR, cn_ifnonnullN, cn_ifnonnullR, cn_tswS, cn_tsw0, cn_tsw1, cn_lswS, cn_lsw0, cn_lsw1, cn_alen, cn_iaload, cn_laload, cn_rr1, cn_rr0, cn_aaload, cn_iastore, cn_lastore, cn_aastore, cn_getfield, cn_gf0, cn_gf1, cn_gf2, cn_gf3, cn_putfield, cn_pf0f, cn_pf1f, cn_pf2f, cn_pf3f, cn_pf0t, cn_pf1t, cn_pf2t, cn_pf3t, cn_new, cn_nw1, cn_newi, cn_newl, cn_anew, cn_an1, cn_inv_v, cn_inv_s, cn_inv_p, cn_ca1, cn_cb1, cn_pop0, cn_pops, cn_rk0, cn_rk1, cn_kcn, cn_kcs, cn_ireturn, cn_lreturn, cn_areturn, cn_return, cn_re0, cn_re1, cn_re2, cn_re3, cn_re4, cn_re5, cn_wp0, cn_wps, cn_m0, cn_m1, cn_e0, cn_en, cn_ei, cn_er, cn_eu, cn_el, cn_nl0, cn_nls, cn_nb0, cn_nb1, cn_nb2, cn_nb3, cn_bd0, cn_bds, cn_cwi, cn_cwr, cn_cwl, cn_cwn, cn_wi2, cn_wl1, cn_wl3, cn_wr1, cn_wr2, cn_wi_eq, cn_wl_eq, cb_0, cb_n0, cb_b, cm_okb0, cm_okb1, Classical.not_not, true_and, and_true, Nat.reduceAdd, Nat.reduceSub, Nat.reduceLT, Nat.reduceLeDiff, Int.reduceToNat, Int.reduceNatCast', Nat.zero_le, Nat.reduceEqDiff, false_or, or_false, or_true, true_or, Int.reduceNeg, reduceCtorEq, false_implies, implies_true, forall_const, true_implies, not_true_eq_false, not_false_eq_true, Nat.le_refl, ne_eq, if_true, if_false, ite_true, ite_false, List.cons_append, List.nil_append]
    have e : (0 ≤ r.toInt ∧ r.toInt ≤ 3) = (0 ≤ r.toInt ∧ r.toInt < 4) := propext ⟨fun h => by omega, fun h => by omega⟩
    rw [e]
    exact ⟨cb_o, hS⟩
def SX7_isVersion : cm_CT := fun as T M Φ => match as with
  | [.ref m, .int v] => MD T M m ∧ Φ (some (.int (cb (0 ≤ v.toInt ∧ v.toInt < ((mbk M m).1 : Int))))) T M
  | _ => False
def JX7_isVersion : cm_J := (7, false, 2, [], [(79, 3, 0, 0, 0, SX7_in)], [])
theorem jX7_isVersion : JX7_isVersion.1 = 7 ∧ JX7_isVersion.2.1 = false ∧ JX7_isVersion.2.2.1 = 2 ∧ cm_gs JX7_isVersion 79 = some (3, 0, 0, 0, SX7_in) := ⟨rfl, rfl, rfl, rfl⟩
theorem eX7_isVersion (d : Nat) (hd : 1 ≤ d) : cm_Cok d JX7_isVersion := ⟨(fun q h => by cases h), (List.forall_mem_cons.mpr ⟨q7_79 (mX7_in (d - 1) (by omega)) (by omega), (fun q h => by cases h)⟩), (fun q h => by cases h)⟩
set_option maxHeartbeats 4000000 in
theorem mX7_isVersion (d : Nat) (hd : 1 ≤ d) : cm_Met d yX7_isVersion cX7_isVersion 2 (some .boolean) 0 0 SX7_isVersion := by
  refine cm_meets (J := JX7_isVersion) (by decide) rfl (fun h => by cases h) trivial ?_
  intro as T M Φ hS
  match as, hS with
  | [.ref m0, .int v], ⟨hD, hS⟩ =>
    refine ⟨Nat.le_of_ble_eq_true rfl, ?_⟩
    obtain ⟨m, hm⟩ : ∃ m : Nat, m = m0 := ⟨m0, rfl⟩
    subst hm
    have hT := hD.1
    obtain ⟨k0, ⟨r0, r2, r3, r6, r9, r10, r11, r12, r13, r14, r15, r16, r17, r18, r19, r22, r25, r26, r27⟩, ⟨c1, c2, c3, c4, c5, c6, c7, c8, c9, c10, c11, c12, c13, c14, c15, c16, c17, c18, c19⟩, ⟨l1, l2, l3, l4, l5, l6, l7, l8, l9, l10, l11, l12, l13, l14, l15, l16, l17, l18, l19⟩⟩ := id hT
    have e0 : (w3 0).toInt = 0 := by decide
    have n0 := hD.2.1.1
    have n16 : (M.1 m 1).toInt.toNat ≤ 16 := hD.2.1.2.1.1.1
    have e1 : (M.1 m 1 - w3 1).toInt = (M.1 m 1).toInt - 1 := by
      conv => lhs; rw [← w3_self (M.1 m 1)]
      rw [w3_sub, w3_toInt (by omega) (by omega)]
    refine cm_go hX7_isVersion 200 oX7_isVersion (eX7_isVersion d hd) lX7_isVersion_0 ?_
    simp only [jX7_isVersion, kX7_isVersion_0, fl_7_155, SX7_in, e0, e1, k0, r0, r2, r3, r6, r9, r10, r11, r12, r13, r14, r15, r16, r17, r18, r19, r22, r25, r26, r27, c1, c2, c3, c4, c5, c6, c7, c8, c9, c10, c11, c12, c13, c14, c15, c16, c17, c18, c19, l1, l2, l3, l4, l5, l6, l7, l8, l9, l10, l11, l12, l13, l14, l15, l16, l17, l18, l19, cn_iconst, cn_lconst0, cn_lconst1, cn_null, cn_iload, cn_aload, cn_lload, cn_lo1, cn_loa1, cn_loa2, cn_lol1, cn_get0, cn_gets, cn_put0, cn_puts, cn_istore, cn_astore, cn_astoreN, cn_lstore, cn_iinc, cn_in1, cn_iadd, cn_isub, cn_imul, cn_iand, cn_ior, cn_ixor, cn_ishl, cn_ishr, cn_iushr, cn_idiv, cn_irem, cn_ladd, cn_lmul, cn_ldiv, cn_lrem, cn_i2l, cn_l2i, cn_i2b, cn_lcmp, cn_dupi, cn_dupr, cn_dup2, cn_popi, cn_popr, cn_goto, cn_if_eq, cn_if_ne, cn_if_lt, cn_if_ge, cn_if_gt, cn_if_le, cn_ic_eq, cn_ic_ne, cn_ic_lt, cn_ic_ge, cn_ic_gt, cn_ic_le, cn_ifnullN, cn_ifnullR, cn_ifnonnullN, cn_ifnonnullR, cn_tswS, cn_tsw0, cn_tsw1, cn_lswS, cn_lsw0, cn_lsw1, cn_alen, cn_iaload, cn_laload, cn_rr1, cn_rr0, cn_aaload, cn_iastore, cn_lastore, cn_aastore, cn_getfield, cn_gf0, cn_gf1, cn_gf2, cn_gf3, cn_putfield, cn_pf0f, cn_pf1f, cn_pf2f, cn_pf3f, cn_pf0t, cn_pf1t, cn_pf2t, cn_pf3t, cn_new, cn_nw1, cn_newi, cn_newl, cn_anew, cn_an1, cn_inv_v, cn_inv_s, cn_inv_p, cn_ca1, cn_cb1, cn_pop0, cn_pops, cn_rk0, cn_rk1, cn_kcn, cn_kcs, cn_ireturn, cn_lreturn, cn_areturn, cn_return, cn_re0, cn_re1, cn_re2, cn_re3, cn_re4, cn_re5, cn_wp0, cn_wps, cn_m0, cn_m1, cn_e0, cn_en, cn_ei, cn_er, cn_eu, cn_el, cn_nl0, cn_nls, cn_nb0, cn_nb1, cn_nb2, cn_nb3, cn_bd0, cn_bds, cn_cwi, cn_cwr, cn_cwl, cn_cwn, cn_wi2, cn_wl1, cn_wl3, cn_wr1, cn_wr2, cn_wi_eq, cn_wl_eq, cb_0, cb_n0, cb_b, cm_okb0, cm_okb1, Classical.not_not, true_and, and_true, Nat.reduceAdd, Nat.reduceSub, Nat.reduceLT, Nat.reduceLeDiff, Int.reduceToNat, Int.reduceNatCast', Nat.zero_le, Nat.reduceEqDiff, false_or, or_false, or_true, true_or, Int.reduceNeg, reduceCtorEq, false_implies, implies_true, forall_const, true_implies, not_true_eq_false, not_false_eq_true, Nat.le_refl, ne_eq, if_true, if_false, ite_true, ite_false, List.cons_append, List.nil_append]
    have e : (0 ≤ v.toInt ∧ v.toInt ≤ (M.1 m 1).toInt - 1) = (0 ≤ v.toInt ∧ v.toInt < ((mbk M m).1 : Int)) := by
      have : ((mbk M m).1 : Int) = (M.1 m 1).toInt := Int.toNat_of_nonneg n0
      rw [this]
      exact propext ⟨fun h => by omega, fun h => by omega⟩
    rw [e]
    exact ⟨cb_o, hS⟩
def SX7_has : cm_CT := fun as T M Φ => match as with
  | [.int x, .int k] => ∃ v : Nat, k = w3 (v : Int) ∧ v < 16 ∧ Φ (some (.int (cb (hb x (w3 (v : Int)))))) T M
  | _ => False
def JX7_has : cm_J := (7, false, 2, [], [], [])
theorem jX7_has : JX7_has.1 = 7 ∧ JX7_has.2.1 = false ∧ JX7_has.2.2.1 = 2 := ⟨rfl, rfl, rfl⟩
theorem eX7_has (d : Nat) (hd : 0 ≤ d) : cm_Cok d JX7_has := ⟨(fun q h => by cases h), (fun q h => by cases h), (fun q h => by cases h)⟩
set_option maxHeartbeats 4000000 in
theorem mX7_has (d : Nat) (hd : 0 ≤ d) : cm_Met d yX7_has cX7_has 2 (some .boolean) 0 0 SX7_has := by
  refine cm_meets (J := JX7_has) (by decide) rfl (fun h => by cases h) trivial ?_
  intro as T M Φ hS
  match as, hS with
  | [.int x, .int k], ⟨v, hk, hv, hS⟩ =>
    refine ⟨Nat.le_of_ble_eq_true rfl, ?_⟩
    subst hk
    refine cm_go hX7_has 200 oX7_has (eX7_has d hd) lX7_has_0 ?_
    simp only [jX7_has, kX7_has_0, cn_iconst, cn_lconst0, cn_lconst1, cn_null, cn_iload, cn_aload, cn_lload, cn_lo1, cn_loa1, cn_loa2, cn_lol1, cn_get0, cn_gets, cn_put0, cn_puts, cn_istore, cn_astore, cn_astoreN, cn_lstore, cn_iinc, cn_in1, cn_iadd, cn_isub, cn_imul, cn_iand, cn_ior, cn_ixor, cn_ishl, cn_ishr, cn_iushr, cn_idiv, cn_irem, cn_ladd, cn_lmul, cn_ldiv, cn_lrem, cn_i2l, cn_l2i, cn_i2b, cn_lcmp, cn_dupi, cn_dupr, cn_dup2, cn_popi, cn_popr, cn_goto, cn_if_eq, cn_if_ne, cn_if_lt, cn_if_ge, cn_if_gt, cn_if_le, cn_ic_eq, cn_ic_ne, cn_ic_lt, cn_ic_ge, cn_ic_gt, cn_ic_le, cn_ifnullN, cn_ifnullR, cn_ifnonnullN, cn_ifnonnullR, cn_tswS, cn_tsw0, cn_tsw1, cn_lswS, cn_lsw0, cn_lsw1, cn_alen, cn_iaload, cn_laload, cn_rr1, cn_rr0, cn_aaload, cn_iastore, cn_lastore, cn_aastore, cn_getfield, cn_gf0, cn_gf1, cn_gf2, cn_gf3, cn_putfield, cn_pf0f, cn_pf1f, cn_pf2f, cn_pf3f, cn_pf0t, cn_pf1t, cn_pf2t, cn_pf3t, cn_new, cn_nw1, cn_newi, cn_newl, cn_anew, cn_an1, cn_inv_v, cn_inv_s, cn_inv_p, cn_ca1, cn_cb1, cn_pop0, cn_pops, cn_rk0, cn_rk1, cn_kcn, cn_kcs, cn_ireturn, cn_lreturn, cn_areturn, cn_return, cn_re0, cn_re1, cn_re2, cn_re3, cn_re4, cn_re5, cn_wp0, cn_wps, cn_m0, cn_m1, cn_e0, cn_en, cn_ei, cn_er, cn_eu, cn_el, cn_nl0, cn_nls, cn_nb0, cn_nb1, cn_nb2, cn_nb3, cn_bd0, cn_bds, cn_cwi, cn_cwr, cn_cwl, cn_cwn, cn_wi2, cn_wl1, cn_wl3, cn_wr1, cn_wr2, cn_wi_eq, cn_wl_eq, cb_0, cb_n0, cb_b, cm_okb0, cm_okb1, Classical.not_not, true_and, and_true, Nat.reduceAdd, Nat.reduceSub, Nat.reduceLT, Nat.reduceLeDiff, Int.reduceToNat, Int.reduceNatCast', Nat.zero_le, Nat.reduceEqDiff, false_or, or_false, or_true, true_or, Int.reduceNeg, reduceCtorEq, false_implies, implies_true, forall_const, true_implies, not_true_eq_false, not_false_eq_true, Nat.le_refl, ne_eq, if_true, if_false, ite_true, ite_false, List.cons_append, List.nil_append]
    have h1 := hb_bit (x := x) hv
    have h2 : (x >>> (w3 (v : Int) &&& 31) &&& w3 1 = w3 1) ↔ ¬ (x >>> (w3 (v : Int) &&& 31) &&& w3 1 = 0) := by
      have key : x >>> (w3 (v : Int) &&& 31) &&& w3 1 = 0 ∨ x >>> (w3 (v : Int) &&& 31) &&& w3 1 = w3 1 := by
        have e := BitVec.and_one_eq_setWidth_ofBool_getLsbD (x := (x >>> (w3 (v : Int) &&& 31)).toBitVec)
        cases hq : (x >>> (w3 (v : Int) &&& 31)).toBitVec.getLsbD 0
        · left
          rw [hq] at e
          exact Int32.toBitVec_inj.mp (by rw [Int32.toBitVec_and]; exact e)
        · right
          rw [hq] at e
          exact Int32.toBitVec_inj.mp (by rw [Int32.toBitVec_and]; exact e)
      constructor
      · intro h h0
        rw [h] at h0
        exact absurd h0 (by decide)
      · intro h
        exact key.resolve_left h
    refine ⟨fun h => ?_, fun h => ?_⟩
    · rw [cb_f (show ¬ hb x (w3 (v : Int)) from fun w => h (h2.mpr w))] at hS; exact hS
    · rw [cb_t (show hb x (w3 (v : Int)) from h2.mp h)] at hS; exact hS
def SX7_tells : cm_CT := fun as T M Φ => match as with
  | [.ref m, .int v] => MD T M m ∧ ∀ M1, FrM M M1 m → MD T M1 m → mst M1 m = stO (mst M m) v → Φ (some (.int (w3 1))) T M1
  | _ => False
def JX7_tells : cm_J := (7, false, 1, [], [], [])
theorem jX7_tells : JX7_tells.1 = 7 ∧ JX7_tells.2.1 = false ∧ JX7_tells.2.2.1 = 1 := ⟨rfl, rfl, rfl⟩
theorem eX7_tells (d : Nat) (hd : 0 ≤ d) : cm_Cok d JX7_tells := ⟨(fun q h => by cases h), (fun q h => by cases h), (fun q h => by cases h)⟩
set_option maxHeartbeats 4000000 in
theorem mX7_tells (d : Nat) (hd : 0 ≤ d) : cm_Met d yX7_tells cX7_tells 2 (some .int) 0 0 SX7_tells := by
  refine cm_meets (J := JX7_tells) (by decide) rfl (fun h => by cases h) trivial ?_
  intro as T M Φ hS
  match as, hS with
  | [.ref m0, .int v], ⟨hD, hS⟩ =>
    refine ⟨Nat.le_of_ble_eq_true rfl, ?_⟩
    obtain ⟨m, hm⟩ : ∃ m : Nat, m = m0 := ⟨m0, rfl⟩
    subst hm
    have k0 := hD.1.1
    refine cm_go hX7_tells 200 oX7_tells (eX7_tells d hd) lX7_tells_0 ?_
    simp only [jX7_tells, kX7_tells_0, fl_7_72, k0, cn_iconst, cn_lconst0, cn_lconst1, cn_null, cn_iload, cn_aload, cn_lload, cn_lo1, cn_loa1, cn_loa2, cn_lol1, cn_get0, cn_gets, cn_put0, cn_puts, cn_istore, cn_astore, cn_astoreN, cn_lstore, cn_iinc, cn_in1, cn_iadd, cn_isub, cn_imul, cn_iand, cn_ior, cn_ixor, cn_ishl, cn_ishr, cn_iushr, cn_idiv, cn_irem, cn_ladd, cn_lmul, cn_ldiv, cn_lrem, cn_i2l, cn_l2i, cn_i2b, cn_lcmp, cn_dupi, cn_dupr, cn_dup2, cn_popi, cn_popr, cn_goto, cn_if_eq, cn_if_ne, cn_if_lt, cn_if_ge, cn_if_gt, cn_if_le, cn_ic_eq, cn_ic_ne, cn_ic_lt, cn_ic_ge, cn_ic_gt, cn_ic_le, cn_ifnullN, cn_ifnullR, cn_ifnonnullN, cn_ifnonnullR, cn_tswS, cn_tsw0, cn_tsw1, cn_lswS, cn_lsw0, cn_lsw1, cn_alen, cn_iaload, cn_laload, cn_rr1, cn_rr0, cn_aaload, cn_iastore, cn_lastore, cn_aastore, cn_getfield, cn_gf0, cn_gf1, cn_gf2, cn_gf3, cn_putfield, cn_pf0f, cn_pf1f, cn_pf2f, cn_pf3f, cn_pf0t, cn_pf1t, cn_pf2t, cn_pf3t, cn_new, cn_nw1, cn_newi, cn_newl, cn_anew, cn_an1, cn_inv_v, cn_inv_s, cn_inv_p, cn_ca1, cn_cb1, cn_pop0, cn_pops, cn_rk0, cn_rk1, cn_kcn, cn_kcs, cn_ireturn, cn_lreturn, cn_areturn, cn_return, cn_re0, cn_re1, cn_re2, cn_re3, cn_re4, cn_re5, cn_wp0, cn_wps, cn_m0, cn_m1, cn_e0, cn_en, cn_ei, cn_er, cn_eu, cn_el, cn_nl0, cn_nls, cn_nb0, cn_nb1, cn_nb2, cn_nb3, cn_bd0, cn_bds, cn_cwi, cn_cwr, cn_cwl, cn_cwn, cn_wi2, cn_wl1, cn_wl3, cn_wr1, cn_wr2, cn_wi_eq, cn_wl_eq, cb_0, cb_n0, cb_b, cm_okb0, cm_okb1, Classical.not_not, true_and, and_true, Nat.reduceAdd, Nat.reduceSub, Nat.reduceLT, Nat.reduceLeDiff, Int.reduceToNat, Int.reduceNatCast', Nat.zero_le, Nat.reduceEqDiff, false_or, or_false, or_true, true_or, Int.reduceNeg, reduceCtorEq, false_implies, implies_true, forall_const, true_implies, not_true_eq_false, not_false_eq_true, Nat.le_refl, ne_eq, if_true, if_false, ite_true, ite_false, List.cons_append, List.nil_append]
    obtain ⟨c1, c2, c3⟩ := md_tell (v := v) hD
    exact hS _ c2 c1 c3
def SX7_finds : cm_CT := fun as T M Φ => match as with
  | [.ref m, .int v] => ∃ κ : Nat, MD T M m ∧ v = w3 (κ : Int) ∧ 1 ≤ κ ∧ κ ≤ 5 ∧ ∀ M1, FrM M M1 m → MD T M1 m → mst M1 m = stF (mst M m) v → Φ (some (.int (w3 (-3)))) T M1
  | _ => False
def JX7_finds : cm_J := (7, false, 1, [], [], [])
theorem jX7_finds : JX7_finds.1 = 7 ∧ JX7_finds.2.1 = false ∧ JX7_finds.2.2.1 = 1 := ⟨rfl, rfl, rfl⟩
theorem eX7_finds (d : Nat) (hd : 0 ≤ d) : cm_Cok d JX7_finds := ⟨(fun q h => by cases h), (fun q h => by cases h), (fun q h => by cases h)⟩
set_option maxHeartbeats 4000000 in
theorem mX7_finds (d : Nat) (hd : 0 ≤ d) : cm_Met d yX7_finds cX7_finds 2 (some .int) 0 0 SX7_finds := by
  refine cm_meets (J := JX7_finds) (by decide) rfl (fun h => by cases h) trivial ?_
  intro as T M Φ hS
  match as, hS with
  | [.ref m0, .int v], ⟨κ, hD, hv, h1, h5, hS⟩ =>
    refine ⟨Nat.le_of_ble_eq_true rfl, ?_⟩
    obtain ⟨m, hm⟩ : ∃ m : Nat, m = m0 := ⟨m0, rfl⟩
    subst hm
    subst hv
    have hT := hD.1
    obtain ⟨k0, ⟨r0, r2, r3, r6, r9, r10, r11, r12, r13, r14, r15, r16, r17, r18, r19, r22, r25, r26, r27⟩, ⟨c1, c2, c3, c4, c5, c6, c7, c8, c9, c10, c11, c12, c13, c14, c15, c16, c17, c18, c19⟩, ⟨l1, l2, l3, l4, l5, l6, l7, l8, l9, l10, l11, l12, l13, l14, l15, l16, l17, l18, l19⟩⟩ := id hT
    obtain ⟨a1, a2, a3⟩ := md_fin (v := w3 (κ : Int)) hD
    have ek : (w3 (κ : Int)).toInt = (κ : Int) := w3_toInt (by omega) (by omega)
    have ix : cm_ix (w3 (κ : Int)) 6 := by rw [w3_ix (by omega) (by omega)]; exact ⟨by omega, by omega⟩
    have ew : (cm_wi M m 5 (w3 (κ : Int))).1 (m + 4) (κ : Int) = (mst M m).2.2.2.2.2.2.2.2 κ := by
      rw [cn_wi_ne (Or.inl (by omega))]
      show _ = mCt M m κ
      unfold mCt
      rw [if_pos (by omega)]
    refine cm_go hX7_finds 200 oX7_finds (eX7_finds d hd) lX7_finds_0 ?_
    simp only [jX7_finds, kX7_finds_0, fl_7_76, fl_7_19, ek, ix, ew, k0, r0, r2, r3, r6, r9, r10, r11, r12, r13, r14, r15, r16, r17, r18, r19, r22, r25, r26, r27, c1, c2, c3, c4, c5, c6, c7, c8, c9, c10, c11, c12, c13, c14, c15, c16, c17, c18, c19, l1, l2, l3, l4, l5, l6, l7, l8, l9, l10, l11, l12, l13, l14, l15, l16, l17, l18, l19, cn_iconst, cn_lconst0, cn_lconst1, cn_null, cn_iload, cn_aload, cn_lload, cn_lo1, cn_loa1, cn_loa2, cn_lol1, cn_get0, cn_gets, cn_put0, cn_puts, cn_istore, cn_astore, cn_astoreN, cn_lstore, cn_iinc, cn_in1, cn_iadd, cn_isub, cn_imul, cn_iand, cn_ior, cn_ixor, cn_ishl, cn_ishr, cn_iushr, cn_idiv, cn_irem, cn_ladd, cn_lmul, cn_ldiv, cn_lrem, cn_i2l, cn_l2i, cn_i2b, cn_lcmp, cn_dupi, cn_dupr, cn_dup2, cn_popi, cn_popr, cn_goto, cn_if_eq, cn_if_ne, cn_if_lt, cn_if_ge, cn_if_gt, cn_if_le, cn_ic_eq, cn_ic_ne, cn_ic_lt, cn_ic_ge, cn_ic_gt, cn_ic_le, cn_ifnullN, cn_ifnullR, cn_ifnonnullN, cn_ifnonnullR, cn_tswS, cn_tsw0, cn_tsw1, cn_lswS, cn_lsw0, cn_lsw1, cn_alen, cn_iaload, cn_laload, cn_rr1, cn_rr0, cn_aaload, cn_iastore, cn_lastore, cn_aastore, cn_getfield, cn_gf0, cn_gf1, cn_gf2, cn_gf3, cn_putfield, cn_pf0f, cn_pf1f, cn_pf2f, cn_pf3f, cn_pf0t, cn_pf1t, cn_pf2t, cn_pf3t, cn_new, cn_nw1, cn_newi, cn_newl, cn_anew, cn_an1, cn_inv_v, cn_inv_s, cn_inv_p, cn_ca1, cn_cb1, cn_pop0, cn_pops, cn_rk0, cn_rk1, cn_kcn, cn_kcs, cn_ireturn, cn_lreturn, cn_areturn, cn_return, cn_re0, cn_re1, cn_re2, cn_re3, cn_re4, cn_re5, cn_wp0, cn_wps, cn_m0, cn_m1, cn_e0, cn_en, cn_ei, cn_er, cn_eu, cn_el, cn_nl0, cn_nls, cn_nb0, cn_nb1, cn_nb2, cn_nb3, cn_bd0, cn_bds, cn_cwi, cn_cwr, cn_cwl, cn_cwn, cn_wi2, cn_wl1, cn_wl3, cn_wr1, cn_wr2, cn_wi_eq, cn_wl_eq, cb_0, cb_n0, cb_b, cm_okb0, cm_okb1, Classical.not_not, true_and, and_true, Nat.reduceAdd, Nat.reduceSub, Nat.reduceLT, Nat.reduceLeDiff, Int.reduceToNat, Int.reduceNatCast', Nat.zero_le, Nat.reduceEqDiff, false_or, or_false, or_true, true_or, Int.reduceNeg, reduceCtorEq, false_implies, implies_true, forall_const, true_implies, not_true_eq_false, not_false_eq_true, Nat.le_refl, ne_eq, if_true, if_false, ite_true, ite_false, List.cons_append, List.nil_append]
    obtain ⟨b1, b2, b3⟩ := md_ct (v := (mst M m).2.2.2.2.2.2.2.2 κ + w3 1) a1 (show κ < 6 by omega)
    refine hS _ (a2.trans b2) b1 ?_
    rw [b3, a3]
    unfold stF
    dsimp only
    rw [if_pos (by rw [w3_le (by omega) (by omega) (by omega) (by omega), w3_le (by omega) (by omega) (by omega) (by omega)]; omega), ek, show ((κ : Int)).toNat = κ by omega]

def TLL (T : cm_T) (R : Nat → Int → Option Nat) (a : Nat) : Prop := T.1 a = 2 ∧ R a 0 = some (a + 1) ∧ T.1 (a + 1) = 20 ∧ T.2.1 (a + 1) = 120 ∧ R a 1 = some (a + 2) ∧ T.1 (a + 2) = 20 ∧ T.2.1 (a + 2) = 121
/-- the lines of the first n numbers of D are laid -/
def LLp (M : cm_M) (a : Nat) (D : List Int32) (n : Nat) : Prop := (∀ j : Nat, j < n → M.1 (a + 1) (j : Int) = gt D j) ∧ M.1 a 2 = w3 ((zc D (n + 1) : Int) - 1) ∧ ∀ j : Nat, j ≤ n → dp D j = 0 → M.1 (a + 2) (zc D j : Int) = w3 (j : Int)
def LLs (T : cm_T) (M : cm_M) (a : Nat) (D : List Int32) : Prop := TLL T M.2.2 a ∧ LLp M a D D.length ∧ Bal D ∧ D.length ≤ 120
theorem LLp.frame {M M' : cm_M} {a n lo m : Nat} {D : List Int32} (h : LLp M a D n) (hF : Fr M M' lo m) (hd : a + 3 ≤ lo ∨ lo + m ≤ a) : LLp M' a D n := by
  unfold LLp
  rw [hF.1 a (by omega), hF.1 (a + 1) (by omega), hF.1 (a + 2) (by omega)]
  exact h
theorem LLs.frame {T : cm_T} {M M' : cm_M} {a lo m : Nat} {D : List Int32} (h : LLs T M a D) (hF : Fr M M' lo m) (hd : a + 3 ≤ lo ∨ lo + m ≤ a) : LLs T M' a D := ⟨by rw [hF.2]; exact h.1, h.2.1.frame hF hd, h.2.2⟩
theorem LLs.sz {T : cm_T} {M : cm_M} {a : Nat} {D : List Int32} (h : LLs T M a D) : M.1 a 2 = w3 (nl D : Int) := by
  rw [h.2.1.2.1, nl_len h.2.2.1]
  congr 1
  omega
theorem LLs.st {T : cm_T} {M : cm_M} {a : Nat} {D : List Int32} (h : LLs T M a D) {i : Nat} (hi : i ≤ nl D) : M.1 (a + 2) (i : Int) = w3 (stt D i : Int) := by
  obtain ⟨s1, s2, s3⟩ := stt_spec h.2.2.1 hi
  have := h.2.1.2.2 (stt D i) s1 s2
  rw [s3] at this
  exact this
theorem nl_120 {D : List Int32} (h : D.length ≤ 120) : nl D ≤ 120 := Nat.le_trans (nl_le D _) h
theorem dp_cong {L L' : List Int32} : ∀ k : Nat, (∀ j, j < k → gt L j = gt L' j) → dp L k = dp L' k
  | 0, _ => rfl
  | k + 1, h => by
    simp only [dp]
    rw [dp_cong k (fun j hj => h j (by omega)), h k (by omega)]
theorem zc_cong {L L' : List Int32} : ∀ k : Nat, (∀ j, j < k → gt L j = gt L' j) → zc L k = zc L' k
  | 0, _ => rfl
  | k + 1, h => by
    simp only [zc]
    rw [zc_cong k (fun j hj => h j (by omega)), dp_cong k (fun j hj => h j (by omega))]
theorem gt_apl {L L' : List Int32} {k : Nat} (h : k < L.length) : gt (L ++ L') k = gt L k := by
  unfold gt
  rw [List.getD_eq_getElem?_getD, List.getD_eq_getElem?_getD, List.getElem?_append_left h]
theorem gt_apr {L L' : List Int32} {k : Nat} : gt (L ++ L') (L.length + k) = gt L' k := by
  unfold gt
  rw [List.getD_eq_getElem?_getD, List.getD_eq_getElem?_getD, List.getElem?_append_right (by omega), Nat.add_sub_cancel_left]
theorem dp_apl {L L' : List Int32} {k : Nat} (h : k ≤ L.length) : dp (L ++ L') k = dp L k := dp_cong k (fun j hj => gt_apl (by omega))
theorem dp_apr {L L' : List Int32} (hb : dp L L.length = 0) : ∀ k : Nat, dp (L ++ L') (L.length + k) = dp L' k
  | 0 => by rw [Nat.add_zero, dp_apl (Nat.le_refl _), hb]; rfl
  | k + 1 => by
    show dp (L ++ L') (L.length + k) + dstep (gt (L ++ L') (L.length + k)) = dp L' k + dstep (gt L' k)
    rw [dp_apr hb k, gt_apr]
theorem Bal_app {L L' : List Int32} (h : Bal L) (h' : Bal L') : Bal (L ++ L') := by
  refine ⟨fun k hk => ?_, ?_⟩
  · rw [List.length_append] at hk
    rcases Nat.le_total k L.length with q | q
    · rw [dp_apl q]; exact h.1 k q
    · rw [show k = L.length + (k - L.length) by omega, dp_apr h.2]
      exact h'.1 _ (by omega)
  · rw [List.length_append, dp_apr h.2]; exact h'.2
theorem Bal_nil : Bal [] := ⟨fun k hk => by simp at hk; subst hk; exact Int.le_refl _, rfl⟩
theorem LLp_app {M : cm_M} {a : Nat} {D L : List Int32} (h : LLp M a D D.length) : LLp M a (D ++ L) D.length := by
  have zz : ∀ j : Nat, j ≤ D.length → zc (D ++ L) j = zc D j := fun j hj => zc_cong j (fun i hi => gt_apl (by omega))
  have zz1 : zc (D ++ L) (D.length + 1) = zc D (D.length + 1) := by
    simp only [zc]
    rw [zz _ (Nat.le_refl _), dp_apl (Nat.le_refl _)]
  refine ⟨fun j hj => by rw [gt_apl hj]; exact h.1 j hj, by rw [zz1]; exact h.2.1, fun j hj hd => ?_⟩
  rw [zz j hj]
  exact h.2.2 j hj (by rw [← dp_apl hj]; exact hd)
/-- one number more is laid -/
theorem LLp_s0 {M : cm_M} {a n : Nat} {D : List Int32} (h : LLp M a D n) (hd : ¬ dp D (n + 1) = 0) : LLp (cm_wi M (a + 1) (n : Int) (gt D n)) a D (n + 1) := by
  refine ⟨fun j hj => ?_, ?_, fun j hj hz => ?_⟩
  · by_cases e : j = n
    · subst e; exact cn_wi_eq
    · rw [cn_wi_ne (Or.inr (by omega))]; exact h.1 j (by omega)
  · rw [cn_wi_ne (Or.inl (by omega)), h.2.1]
    have : zc D (n + 1 + 1) = zc D (n + 1) := by
      show zc D (n + 1) + _ = _
      rw [if_neg hd]; rfl
    rw [this]
  · have e : j ≠ n + 1 := fun q => hd (q ▸ hz)
    rw [cn_wi_ne (Or.inl (by omega))]
    exact h.2.2 j (by omega) hz
theorem LLp_s1 {M : cm_M} {a n : Nat} {D : List Int32} (h : LLp M a D n) (hd : dp D (n + 1) = 0) : LLp (cm_wi (cm_wi (cm_wi M (a + 1) (n : Int) (gt D n)) a 2 (w3 (zc D (n + 1) : Int))) (a + 2) (zc D (n + 1) : Int) (w3 ((n : Int) + 1))) a D (n + 1) := by
  refine ⟨fun j hj => ?_, ?_, fun j hj hz => ?_⟩
  · rw [cn_wi_ne (Or.inl (by omega)), cn_wi_ne (Or.inl (by omega))]
    by_cases e : j = n
    · subst e; exact cn_wi_eq
    · rw [cn_wi_ne (Or.inr (by omega))]; exact h.1 j (by omega)
  · rw [cn_wi_ne (Or.inl (by omega)), cn_wi_eq]
    have : zc D (n + 1 + 1) = zc D (n + 1) + 1 := by
      show zc D (n + 1) + _ = _
      rw [if_pos hd]
    rw [this]
    congr 1
    omega
  · by_cases e : j = n + 1
    · subst e
      rw [cn_wi_eq]
      congr 1
    · have hl := zc_lt D (show j < n + 1 by omega) hz
      rw [cn_wi_ne (Or.inr (by omega)), cn_wi_ne (Or.inl (by omega)), cn_wi_ne (Or.inl (by omega))]
      exact h.2.2 j (by omega) hz
def ap3 (f a : Nat) (M : cm_M) : Prop := (f + 1 ≤ a ∨ a + 3 ≤ f) ∧ (pl M f + 1 ≤ a ∨ a + 3 ≤ pl M f)
def SX1_add : cm_CT := fun as T M Φ => match as with
  | [.ref a, .ref f] => ∃ (D L : List Int32), LLs T M a D ∧ Sg T M f ∧ ap3 f a M ∧ cnt (fl M f) = L ∧ Bal L ∧ D.length + L.length ≤ 120 ∧ ∀ M1, Fr M M1 a 3 → LLs T M1 a (D ++ L) → Φ none T M1
  | _ => False
def JX1_add : cm_J := (1, false, 0, [], [], [])
theorem jX1_add : JX1_add.1 = 1 ∧ JX1_add.2.1 = false ∧ JX1_add.2.2.1 = 0 := ⟨rfl, rfl, rfl⟩
theorem eX1_add (d : Nat) (hd : 0 ≤ d) : cm_Cok d JX1_add := ⟨(fun q h => by cases h), (fun q h => by cases h), (fun q h => by cases h)⟩
set_option maxHeartbeats 4000000 in
theorem lX1_add (d : Nat) (hd : 0 ≤ d) {T : cm_T} {M : cm_M} {Φ : Option Value → cm_T → cm_M → Prop} {a f : Nat} {D L : List Int32} (hll : TLL T M.2.2 a) (hg : Sg T M f) (ha : ap3 f a M) (hL : fl M f = some L) (hD : D.length + L.length ≤ 120) (hDb : dp D D.length = 0) (hS : ∀ M1, Fr M M1 a 3 → LLp M1 a (D ++ L) (D.length + L.length) → Φ none T M1) :
    ∀ (k : Nat) (M1 : cm_M) (o5 : Option Value), k ≤ L.length → Fr M M1 a 3 → LLp M1 a (D ++ L) (D.length + k) → cm_Go d cX1_add 6 0 0 JX1_add Φ 15 [some (.ref a), some (.ref f), some (.int (w3 ((D.length + k : Nat) : Int))), some (.int (w3 (dp L k))), some (.int (w3 k)), o5] [] (0, 0) T M1 := by
  intro k
  induction hf : (L.length - k) using Nat.strongRecOn generalizing k with
  | _ fu ih =>
    intro M1 o5 k1 hF hP
    obtain ⟨hz, h60, hat⟩ := Sg_len hg hL
    obtain ⟨t1, t2, t3, t4, t5, t6, t7⟩ := hll
    obtain ⟨j1, j2⟩ := ha
    have hsz : M1.1 f 1 = w3 (L.length : Int) := by rw [hF.1 f (by omega), sz_w, hz]
    obtain ⟨h1, h2, h3, h4, h5, h6⟩ := id hg
    have b1 := dp_bd L k
    have e2 : M1.2 = M.2 := hF.2
    have ra : ∀ j : Int, M1.1 (pl M f) j = M.1 (pl M f) j := fun j => by rw [hF.1 _ (by omega)]
    have zb := nl_le (D ++ L) (D.length + k + 1)
    have dpe : dp (D ++ L) (D.length + k + 1) = dp L (k + 1) := dp_apr hDb (k + 1)
    have gte : gt (D ++ L) (D.length + k) = gt L k := gt_apr
    have hs2 := hP.2.1
    have z1 : 1 ≤ zc (D ++ L) (D.length + k + 1) := by
      have := zc_lt (D ++ L) (show 0 < D.length + k + 1 by omega) rfl
      omega
    refine cm_go hX1_add 200 oX1_add (eX1_add d hd) lX1_add_15 ?_
    simp only [jX1_add, kX1_add_0, fl_1_15, fl_1_18, fl_1_32, fl_1_9, fl_1_35, t1, t2, t3, t4, t5, t6, t7, h1, h2, h3, e2, hsz, ra, hs2, cn_iconst, cn_lconst0, cn_lconst1, cn_null, cn_iload, cn_aload, cn_lload, cn_lo1, cn_loa1, cn_loa2, cn_lol1, cn_get0, cn_gets, cn_put0, cn_puts, cn_istore, cn_astore, cn_astoreN, cn_lstore, cn_iinc, cn_in1, cn_iadd, cn_isub, cn_imul, cn_iand, cn_ior, cn_ixor, cn_ishl, cn_ishr, cn_iushr, cn_idiv, cn_irem, cn_ladd, cn_lmul, cn_ldiv, cn_lrem, cn_i2l, cn_l2i, cn_i2b, cn_lcmp, cn_dupi, cn_dupr, cn_dup2, cn_popi, cn_popr, cn_goto, cn_if_eq, cn_if_ne, cn_if_lt, cn_if_ge, cn_if_gt, cn_if_le, cn_ic_eq, cn_ic_ne, cn_ic_lt, cn_ic_ge, cn_ic_gt, cn_ic_le, cn_ifnullN, cn_ifnullR, cn_ifnonnullN, cn_ifnonnullR, cn_tswS, cn_tsw0, cn_tsw1, cn_lswS, cn_lsw0, cn_lsw1, cn_alen, cn_iaload, cn_laload, cn_rr1, cn_rr0, cn_aaload, cn_iastore, cn_lastore, cn_aastore, cn_getfield, cn_gf0, cn_gf1, cn_gf2, cn_gf3, cn_putfield, cn_pf0f, cn_pf1f, cn_pf2f, cn_pf3f, cn_pf0t, cn_pf1t, cn_pf2t, cn_pf3t, cn_new, cn_nw1, cn_newi, cn_newl, cn_anew, cn_an1, cn_inv_v, cn_inv_s, cn_inv_p, cn_ca1, cn_cb1, cn_pop0, cn_pops, cn_rk0, cn_rk1, cn_kcn, cn_kcs, cn_ireturn, cn_lreturn, cn_areturn, cn_return, cn_re0, cn_re1, cn_re2, cn_re3, cn_re4, cn_re5, cn_wp0, cn_wps, cn_m0, cn_m1, cn_e0, cn_en, cn_ei, cn_er, cn_eu, cn_el, cn_nl0, cn_nls, cn_nb0, cn_nb1, cn_nb2, cn_nb3, cn_bd0, cn_bds, cn_cwi, cn_cwr, cn_cwl, cn_cwn, cn_wi2, cn_wl1, cn_wl3, cn_wr1, cn_wr2, cn_wi_eq, cn_wl_eq, cb_0, cb_n0, cb_b, cm_okb0, cm_okb1, Classical.not_not, true_and, and_true, Nat.reduceAdd, Nat.reduceSub, Nat.reduceLT, Nat.reduceLeDiff, Int.reduceToNat, Int.reduceNatCast', Nat.zero_le, Nat.reduceEqDiff, false_or, or_false, or_true, true_or, Int.reduceNeg, reduceCtorEq, false_implies, implies_true, forall_const, true_implies, not_true_eq_false, not_false_eq_true, Nat.le_refl, ne_eq, if_true, if_false, ite_true, ite_false, List.cons_append, List.nil_append]
    simp (disch := omega) only [w3_le, w3_lt, w3_eq, w3_ix, w3_add, w3_sub, w3_mul, w3_toInt, w3_z]
    refine ⟨fun h => ?_, fun h => ⟨fun h7 => by omega, fun h7 => ?_⟩⟩
    · have e : k = L.length := by omega
      subst e
      exact hS M1 hF hP
    · have hk : k < L.length := by omega
      rw [hat k hk]
      refine ⟨⟨by omega, by omega⟩, ⟨by omega, by omega⟩, ?_⟩
      have c1 : dp L (k + 1) = dp L k + dstep (gt L k) := rfl
      have ek : (((D.length + (k + 1) : Nat)) : Int) = ((D.length + k : Nat) : Int) + 1 := by omega
      have ek2 : (((k + 1 : Nat)) : Int) = (k : Int) + 1 := by omega
      have key := fun M2 o => ih _ (show L.length - (k + 1) < fu by omega) (k + 1) rfl M2 o (by omega)
      rw [ek, ek2] at key
      have s0 := LLp_s0 (M := M1) hP
      have s1 := LLp_s1 (M := M1) hP
      rw [gte, dpe] at s0 s1
      have F0 : Fr M (cm_wi M1 (a + 1) ((D.length + k : Nat) : Int) (gt L k)) a 3 := hF.trans (Fr.wi (by omega) (by omega))
      have ne1 : (cm_wi M1 (a + 1) ((D.length + k : Nat) : Int) (gt L k)).1 a 2 = w3 ((zc (D ++ L) (D.length + k + 1) : Int) - 1) := by rw [cn_wi_ne (Or.inl (by omega)), hs2]
      have F1 : Fr M (cm_wi (cm_wi (cm_wi M1 (a + 1) ((D.length + k : Nat) : Int) (gt L k)) a 2 (w3 (zc (D ++ L) (D.length + k + 1) : Int))) (a + 2) (zc (D ++ L) (D.length + k + 1) : Int) (w3 (((D.length + k : Nat) : Int) + 1))) a 3 := F0.trans ((Fr.wi (by omega) (by omega)).trans (Fr.wi (by omega) (by omega)))
      have es : (zc (D ++ L) (D.length + k + 1) : Int) - 1 + 1 = (zc (D ++ L) (D.length + k + 1) : Int) := by omega
      rw [c1] at key s0 s1
      simp only [ne1, cn_wi_eq, w3_add, es]
      simp (disch := omega) only [w3_toInt, w3_ix]
      generalize gt L k = x at *
      have g : ∀ dd, dstep x = dd → (¬ dp L k + dd = 0 → cm_Go d cX1_add 6 0 0 JX1_add Φ 15 [some (.ref a), some (.ref f), some (.int (w3 (((D.length + k : Nat) : Int) + 1))), some (.int (w3 (dp L k + dd))), some (.int (w3 ((k : Int) + 1))), some (.int x)] [] (0, 0) T (cm_wi M1 (a + 1) ((D.length + k : Nat) : Int) x)) ∧ (dp L k + dd = 0 → ((0 : Int) ≤ (zc (D ++ L) (D.length + k + 1) : Int) ∧ (zc (D ++ L) (D.length + k + 1) : Int) < ((121 : Nat) : Int)) ∧ cm_Go d cX1_add 6 0 0 JX1_add Φ 15 [some (.ref a), some (.ref f), some (.int (w3 (((D.length + k : Nat) : Int) + 1))), some (.int (w3 (dp L k + dd))), some (.int (w3 ((k : Int) + 1))), some (.int x)] [] (0, 0) T (cm_wi (cm_wi (cm_wi M1 (a + 1) ((D.length + k : Nat) : Int) x) a 2 (w3 (zc (D ++ L) (D.length + k + 1) : Int))) (a + 2) (zc (D ++ L) (D.length + k + 1) : Int) (w3 (((D.length + k : Nat) : Int) + 1)))) := by
        intro dd e
        rw [e] at key s0 s1
        exact ⟨fun q => key _ _ F0 (s0 q), fun q => ⟨⟨by omega, by omega⟩, key _ _ F1 (s1 q)⟩⟩
      refine ⟨fun c10 => ⟨fun c13 => ?_, fun c13 => ?_⟩, fun c10 => ?_⟩
      · have := g 0 (by unfold dstep; rw [if_neg c10, if_neg c13])
        simp only [Int.add_zero] at this
        exact this
      · exact g (-1) (by unfold dstep; rw [if_neg c10, if_pos c13])
      · exact g 1 (by unfold dstep; rw [if_pos c10])
set_option maxHeartbeats 4000000 in
theorem mX1_add (d : Nat) (hd : 0 ≤ d) : cm_Met d yX1_add cX1_add 6 none 0 0 SX1_add := by
  refine cm_meets (J := JX1_add) (by decide) rfl (fun h => by cases h) trivial ?_
  intro as T M Φ hS
  match as, hS with
  | [.ref a, .ref f], ⟨D, L, hll, hg, ha, hc, hb, hD, hS⟩ =>
    refine ⟨Nat.le_of_ble_eq_true rfl, ?_⟩
    have hst := hll.st (i := nl D) (Nat.le_refl _)
    have hs2 := hll.sz
    have n120 := nl_120 hll.2.2.2
    obtain ⟨hT, hp, hbD, h120⟩ := id hll
    obtain ⟨t1, t2, t3, t4, t5, t6, t7⟩ := id hT
    rw [stt_n hbD] at hst
    have ht : (w3 (nl D : Int)).toInt = (nl D : Int) := w3_toInt (by omega) (by omega)
    refine cm_go hX1_add 200 oX1_add (eX1_add d hd) lX1_add_0 ?_
    simp only [jX1_add, kX1_add_0, fl_1_15, fl_1_18, fl_1_32, fl_1_9, fl_1_35, t1, t2, t3, t4, t5, t6, t7, hs2, ht, hst, cn_iconst, cn_lconst0, cn_lconst1, cn_null, cn_iload, cn_aload, cn_lload, cn_lo1, cn_loa1, cn_loa2, cn_lol1, cn_get0, cn_gets, cn_put0, cn_puts, cn_istore, cn_astore, cn_astoreN, cn_lstore, cn_iinc, cn_in1, cn_iadd, cn_isub, cn_imul, cn_iand, cn_ior, cn_ixor, cn_ishl, cn_ishr, cn_iushr, cn_idiv, cn_irem, cn_ladd, cn_lmul, cn_ldiv, cn_lrem, cn_i2l, cn_l2i, cn_i2b, cn_lcmp, cn_dupi, cn_dupr, cn_dup2, cn_popi, cn_popr, cn_goto, cn_if_eq, cn_if_ne, cn_if_lt, cn_if_ge, cn_if_gt, cn_if_le, cn_ic_eq, cn_ic_ne, cn_ic_lt, cn_ic_ge, cn_ic_gt, cn_ic_le, cn_ifnullN, cn_ifnullR, cn_ifnonnullN, cn_ifnonnullR, cn_tswS, cn_tsw0, cn_tsw1, cn_lswS, cn_lsw0, cn_lsw1, cn_alen, cn_iaload, cn_laload, cn_rr1, cn_rr0, cn_aaload, cn_iastore, cn_lastore, cn_aastore, cn_getfield, cn_gf0, cn_gf1, cn_gf2, cn_gf3, cn_putfield, cn_pf0f, cn_pf1f, cn_pf2f, cn_pf3f, cn_pf0t, cn_pf1t, cn_pf2t, cn_pf3t, cn_new, cn_nw1, cn_newi, cn_newl, cn_anew, cn_an1, cn_inv_v, cn_inv_s, cn_inv_p, cn_ca1, cn_cb1, cn_pop0, cn_pops, cn_rk0, cn_rk1, cn_kcn, cn_kcs, cn_ireturn, cn_lreturn, cn_areturn, cn_return, cn_re0, cn_re1, cn_re2, cn_re3, cn_re4, cn_re5, cn_wp0, cn_wps, cn_m0, cn_m1, cn_e0, cn_en, cn_ei, cn_er, cn_eu, cn_el, cn_nl0, cn_nls, cn_nb0, cn_nb1, cn_nb2, cn_nb3, cn_bd0, cn_bds, cn_cwi, cn_cwr, cn_cwl, cn_cwn, cn_wi2, cn_wl1, cn_wl3, cn_wr1, cn_wr2, cn_wi_eq, cn_wl_eq, cb_0, cb_n0, cb_b, cm_okb0, cm_okb1, Classical.not_not, true_and, and_true, Nat.reduceAdd, Nat.reduceSub, Nat.reduceLT, Nat.reduceLeDiff, Int.reduceToNat, Int.reduceNatCast', Nat.zero_le, Nat.reduceEqDiff, false_or, or_false, or_true, true_or, Int.reduceNeg, reduceCtorEq, false_implies, implies_true, forall_const, true_implies, not_true_eq_false, not_false_eq_true, Nat.le_refl, ne_eq, if_true, if_false, ite_true, ite_false, List.cons_append, List.nil_append]
    refine ⟨by rw [w3_ix (by omega) (by omega)]; omega, ?_⟩
    have hS2 : ∀ M1, Fr M M1 a 3 → LLp M1 a (D ++ L) (D.length + L.length) → Φ none T M1 := fun M1 f1 l1 => hS M1 f1 ⟨by rw [f1.2]; exact hT, by rw [List.length_append]; exact l1, Bal_app hbD hb, by rw [List.length_append]; exact hD⟩
    cases hL : fl M f with
    | none =>
      rw [hL] at hc
      subst hc
      have hz := flm_none hL
      have h4 := hg.2.2.2.1
      have hsz : M.1 f 1 = w3 (-1) := by rw [sz_w]; congr 1; omega
      have h1 := hg.1
      refine cm_go hX1_add 200 oX1_add (eX1_add d hd) lX1_add_15 ?_
      simp only [jX1_add, kX1_add_0, fl_1_15, fl_1_18, fl_1_32, fl_1_9, fl_1_35, h1, hsz, cn_iconst, cn_lconst0, cn_lconst1, cn_null, cn_iload, cn_aload, cn_lload, cn_lo1, cn_loa1, cn_loa2, cn_lol1, cn_get0, cn_gets, cn_put0, cn_puts, cn_istore, cn_astore, cn_astoreN, cn_lstore, cn_iinc, cn_in1, cn_iadd, cn_isub, cn_imul, cn_iand, cn_ior, cn_ixor, cn_ishl, cn_ishr, cn_iushr, cn_idiv, cn_irem, cn_ladd, cn_lmul, cn_ldiv, cn_lrem, cn_i2l, cn_l2i, cn_i2b, cn_lcmp, cn_dupi, cn_dupr, cn_dup2, cn_popi, cn_popr, cn_goto, cn_if_eq, cn_if_ne, cn_if_lt, cn_if_ge, cn_if_gt, cn_if_le, cn_ic_eq, cn_ic_ne, cn_ic_lt, cn_ic_ge, cn_ic_gt, cn_ic_le, cn_ifnullN, cn_ifnullR, cn_ifnonnullN, cn_ifnonnullR, cn_tswS, cn_tsw0, cn_tsw1, cn_lswS, cn_lsw0, cn_lsw1, cn_alen, cn_iaload, cn_laload, cn_rr1, cn_rr0, cn_aaload, cn_iastore, cn_lastore, cn_aastore, cn_getfield, cn_gf0, cn_gf1, cn_gf2, cn_gf3, cn_putfield, cn_pf0f, cn_pf1f, cn_pf2f, cn_pf3f, cn_pf0t, cn_pf1t, cn_pf2t, cn_pf3t, cn_new, cn_nw1, cn_newi, cn_newl, cn_anew, cn_an1, cn_inv_v, cn_inv_s, cn_inv_p, cn_ca1, cn_cb1, cn_pop0, cn_pops, cn_rk0, cn_rk1, cn_kcn, cn_kcs, cn_ireturn, cn_lreturn, cn_areturn, cn_return, cn_re0, cn_re1, cn_re2, cn_re3, cn_re4, cn_re5, cn_wp0, cn_wps, cn_m0, cn_m1, cn_e0, cn_en, cn_ei, cn_er, cn_eu, cn_el, cn_nl0, cn_nls, cn_nb0, cn_nb1, cn_nb2, cn_nb3, cn_bd0, cn_bds, cn_cwi, cn_cwr, cn_cwl, cn_cwn, cn_wi2, cn_wl1, cn_wl3, cn_wr1, cn_wr2, cn_wi_eq, cn_wl_eq, cb_0, cb_n0, cb_b, cm_okb0, cm_okb1, Classical.not_not, true_and, and_true, Nat.reduceAdd, Nat.reduceSub, Nat.reduceLT, Nat.reduceLeDiff, Int.reduceToNat, Int.reduceNatCast', Nat.zero_le, Nat.reduceEqDiff, false_or, or_false, or_true, true_or, Int.reduceNeg, reduceCtorEq, false_implies, implies_true, forall_const, true_implies, not_true_eq_false, not_false_eq_true, Nat.le_refl, ne_eq, if_true, if_false, ite_true, ite_false, List.cons_append, List.nil_append]
      simp (disch := omega) only [w3_le, w3_lt, w3_eq, w3_ix, w3_add, w3_sub, w3_mul, w3_toInt, w3_z]
      exact ⟨fun _ => hS2 M Fr.rf (LLp_app hp), fun h => by omega⟩
    | some L' =>
      rw [hL] at hc
      have hc : L' = L := hc
      subst hc
      exact lX1_add d hd hT hg ha hL hD hbD.2 hS2 0 M none (Nat.zero_le _) Fr.rf (LLp_app hp)
def SX1_takeFile : cm_CT := fun as T M Φ => match as with
  | [.ref a, .ref f] => TLL T M.2.2 a ∧ M.1 (a + 2) 0 = w3 0 ∧ Sg T M f ∧ ap3 f a M ∧ Bal (cnt (fl M f)) ∧ ∀ M1, Fr M M1 a 3 → LLs T M1 a (cnt (fl M f)) → Φ none T M1
  | _ => False
def JX1_takeFile : cm_J := (1, false, 0, [(22, 2, 2, 0, 0, SX1_add)], [], [])
theorem jX1_takeFile : JX1_takeFile.1 = 1 ∧ JX1_takeFile.2.1 = false ∧ JX1_takeFile.2.2.1 = 0 ∧ cm_gv JX1_takeFile 22 = some (2, 2, 0, 0, SX1_add) := ⟨rfl, rfl, rfl, rfl⟩
theorem eX1_takeFile (d : Nat) (hd : 1 ≤ d) : cm_Cok d JX1_takeFile := ⟨(List.forall_mem_cons.mpr ⟨q1_22 (mX1_add (d - 1) (by omega)) (by omega), (fun q h => by cases h)⟩), (fun q h => by cases h), (fun q h => by cases h)⟩
theorem LL0 {T : cm_T} {M : cm_M} {a : Nat} (h : TLL T M.2.2 a) (h0 : M.1 (a + 2) 0 = w3 0) : LLs T (cm_wi M a 2 (w3 0)) a [] := by
  refine ⟨h, ⟨fun j hj => absurd hj (Nat.not_lt_zero _), cn_wi_eq, fun j hj _ => ?_⟩, Bal_nil, Nat.zero_le _⟩
  have e : j = 0 := Nat.le_zero.mp hj
  subst e
  rw [cn_wi_ne (Or.inl (by omega))]
  exact h0
theorem cnt_len {T : cm_T} {M : cm_M} {f : Nat} (hg : Sg T M f) : (cnt (fl M f)).length ≤ 60 := by
  cases h : fl M f with
  | none => exact Nat.zero_le _
  | some L => exact (Sg_len hg h).2.1
theorem ap3.wi {f a : Nat} {M : cm_M} {q : Nat} {j : Int} {v : Int32} (h : ap3 f a M) : ap3 f a (cm_wi M q j v) := h
set_option maxHeartbeats 4000000 in
theorem mX1_takeFile (d : Nat) (hd : 1 ≤ d) : cm_Met d yX1_takeFile cX1_takeFile 2 none 0 0 SX1_takeFile := by
  refine cm_meets (J := JX1_takeFile) (by decide) rfl (fun h => by cases h) trivial ?_
  intro as T M Φ hS
  match as, hS with
  | [.ref a, .ref f], ⟨hT, h0, hg, ha, hb, hS⟩ =>
    refine ⟨Nat.le_of_ble_eq_true rfl, ?_⟩
    obtain ⟨t1, t2, t3, t4, t5, t6, t7⟩ := id hT
    have F0 : Fr M (cm_wi M a 2 (w3 0)) a 3 := Fr.wi (Nat.le_refl _) (by omega)
    have hc := cnt_len hg
    have ha' : ap3 f a M := ha
    unfold ap3 at ha'
    have e : fl (cm_wi M a 2 (w3 0)) f = fl M f := F0.flq (by omega) (by omega)
    refine cm_go hX1_takeFile 200 oX1_takeFile (eX1_takeFile d hd) lX1_takeFile_0 ?_
    simp only [jX1_takeFile, kX1_takeFile_0, fl_1_18, t1, cn_iconst, cn_lconst0, cn_lconst1, cn_null, cn_iload, cn_aload, cn_lload, cn_lo1, cn_loa1, cn_loa2, cn_lol1, cn_get0, cn_gets, cn_put0, cn_puts, cn_istore, cn_astore, cn_astoreN, cn_lstore, cn_iinc, cn_in1, cn_iadd, cn_isub, cn_imul, cn_iand, cn_ior, cn_ixor, cn_ishl, cn_ishr, cn_iushr, cn_idiv, cn_irem, cn_ladd, cn_lmul, cn_ldiv, cn_lrem, cn_i2l, cn_l2i, cn_i2b, cn_lcmp, cn_dupi, cn_dupr, cn_dup2, cn_popi, cn_popr, cn_goto, cn_if_eq, cn_if_ne, cn_if_lt, cn_if_ge, cn_if_gt, cn_if_le, cn_ic_eq, cn_ic_ne, cn_ic_lt, cn_ic_ge, cn_ic_gt, cn_ic_le, cn_ifnullN, cn_ifnullR, cn_ifnonnullN, cn_ifnonnullR, cn_tswS, cn_tsw0, cn_tsw1, cn_lswS, cn_lsw0, cn_lsw1, cn_alen, cn_iaload, cn_laload, cn_rr1, cn_rr0, cn_aaload, cn_iastore, cn_lastore, cn_aastore, cn_getfield, cn_gf0, cn_gf1, cn_gf2, cn_gf3, cn_putfield, cn_pf0f, cn_pf1f, cn_pf2f, cn_pf3f, cn_pf0t, cn_pf1t, cn_pf2t, cn_pf3t, cn_new, cn_nw1, cn_newi, cn_newl, cn_anew, cn_an1, cn_inv_v, cn_inv_s, cn_inv_p, cn_ca1, cn_cb1, cn_pop0, cn_pops, cn_rk0, cn_rk1, cn_kcn, cn_kcs, cn_ireturn, cn_lreturn, cn_areturn, cn_return, cn_re0, cn_re1, cn_re2, cn_re3, cn_re4, cn_re5, cn_wp0, cn_wps, cn_m0, cn_m1, cn_e0, cn_en, cn_ei, cn_er, cn_eu, cn_el, cn_nl0, cn_nls, cn_nb0, cn_nb1, cn_nb2, cn_nb3, cn_bd0, cn_bds, cn_cwi, cn_cwr, cn_cwl, cn_cwn, cn_wi2, cn_wl1, cn_wl3, cn_wr1, cn_wr2, cn_wi_eq, cn_wl_eq, cb_0, cb_n0, cb_b, cm_okb0, cm_okb1, Classical.not_not, true_and, and_true, Nat.reduceAdd, Nat.reduceSub, Nat.reduceLT, Nat.reduceLeDiff, Int.reduceToNat, Int.reduceNatCast', Nat.zero_le, Nat.reduceEqDiff, false_or, or_false, or_true, true_or, Int.reduceNeg, reduceCtorEq, false_implies, implies_true, forall_const, true_implies, not_true_eq_false, not_false_eq_true, Nat.le_refl, ne_eq, if_true, if_false, ite_true, ite_false, List.cons_append, List.nil_append]
    refine ⟨[], cnt (fl M f), LL0 hT h0, F0.sgq (by omega) hg, ha, by rw [e], hb, by show 0 + _ ≤ _; omega, fun M1 f1 l1 => ?_⟩
    simp only [jX1_takeFile, kX1_takeFile_0, fl_1_18, cn_iconst, cn_lconst0, cn_lconst1, cn_null, cn_iload, cn_aload, cn_lload, cn_lo1, cn_loa1, cn_loa2, cn_lol1, cn_get0, cn_gets, cn_put0, cn_puts, cn_istore, cn_astore, cn_astoreN, cn_lstore, cn_iinc, cn_in1, cn_iadd, cn_isub, cn_imul, cn_iand, cn_ior, cn_ixor, cn_ishl, cn_ishr, cn_iushr, cn_idiv, cn_irem, cn_ladd, cn_lmul, cn_ldiv, cn_lrem, cn_i2l, cn_l2i, cn_i2b, cn_lcmp, cn_dupi, cn_dupr, cn_dup2, cn_popi, cn_popr, cn_goto, cn_if_eq, cn_if_ne, cn_if_lt, cn_if_ge, cn_if_gt, cn_if_le, cn_ic_eq, cn_ic_ne, cn_ic_lt, cn_ic_ge, cn_ic_gt, cn_ic_le, cn_ifnullN, cn_ifnullR, cn_ifnonnullN, cn_ifnonnullR, cn_tswS, cn_tsw0, cn_tsw1, cn_lswS, cn_lsw0, cn_lsw1, cn_alen, cn_iaload, cn_laload, cn_rr1, cn_rr0, cn_aaload, cn_iastore, cn_lastore, cn_aastore, cn_getfield, cn_gf0, cn_gf1, cn_gf2, cn_gf3, cn_putfield, cn_pf0f, cn_pf1f, cn_pf2f, cn_pf3f, cn_pf0t, cn_pf1t, cn_pf2t, cn_pf3t, cn_new, cn_nw1, cn_newi, cn_newl, cn_anew, cn_an1, cn_inv_v, cn_inv_s, cn_inv_p, cn_ca1, cn_cb1, cn_pop0, cn_pops, cn_rk0, cn_rk1, cn_kcn, cn_kcs, cn_ireturn, cn_lreturn, cn_areturn, cn_return, cn_re0, cn_re1, cn_re2, cn_re3, cn_re4, cn_re5, cn_wp0, cn_wps, cn_m0, cn_m1, cn_e0, cn_en, cn_ei, cn_er, cn_eu, cn_el, cn_nl0, cn_nls, cn_nb0, cn_nb1, cn_nb2, cn_nb3, cn_bd0, cn_bds, cn_cwi, cn_cwr, cn_cwl, cn_cwn, cn_wi2, cn_wl1, cn_wl3, cn_wr1, cn_wr2, cn_wi_eq, cn_wl_eq, cb_0, cb_n0, cb_b, cm_okb0, cm_okb1, Classical.not_not, true_and, and_true, Nat.reduceAdd, Nat.reduceSub, Nat.reduceLT, Nat.reduceLeDiff, Int.reduceToNat, Int.reduceNatCast', Nat.zero_le, Nat.reduceEqDiff, false_or, or_false, or_true, true_or, Int.reduceNeg, reduceCtorEq, false_implies, implies_true, forall_const, true_implies, not_true_eq_false, not_false_eq_true, Nat.le_refl, ne_eq, if_true, if_false, ite_true, ite_false, List.cons_append, List.nil_append]
    exact hS M1 (F0.trans f1) l1

theorem BkG.ag {T T' : cm_T} {M M' : cm_M} {β : Nat} (h : BkG T M β) (h1 : ∀ q, β ≤ q → q < β + 134 → T'.1 q = T.1 q) (h2 : ∀ q, β ≤ q → q < β + 134 → T'.2.1 q = T.2.1 q) (h3 : ∀ q, β ≤ q → q < β + 134 → M'.1 q = M.1 q) (h4 : ∀ q, β ≤ q → q < β + 134 → M'.2.2 q = M.2.2 q) : BkG T' M' β ∧ bkv M' β = bkv M β := by
  obtain ⟨hK, hz, hT, hW, hA⟩ := id h
  obtain ⟨hn, hn16⟩ := h.n
  have tt : ∀ v, v < 16 → TrG T' M' (β + 6 + 8 * v) ∧ trv M' (β + 6 + 8 * v) = trv M (β + 6 + 8 * v) := fun v hv => (hT v hv).ag (fun q a b => h1 q (by omega) (by omega)) (fun q a b => h2 q (by omega) (by omega)) (fun q a b => h3 q (by omega) (by omega)) (fun q a b => h4 q (by omega) (by omega))
  have e0 : bsz M' β = bsz M β := by unfold bsz; rw [h3 β (by omega) (by omega)]
  have hb : bkv M' β = bkv M β := by
    refine bkv_eq (e0.trans hn) (fun v hv => ?_) (fun v hv => bkv_ge (by omega))
    rw [bkv_lt hv, h3 (β + 2) (by omega) (by omega), h3 (β + 3) (by omega) (by omega), (tt v (by omega)).2]
  refine ⟨⟨?_, by rw [e0]; exact hz, fun v hv => (tt v hv).1, by rw [hb]; exact hW, ?_⟩, hb⟩
  · unfold TBk at *
    simp (disch := omega) only [h1, h2, h4]
    exact hK
  · rw [hb]
    intro v hv
    rw [h3 (β + 4) (by omega) (by omega)]
    exact hA v hv
theorem MgG.ag {T T' : cm_T} {M M' : cm_M} {g : Nat} (h : MgG T M g) (h1 : ∀ q, g ≤ q → q < g + 17 → T'.1 q = T.1 q) (h2 : ∀ q, g ≤ q → q < g + 17 → T'.2.1 q = T.2.1 q) (h3 : ∀ q, g ≤ q → q < g + 17 → M'.1 q = M.1 q) (h4 : ∀ q, g ≤ q → q < g + 17 → M'.2.2 q = M.2.2 q) : MgG T' M' g := by
  unfold MgG TMg TLL sz at *
  simp (disch := omega) only [h1, h2, h3, h4]
  exact h
theorem SCR.ag {T T' : cm_T} {M M' : cm_M} {x : Nat} (h : SCR T M x) (h1 : ∀ q, x + 138 ≤ q → q < x + 305 → T'.1 q = T.1 q) (h2 : ∀ q, x + 138 ≤ q → q < x + 305 → T'.2.1 q = T.2.1 q) (h3 : ∀ q, x + 138 ≤ q → q < x + 305 → M'.1 q = M.1 q) (h4 : ∀ q, x + 138 ≤ q → q < x + 305 → M'.2.2 q = M.2.2 q) : SCR T' M' x := by
  obtain ⟨⟨s1, s2⟩, ⟨s3, s4, s5⟩, ⟨s6, s7⟩, s8, s9, s10, s11⟩ := h
  have tt : ∀ t, x + 138 ≤ t → t + 8 ≤ x + 305 → TrG T M t → TrG T' M' t := fun t a b hg => (hg.ag (fun q c d => h1 q (by omega) (by omega)) (fun q c d => h2 q (by omega) (by omega)) (fun q c d => h3 q (by omega) (by omega)) (fun q c d => h4 q (by omega) (by omega))).1
  refine ⟨⟨s1.ag (fun q a b => h1 q a (by omega)) (fun q a b => h2 q a (by omega)) (fun q a b => h3 q a (by omega)) (fun q a b => h4 q a (by omega)), by rw [h3 _ (by omega) (by omega)]; exact s2⟩, ⟨by rw [h1 _ (by omega) (by omega)]; exact s3, by rw [h2 _ (by omega) (by omega)]; exact s4, fun i hi => ⟨by rw [h4 _ (by omega) (by omega)]; exact (s5 i hi).1, tt _ (by omega) (by omega) (s5 i hi).2⟩⟩, ⟨tt _ (by omega) (by omega) s6, tt _ (by omega) (by omega) s7⟩, ?_, by rw [h3 _ (by omega) (by omega)]; exact s9, ?_, by rw [h3 _ (by omega) (by omega)]; exact s11⟩
  · unfold TLL at *
    simp (disch := omega) only [h1, h2, h4]
    exact s8
  · unfold TLL at *
    simp (disch := omega) only [h1, h2, h4]
    exact s10
/-- all that the object has is as it was, the kept books are told apart -/
theorem CMG.ag {T T' : cm_T} {M M' : cm_M} {x L : Nat} (hC : CMG T M x L) (hL : L ≤ T'.2.2) (h1 : ∀ q, x ≤ q → q < x + 326 → T'.1 q = T.1 q) (h2 : ∀ q, x ≤ q → q < x + 326 → T'.2.1 q = T.2.1 q) (h3 : ∀ q, x ≤ q → q < x + 326 → M'.1 q = M.1 q) (h4 : ∀ q, x ≤ q → q < x + 326 → M'.2.1 q = M.2.1 q) (h5 : ∀ q, x ≤ q → q < x + 326 → q ≠ x + 137 → M'.2.2 q = M.2.2 q) (hK : KPT T' M' x L) (hq : cKq M' x = cKq M x) : CMG T' M' x L ∧ cst M' x = cst M x := by
  obtain ⟨⟨L1, L2⟩, hT, hB, -, hS, hr, ht⟩ := id hC
  obtain ⟨g1, g2⟩ := hB.ag (T' := T') (M' := M') (fun q a b => h1 q (by omega) (by omega)) (fun q a b => h2 q (by omega) (by omega)) (fun q a b => h3 q (by omega) (by omega)) (fun q a b => h5 q (by omega) (by omega) (by omega))
  have hTT : TCM T' M'.2.2 x := by
    obtain ⟨t1, t2, t3, t4, t5, t6⟩ := hT
    refine ⟨?_, ?_, ?_, ?_, fun r hr => ?_, fun r hr => ?_⟩
    · rw [h1 _ (by omega) (by omega)]; exact t1
    · simp (disch := omega) only [h5]; exact t2
    · simp (disch := omega) only [h1]; exact t3
    · simp (disch := omega) only [h2]; exact t4
    · have := t5 r hr
      simp (disch := omega) only [h1, h2, h5]; exact this
    · have := t6 r hr
      simp (disch := omega) only [h1, h2, h5]; exact this
  have fr : ∀ r, r < 6 → fl M' (x + 306 + 2 * r) = fl M (x + 306 + 2 * r) ∧ sz M' (x + 306 + 2 * r) = sz M (x + 306 + 2 * r) := by
    intro r hr
    refine ⟨fl_keep (by rw [h5 _ (by omega) (by omega) (by omega)]) (by rw [h3 _ (by omega) (by omega)]) (by rw [cm_pl hT hr]; exact h3 _ (by omega) (by omega)), ?_⟩
    unfold sz
    rw [h3 _ (by omega) (by omega)]
  have ft : ∀ r, r < 4 → fl M' (x + 318 + 2 * r) = fl M (x + 318 + 2 * r) ∧ sz M' (x + 318 + 2 * r) = sz M (x + 318 + 2 * r) := by
    intro r hr
    refine ⟨fl_keep (by rw [h5 _ (by omega) (by omega) (by omega)]) (by rw [h3 _ (by omega) (by omega)]) (by rw [cm_plt hT hr]; exact h3 _ (by omega) (by omega)), ?_⟩
    unfold sz
    rw [h3 _ (by omega) (by omega)]
  refine ⟨⟨⟨L1, hL⟩, hTT, g1, hK, hS.ag (fun q a b => h1 q (by omega) (by omega)) (fun q a b => h2 q (by omega) (by omega)) (fun q a b => h3 q (by omega) (by omega)) (fun q a b => h5 q (by omega) (by omega) (by omega)), fun r q => ?_, fun r q => ?_⟩, St_ext (funext fun r => ?_) (funext fun r => ?_) g2 hq ?_ ?_ ?_ ?_ (funext fun q => ?_)⟩
  · unfold sz1; rw [(fr r q).2]; exact hr r q
  · unfold sz1; rw [(ft r q).2]; exact ht r q
  · show cRw M' x r = cRw M x r
    unfold cRw
    by_cases q : r < 6
    · rw [if_pos q, if_pos q, (fr r q).1]
    · rw [if_neg q, if_neg q]
  · show cTx M' x r = cTx M x r
    unfold cTx
    by_cases q : r < 4
    · rw [if_pos q, if_pos q, (ft r q).1]
    · rw [if_neg q, if_neg q]
  · show M'.1 x 9 = M.1 x 9
    rw [h3 x (by omega) (by omega)]
  · show M'.2.1 x 10 = M.2.1 x 10
    rw [h4 x (by omega) (by omega)]
  · show M'.2.1 x 11 = M.2.1 x 11
    rw [h4 x (by omega) (by omega)]
  · show M'.1 x 12 = M.1 x 12
    rw [h3 x (by omega) (by omega)]
  · show cCt M' x q = cCt M x q
    unfold cCt
    rw [h3 (x + 305) (by omega) (by omega)]
/-- a new book is put into a place that had none -/
theorem CMG.new {T T' : cm_T} {M M' : cm_M} {x L κ : Nat} (hC : CMG T M x L) (hκ : κ < 3) (h0 : M.2.2 (x + 137) (κ : Int) = none) (hz : T'.2.2 = T.2.2 + 134) (h1 : ∀ q, q < T.2.2 → T'.1 q = T.1 q) (h2 : ∀ q, q < T.2.2 → T'.2.1 q = T.2.1 q) (h3 : ∀ q, q < T.2.2 → M'.1 q = M.1 q) (h4 : ∀ q, q < T.2.2 → M'.2.1 q = M.2.1 q) (h5 : ∀ q, q < T.2.2 → M'.2.2 q = M.2.2 q) (hB : BkG T' M' T.2.2) (hb : bkv M' T.2.2 = bkE) : CMG T' (cm_wr M' (x + 137) (κ : Int) (some T.2.2)) x L ∧ cst (cm_wr M' (x + 137) (κ : Int) (some T.2.2)) x = cst M x := by
  obtain ⟨⟨L1, L2⟩, hT, -, hK, -⟩ := id hC
  have rk : ∀ l : Nat, (cm_wr M' (x + 137) (κ : Int) (some T.2.2)).2.2 (x + 137) (l : Int) = if l = κ then some T.2.2 else M.2.2 (x + 137) (l : Int) := by
    intro l
    by_cases e : l = κ
    · rw [e, if_pos rfl]; exact cn_wr_eq
    · rw [if_neg e, cn_wr_ne (Or.inr (by omega)), h5 _ (by omega)]
  have okb : ∀ l : Nat, l < 3 → ∀ b, M.2.2 (x + 137) (l : Int) = some b → L ≤ b ∧ b + 134 ≤ T.2.2 ∧ BkG T' (cm_wr M' (x + 137) (κ : Int) (some T.2.2)) b ∧ bkv (cm_wr M' (x + 137) (κ : Int) (some T.2.2)) b = bkv M b := by
    intro l hl b hb
    obtain ⟨c1, c2, c3⟩ := hK.1 l hl b hb
    obtain ⟨d1, d2⟩ := c3.ag (T' := T') (M' := cm_wr M' (x + 137) (κ : Int) (some T.2.2)) (fun q a b => h1 q (by omega)) (fun q a b => h2 q (by omega)) (fun q a b => h3 q (by omega)) (fun q a b => by rw [wr_r (by omega)]; exact h5 q (by omega))
    exact ⟨c1, c2, d1, d2⟩
  obtain ⟨n1, n2⟩ := hB.ag (T' := T') (M' := cm_wr M' (x + 137) (κ : Int) (some T.2.2)) (fun q a b => rfl) (fun q a b => rfl) (fun q a b => rfl) (fun q a b => wr_r (by omega))
  refine hC.ag (by omega) (fun q a b => h1 q (by omega)) (fun q a b => h2 q (by omega)) (fun q a b => h3 q (by omega)) (fun q a b => h4 q (by omega)) (fun q a b c => by rw [wr_r c]; exact h5 q (by omega)) ⟨fun l hl b hb2 => ?_, fun l m hl hm hlm b c hb2 hc2 => ?_⟩ (funext fun l => ?_)
  · rw [rk] at hb2
    by_cases e : l = κ
    · rw [if_pos e] at hb2
      cases hb2
      exact ⟨L2, by omega, n1⟩
    · rw [if_neg e] at hb2
      obtain ⟨c1, c2, c3, c4⟩ := okb l hl b hb2
      exact ⟨c1, by omega, c3⟩
  · rw [rk] at hb2 hc2
    unfold dB
    by_cases e : l = κ
    · rw [if_pos e] at hb2
      rw [if_neg (by omega)] at hc2
      cases hb2
      have := (okb m hm c hc2).2.1
      omega
    · rw [if_neg e] at hb2
      by_cases e2 : m = κ
      · rw [if_pos e2] at hc2
        cases hc2
        have := (okb l hl b hb2).2.1
        omega
      · rw [if_neg e2] at hc2
        exact hK.2 l m hl hm hlm b c hb2 hc2
  · unfold cKq cKp
    by_cases q : l < 3
    · rw [if_pos q, if_pos q, rk]
      by_cases e : l = κ
      · subst e
        rw [if_pos rfl, h0]
        exact n2.trans hb
      · rw [if_neg e]
        cases hb2 : M.2.2 (x + 137) (l : Int) with
        | none => rfl
        | some b => exact (okb l q b hb2).2.2.2
    · rw [if_neg q, if_neg q]
noncomputable def fKep (s : St) (k : Int) : Int32 × St := if 0 ≤ k ∧ k < 3 then (if s.2.2.1.1 = 0 then (w3 (-4), s) else (w3 (s.2.2.1.1 : Int), stK s k.toNat s.2.2.1)) else (w3 (-1), s)
/-- more may have been laid behind -/
def TX (T T1 : cm_T) : Prop := T.2.2 ≤ T1.2.2 ∧ (∀ q, q < T.2.2 → T1.1 q = T.1 q) ∧ ∀ q, q < T.2.2 → T1.2.1 q = T.2.1 q
theorem TX.rf {T : cm_T} : TX T T := ⟨Nat.le_refl _, fun _ _ => rfl, fun _ _ => rfl⟩
def cPT (T : cm_T) (M : cm_M) (x L : Nat) (Φ : Option Value → cm_T → cm_M → Prop) (a : Int32 × St) : Prop := ∀ T1 M1, TX T T1 → FrC M M1 x L → CMG T1 M1 x L → cst M1 x = a.2 → Φ (some (.int a.1)) T1 M1
def SX6_keep : cm_CT := fun as T M Φ => match as with
  | [.ref x, .int k] => ∃ L, CMG T M x L ∧ cPT T M x L Φ (fKep (cst M x) k.toInt)
  | _ => False
def JX6_keep : cm_J := (6, false, 1, [(226, 2, 1, 0, 0, SX0_become)], [(223, 1, 0, 0, 0, SX6_isKept)], [(20, 1, 1, 133, 3136, SX0_init)])
theorem jX6_keep : JX6_keep.1 = 6 ∧ JX6_keep.2.1 = false ∧ JX6_keep.2.2.1 = 1 ∧ cm_gv JX6_keep 226 = some (2, 1, 0, 0, SX0_become) ∧ cm_gs JX6_keep 223 = some (1, 0, 0, 0, SX6_isKept) ∧ cm_gp JX6_keep 20 = some (1, 1, 133, 3136, SX0_init) := ⟨rfl, rfl, rfl, rfl, rfl, rfl⟩
theorem eX6_keep (d : Nat) (hd : 4 ≤ d) : cm_Cok d JX6_keep := ⟨(List.forall_mem_cons.mpr ⟨q6_226 (mX0_become (d - 1) (by omega)) (by omega), (fun q h => by cases h)⟩), (List.forall_mem_cons.mpr ⟨q6_223 (mX6_isKept (d - 1) (by omega)) (by omega), (fun q h => by cases h)⟩), (List.forall_mem_cons.mpr ⟨q6_20 (mX0_init (d - 1) (by omega)) (by omega), (fun q h => by cases h)⟩)⟩
set_option maxHeartbeats 4000000 in
theorem mX6_keep (d : Nat) (hd : 4 ≤ d) : cm_Met d yX6_keep cX6_keep 2 (some .int) 134 3142 SX6_keep := by
  refine cm_meets (J := JX6_keep) (by decide) rfl (fun h => by cases h) trivial ?_
  intro as T M Φ hS
  match as, hS with
  | [.ref x, .int k], ⟨L, hC, hS⟩ =>
    refine ⟨Nat.le_of_ble_eq_true rfl, ?_⟩
    obtain ⟨k0, ⟨r0, r1, r2, r3, r4, r5, r6, r7, r8, r13⟩, ⟨k1, k2, k137, k305⟩, ⟨l1, l2, l137, l305⟩, hr, ht⟩ := id hC.2.1
    have hB := hC.2.2.1
    obtain ⟨⟨K0, ⟨R1, R2, R3, R4, R5⟩, ⟨KK1, K2, K3, K4, K5⟩, ⟨L1, L2, L3, L4, L5⟩, RV⟩, HZ, HT, HW, HA⟩ := id hB
    obtain ⟨hn, hn16⟩ := hB.n
    have hz0 : M.1 (x + 3) 0 = w3 ((bkv M (x + 3)).1 : Int) := i3_of hn
    unfold fKep at hS
    rw [cst_b] at hS
    have xl := hC.1
    by_cases hk0 : 0 ≤ k.toInt ∧ k.toInt < 3
    · obtain ⟨κ, ek, hκ⟩ : ∃ κ : Nat, k.toInt = (κ : Int) ∧ κ < 3 := ⟨k.toInt.toNat, by omega, by omega⟩
      have ix : cm_ix k 3 := ⟨hk0.1, by show k.toInt < ((3 : Nat) : Int); omega⟩
      have tt : (0 ≤ (κ : Int) ∧ (κ : Int) < 3) = True := eq_true ⟨by omega, by omega⟩
      rw [if_pos hk0, ek, show ((κ : Int)).toNat = κ by omega] at hS
      by_cases h0 : (bkv M (x + 3)).1 = 0
      · rw [if_pos h0] at hS
        have z0 : (w3 ((bkv M (x + 3)).1 : Int) = 0) = True := eq_true (by rw [h0]; rfl)
        refine cm_go hX6_keep 200 oX6_keep (eX6_keep d hd) lX6_keep_0 ?_
        simp only [jX6_keep, kX6_keep_0, fl_6_21, fl_6_130, fl_6_25, kl_6_18, SX6_isKept, hz0, z0, ek, ix, tt, k0, r0, r1, r2, r3, r4, r5, r6, r7, r8, r13, k1, k2, k137, k305, l1, l2, l137, l305, K0, R1, R2, R3, R4, R5, KK1, K2, K3, K4, K5, L1, L2, L3, L4, L5, w3_00, w3_10, cn_iconst, cn_lconst0, cn_lconst1, cn_null, cn_iload, cn_aload, cn_lload, cn_lo1, cn_loa1, cn_loa2, cn_lol1, cn_get0, cn_gets, cn_put0, cn_puts, cn_istore, cn_astore, cn_astoreN, cn_lstore, cn_iinc, cn_in1, cn_iadd, cn_isub, cn_imul, cn_iand, cn_ior, cn_ixor, cn_ishl, cn_ishr, cn_iushr, cn_idiv, cn_irem, cn_ladd, cn_lmul, cn_ldiv, cn_lrem, cn_i2l, cn_l2i, cn_i2b, cn_lcmp, cn_dupi, cn_dupr, cn_dup2, cn_popi, cn_popr, cn_goto, cn_if_eq, cn_if_ne, cn_if_lt, cn_if_ge, cn_if_gt, cn_if_le, cn_ic_eq, cn_ic_ne, cn_ic_lt, cn_ic_ge, cn_ic_gt, cn_ic_le, cn_ifnullN, cn_ifnullR, cn_ifnonnullN, cn_ifnonnullR, cn_tswS, cn_tsw0, cn_tsw1, cn_lswS, cn_lsw0, cn_lsw1, cn_alen, cn_iaload, cn_laload, cn_rr1, cn_rr0, cn_aaload, cn_iastore, cn_lastore, cn_aastore, cn_getfield, cn_gf0, cn_gf1, cn_gf2, cn_gf3, cn_putfield, cn_pf0f, cn_pf1f, cn_pf2f, cn_pf3f, cn_pf0t, cn_pf1t, cn_pf2t, cn_pf3t, cn_new, cn_nw1, cn_newi, cn_newl, cn_anew, cn_an1, cn_inv_v, cn_inv_s, cn_inv_p, cn_ca1, cn_cb1, cn_pop0, cn_pops, cn_rk0, cn_rk1, cn_kcn, cn_kcs, cn_ireturn, cn_lreturn, cn_areturn, cn_return, cn_re0, cn_re1, cn_re2, cn_re3, cn_re4, cn_re5, cn_wp0, cn_wps, cn_m0, cn_m1, cn_e0, cn_en, cn_ei, cn_er, cn_eu, cn_el, cn_nl0, cn_nls, cn_nb0, cn_nb1, cn_nb2, cn_nb3, cn_bd0, cn_bds, cn_cwi, cn_cwr, cn_cwl, cn_cwn, cn_wi2, cn_wl1, cn_wl3, cn_wr1, cn_wr2, cn_wi_eq, cn_wl_eq, cb_0, cb_n0, cb_b, cm_okb0, cm_okb1, Classical.not_not, true_and, and_true, Nat.reduceAdd, Nat.reduceSub, Nat.reduceLT, Nat.reduceLeDiff, Int.reduceToNat, Int.reduceNatCast', Nat.zero_le, Nat.reduceEqDiff, false_or, or_false, or_true, true_or, Int.reduceNeg, reduceCtorEq, false_implies, implies_true, forall_const, true_implies, not_true_eq_false, not_false_eq_true, Nat.le_refl, ne_eq, if_true, if_false, ite_true, ite_false, List.cons_append, List.nil_append]
        exact hS T M TX.rf FrC.rf hC rfl
      · rw [if_neg h0] at hS
        have z0 : (w3 ((bkv M (x + 3)).1 : Int) = 0) = False := eq_false (by rw [w3_z, w3_eq (by omega) (by omega) (by omega) (by omega)]; omega)
        cases e : M.2.2 (x + 137) (κ : Int) with
        | some a =>
          obtain ⟨b1, b2, b3⟩ := hC.2.2.2.1.1 κ hκ a e
          have ka := b3.1.1
          refine cm_go hX6_keep 200 oX6_keep (eX6_keep d hd) lX6_keep_0 ?_
          simp only [jX6_keep, kX6_keep_0, fl_6_21, fl_6_130, fl_6_25, kl_6_18, SX6_isKept, hz0, z0, ek, ix, tt, e, ka, k0, r0, r1, r2, r3, r4, r5, r6, r7, r8, r13, k1, k2, k137, k305, l1, l2, l137, l305, K0, R1, R2, R3, R4, R5, KK1, K2, K3, K4, K5, L1, L2, L3, L4, L5, w3_00, w3_10, cn_iconst, cn_lconst0, cn_lconst1, cn_null, cn_iload, cn_aload, cn_lload, cn_lo1, cn_loa1, cn_loa2, cn_lol1, cn_get0, cn_gets, cn_put0, cn_puts, cn_istore, cn_astore, cn_astoreN, cn_lstore, cn_iinc, cn_in1, cn_iadd, cn_isub, cn_imul, cn_iand, cn_ior, cn_ixor, cn_ishl, cn_ishr, cn_iushr, cn_idiv, cn_irem, cn_ladd, cn_lmul, cn_ldiv, cn_lrem, cn_i2l, cn_l2i, cn_i2b, cn_lcmp, cn_dupi, cn_dupr, cn_dup2, cn_popi, cn_popr, cn_goto, cn_if_eq, cn_if_ne, cn_if_lt, cn_if_ge, cn_if_gt, cn_if_le, cn_ic_eq, cn_ic_ne, cn_ic_lt, cn_ic_ge, cn_ic_gt, cn_ic_le, cn_ifnullN, cn_ifnullR, cn_ifnonnullN, cn_ifnonnullR, cn_tswS, cn_tsw0, cn_tsw1, cn_lswS, cn_lsw0, cn_lsw1, cn_alen, cn_iaload, cn_laload, cn_rr1, cn_rr0, cn_aaload, cn_iastore, cn_lastore, cn_aastore, cn_getfield, cn_gf0, cn_gf1, cn_gf2, cn_gf3, cn_putfield, cn_pf0f, cn_pf1f, cn_pf2f, cn_pf3f, cn_pf0t, cn_pf1t, cn_pf2t, cn_pf3t, cn_new, cn_nw1, cn_newi, cn_newl, cn_anew, cn_an1, cn_inv_v, cn_inv_s, cn_inv_p, cn_ca1, cn_cb1, cn_pop0, cn_pops, cn_rk0, cn_rk1, cn_kcn, cn_kcs, cn_ireturn, cn_lreturn, cn_areturn, cn_return, cn_re0, cn_re1, cn_re2, cn_re3, cn_re4, cn_re5, cn_wp0, cn_wps, cn_m0, cn_m1, cn_e0, cn_en, cn_ei, cn_er, cn_eu, cn_el, cn_nl0, cn_nls, cn_nb0, cn_nb1, cn_nb2, cn_nb3, cn_bd0, cn_bds, cn_cwi, cn_cwr, cn_cwl, cn_cwn, cn_wi2, cn_wl1, cn_wl3, cn_wr1, cn_wr2, cn_wi_eq, cn_wl_eq, cb_0, cb_n0, cb_b, cm_okb0, cm_okb1, Classical.not_not, true_and, and_true, Nat.reduceAdd, Nat.reduceSub, Nat.reduceLT, Nat.reduceLeDiff, Int.reduceToNat, Int.reduceNatCast', Nat.zero_le, Nat.reduceEqDiff, false_or, or_false, or_true, true_or, Int.reduceNeg, reduceCtorEq, false_implies, implies_true, forall_const, true_implies, not_true_eq_false, not_false_eq_true, Nat.le_refl, ne_eq, if_true, if_false, ite_true, ite_false, List.cons_append, List.nil_append]
          refine ⟨b3, hB, by unfold dB; omega, fun M5 F5 G5 b5 => ?_⟩
          have e5 := F5.2
          have z5 : M5.1 (x + 3) 0 = w3 ((bkv M (x + 3)).1 : Int) := by rw [F5.1 _ (by omega)]; exact hz0
          simp only [jX6_keep, kX6_keep_0, fl_6_21, fl_6_130, fl_6_25, kl_6_18, e5, z5, k0, r0, r1, r2, r3, r4, r5, r6, r7, r8, r13, k1, k2, k137, k305, l1, l2, l137, l305, K0, R1, R2, R3, R4, R5, KK1, K2, K3, K4, K5, L1, L2, L3, L4, L5, w3_00, w3_10, cn_iconst, cn_lconst0, cn_lconst1, cn_null, cn_iload, cn_aload, cn_lload, cn_lo1, cn_loa1, cn_loa2, cn_lol1, cn_get0, cn_gets, cn_put0, cn_puts, cn_istore, cn_astore, cn_astoreN, cn_lstore, cn_iinc, cn_in1, cn_iadd, cn_isub, cn_imul, cn_iand, cn_ior, cn_ixor, cn_ishl, cn_ishr, cn_iushr, cn_idiv, cn_irem, cn_ladd, cn_lmul, cn_ldiv, cn_lrem, cn_i2l, cn_l2i, cn_i2b, cn_lcmp, cn_dupi, cn_dupr, cn_dup2, cn_popi, cn_popr, cn_goto, cn_if_eq, cn_if_ne, cn_if_lt, cn_if_ge, cn_if_gt, cn_if_le, cn_ic_eq, cn_ic_ne, cn_ic_lt, cn_ic_ge, cn_ic_gt, cn_ic_le, cn_ifnullN, cn_ifnullR, cn_ifnonnullN, cn_ifnonnullR, cn_tswS, cn_tsw0, cn_tsw1, cn_lswS, cn_lsw0, cn_lsw1, cn_alen, cn_iaload, cn_laload, cn_rr1, cn_rr0, cn_aaload, cn_iastore, cn_lastore, cn_aastore, cn_getfield, cn_gf0, cn_gf1, cn_gf2, cn_gf3, cn_putfield, cn_pf0f, cn_pf1f, cn_pf2f, cn_pf3f, cn_pf0t, cn_pf1t, cn_pf2t, cn_pf3t, cn_new, cn_nw1, cn_newi, cn_newl, cn_anew, cn_an1, cn_inv_v, cn_inv_s, cn_inv_p, cn_ca1, cn_cb1, cn_pop0, cn_pops, cn_rk0, cn_rk1, cn_kcn, cn_kcs, cn_ireturn, cn_lreturn, cn_areturn, cn_return, cn_re0, cn_re1, cn_re2, cn_re3, cn_re4, cn_re5, cn_wp0, cn_wps, cn_m0, cn_m1, cn_e0, cn_en, cn_ei, cn_er, cn_eu, cn_el, cn_nl0, cn_nls, cn_nb0, cn_nb1, cn_nb2, cn_nb3, cn_bd0, cn_bds, cn_cwi, cn_cwr, cn_cwl, cn_cwn, cn_wi2, cn_wl1, cn_wl3, cn_wr1, cn_wr2, cn_wi_eq, cn_wl_eq, cb_0, cb_n0, cb_b, cm_okb0, cm_okb1, Classical.not_not, true_and, and_true, Nat.reduceAdd, Nat.reduceSub, Nat.reduceLT, Nat.reduceLeDiff, Int.reduceToNat, Int.reduceNatCast', Nat.zero_le, Nat.reduceEqDiff, false_or, or_false, or_true, true_or, Int.reduceNeg, reduceCtorEq, false_implies, implies_true, forall_const, true_implies, not_true_eq_false, not_false_eq_true, Nat.le_refl, ne_eq, if_true, if_false, ite_true, ite_false, List.cons_append, List.nil_append]
          obtain ⟨c1, c2, c3⟩ := cs_kept hC hκ e F5 G5
          exact hS T M5 TX.rf c3 c1 (by rw [c2, b5])
        | none =>
          have kn : (cm_tn T 1 0).1 T.2.2 = 1 := tn_ke rfl
          refine cm_go hX6_keep 200 oX6_keep (eX6_keep d hd) lX6_keep_0 ?_
          simp only [jX6_keep, kX6_keep_0, fl_6_21, fl_6_130, fl_6_25, kl_6_18, SX6_isKept, hz0, z0, ek, ix, tt, e, nf0, kn, k0, r0, r1, r2, r3, r4, r5, r6, r7, r8, r13, k1, k2, k137, k305, l1, l2, l137, l305, K0, R1, R2, R3, R4, R5, KK1, K2, K3, K4, K5, L1, L2, L3, L4, L5, w3_00, w3_10, cn_iconst, cn_lconst0, cn_lconst1, cn_null, cn_iload, cn_aload, cn_lload, cn_lo1, cn_loa1, cn_loa2, cn_lol1, cn_get0, cn_gets, cn_put0, cn_puts, cn_istore, cn_astore, cn_astoreN, cn_lstore, cn_iinc, cn_in1, cn_iadd, cn_isub, cn_imul, cn_iand, cn_ior, cn_ixor, cn_ishl, cn_ishr, cn_iushr, cn_idiv, cn_irem, cn_ladd, cn_lmul, cn_ldiv, cn_lrem, cn_i2l, cn_l2i, cn_i2b, cn_lcmp, cn_dupi, cn_dupr, cn_dup2, cn_popi, cn_popr, cn_goto, cn_if_eq, cn_if_ne, cn_if_lt, cn_if_ge, cn_if_gt, cn_if_le, cn_ic_eq, cn_ic_ne, cn_ic_lt, cn_ic_ge, cn_ic_gt, cn_ic_le, cn_ifnullN, cn_ifnullR, cn_ifnonnullN, cn_ifnonnullR, cn_tswS, cn_tsw0, cn_tsw1, cn_lswS, cn_lsw0, cn_lsw1, cn_alen, cn_iaload, cn_laload, cn_rr1, cn_rr0, cn_aaload, cn_iastore, cn_lastore, cn_aastore, cn_getfield, cn_gf0, cn_gf1, cn_gf2, cn_gf3, cn_putfield, cn_pf0f, cn_pf1f, cn_pf2f, cn_pf3f, cn_pf0t, cn_pf1t, cn_pf2t, cn_pf3t, cn_new, cn_nw1, cn_newi, cn_newl, cn_anew, cn_an1, cn_inv_v, cn_inv_s, cn_inv_p, cn_ca1, cn_cb1, cn_pop0, cn_pops, cn_rk0, cn_rk1, cn_kcn, cn_kcs, cn_ireturn, cn_lreturn, cn_areturn, cn_return, cn_re0, cn_re1, cn_re2, cn_re3, cn_re4, cn_re5, cn_wp0, cn_wps, cn_m0, cn_m1, cn_e0, cn_en, cn_ei, cn_er, cn_eu, cn_el, cn_nl0, cn_nls, cn_nb0, cn_nb1, cn_nb2, cn_nb3, cn_bd0, cn_bds, cn_cwi, cn_cwr, cn_cwl, cn_cwn, cn_wi2, cn_wl1, cn_wl3, cn_wr1, cn_wr2, cn_wi_eq, cn_wl_eq, cb_0, cb_n0, cb_b, cm_okb0, cm_okb1, Classical.not_not, true_and, and_true, Nat.reduceAdd, Nat.reduceSub, Nat.reduceLT, Nat.reduceLeDiff, Int.reduceToNat, Int.reduceNatCast', Nat.zero_le, Nat.reduceEqDiff, false_or, or_false, or_true, true_or, Int.reduceNeg, reduceCtorEq, false_implies, implies_true, forall_const, true_implies, not_true_eq_false, not_false_eq_true, Nat.le_refl, ne_eq, if_true, if_false, ite_true, ite_false, List.cons_append, List.nil_append]
          refine ⟨kn, tn_z, fun T1 M1 z1 ag1 g1 b1 => ?_⟩
          obtain ⟨a1, a2, a3, a4, a5⟩ := id ag1
          have A1 : ∀ q, q < T.2.2 → T1.1 q = T.1 q := fun q hq => by rw [a1 q (by omega), tn_kn (by omega)]
          have A2 : ∀ q, q < T.2.2 → T1.2.1 q = T.2.1 q := fun q hq => by rw [a2 q (by omega), tn_ln (by omega)]
          have A3 : ∀ q, q < T.2.2 → M1.1 q = M.1 q := fun q hq => by rw [a3 q (by omega) (by omega), zm_1n (by omega)]
          have A4 : ∀ q, q < T.2.2 → M1.2.1 q = M.2.1 q := fun q hq => by rw [a4 q (by omega) (by omega), zm_2n (by omega)]
          have A5 : ∀ q, q < T.2.2 → M1.2.2 q = M.2.2 q := fun q hq => by rw [a5 q (by omega) (by omega), zm_3n (by omega)]
          obtain ⟨c1, c2⟩ := hC.new hκ e z1 A1 A2 A3 A4 A5 g1 b1
          obtain ⟨k0', ⟨r0', r1', r2', r3', r4', r5', r6', r7', r8', r13'⟩, ⟨-, -, k137', -⟩, ⟨-, -, l137', -⟩, -⟩ := id c1.2.1
          have hBn := c1.2.2.1
          have K0' := hBn.1.1
          have ebn : bkv (cm_wr M1 (x + 137) (κ : Int) (some T.2.2)) (x + 3) = bkv M (x + 3) := congrArg (fun s : St => s.2.2.1) c2
          have en : (cm_wr M1 (x + 137) (κ : Int) (some T.2.2)).2.2 (x + 137) (κ : Int) = some T.2.2 := cn_wr_eq
          have r3'' : M1.2.2 x 3 = some (x + 137) := by rw [A5 x (by omega)]; exact r3
          have ka1 : T1.1 T.2.2 = 1 := g1.1.1
          simp only [jX6_keep, kX6_keep_0, fl_6_21, fl_6_130, fl_6_25, kl_6_18, ek, ix, k0', r3'', r2', r3', k137', l137', ka1, en, K0', w3_00, w3_10, cn_iconst, cn_lconst0, cn_lconst1, cn_null, cn_iload, cn_aload, cn_lload, cn_lo1, cn_loa1, cn_loa2, cn_lol1, cn_get0, cn_gets, cn_put0, cn_puts, cn_istore, cn_astore, cn_astoreN, cn_lstore, cn_iinc, cn_in1, cn_iadd, cn_isub, cn_imul, cn_iand, cn_ior, cn_ixor, cn_ishl, cn_ishr, cn_iushr, cn_idiv, cn_irem, cn_ladd, cn_lmul, cn_ldiv, cn_lrem, cn_i2l, cn_l2i, cn_i2b, cn_lcmp, cn_dupi, cn_dupr, cn_dup2, cn_popi, cn_popr, cn_goto, cn_if_eq, cn_if_ne, cn_if_lt, cn_if_ge, cn_if_gt, cn_if_le, cn_ic_eq, cn_ic_ne, cn_ic_lt, cn_ic_ge, cn_ic_gt, cn_ic_le, cn_ifnullN, cn_ifnullR, cn_ifnonnullN, cn_ifnonnullR, cn_tswS, cn_tsw0, cn_tsw1, cn_lswS, cn_lsw0, cn_lsw1, cn_alen, cn_iaload, cn_laload, cn_rr1, cn_rr0, cn_aaload, cn_iastore, cn_lastore, cn_aastore, cn_getfield, cn_gf0, cn_gf1, cn_gf2, cn_gf3, cn_putfield, cn_pf0f, cn_pf1f, cn_pf2f, cn_pf3f, cn_pf0t, cn_pf1t, cn_pf2t, cn_pf3t, cn_new, cn_nw1, cn_newi, cn_newl, cn_anew, cn_an1, cn_inv_v, cn_inv_s, cn_inv_p, cn_ca1, cn_cb1, cn_pop0, cn_pops, cn_rk0, cn_rk1, cn_kcn, cn_kcs, cn_ireturn, cn_lreturn, cn_areturn, cn_return, cn_re0, cn_re1, cn_re2, cn_re3, cn_re4, cn_re5, cn_wp0, cn_wps, cn_m0, cn_m1, cn_e0, cn_en, cn_ei, cn_er, cn_eu, cn_el, cn_nl0, cn_nls, cn_nb0, cn_nb1, cn_nb2, cn_nb3, cn_bd0, cn_bds, cn_cwi, cn_cwr, cn_cwl, cn_cwn, cn_wi2, cn_wl1, cn_wl3, cn_wr1, cn_wr2, cn_wi_eq, cn_wl_eq, cb_0, cb_n0, cb_b, cm_okb0, cm_okb1, Classical.not_not, true_and, and_true, Nat.reduceAdd, Nat.reduceSub, Nat.reduceLT, Nat.reduceLeDiff, Int.reduceToNat, Int.reduceNatCast', Nat.zero_le, Nat.reduceEqDiff, false_or, or_false, or_true, true_or, Int.reduceNeg, reduceCtorEq, false_implies, implies_true, forall_const, true_implies, not_true_eq_false, not_false_eq_true, Nat.le_refl, ne_eq, if_true, if_false, ite_true, ite_false, List.cons_append, List.nil_append]
          obtain ⟨bb1, bb2, bb3⟩ := c1.2.2.2.1.1 κ hκ T.2.2 en
          refine ⟨bb3, hBn, by unfold dB; omega, fun M5 F5 G5 b5 => ?_⟩
          have e5 := F5.2
          have z5 : M5.1 (x + 3) 0 = w3 ((bkv M (x + 3)).1 : Int) := by rw [F5.1 _ (by omega), ← ebn]; exact i3_of hBn.n.1
          simp only [jX6_keep, kX6_keep_0, fl_6_21, fl_6_130, fl_6_25, kl_6_18, e5, z5, k0', r2', K0', cn_iconst, cn_lconst0, cn_lconst1, cn_null, cn_iload, cn_aload, cn_lload, cn_lo1, cn_loa1, cn_loa2, cn_lol1, cn_get0, cn_gets, cn_put0, cn_puts, cn_istore, cn_astore, cn_astoreN, cn_lstore, cn_iinc, cn_in1, cn_iadd, cn_isub, cn_imul, cn_iand, cn_ior, cn_ixor, cn_ishl, cn_ishr, cn_iushr, cn_idiv, cn_irem, cn_ladd, cn_lmul, cn_ldiv, cn_lrem, cn_i2l, cn_l2i, cn_i2b, cn_lcmp, cn_dupi, cn_dupr, cn_dup2, cn_popi, cn_popr, cn_goto, cn_if_eq, cn_if_ne, cn_if_lt, cn_if_ge, cn_if_gt, cn_if_le, cn_ic_eq, cn_ic_ne, cn_ic_lt, cn_ic_ge, cn_ic_gt, cn_ic_le, cn_ifnullN, cn_ifnullR, cn_ifnonnullN, cn_ifnonnullR, cn_tswS, cn_tsw0, cn_tsw1, cn_lswS, cn_lsw0, cn_lsw1, cn_alen, cn_iaload, cn_laload, cn_rr1, cn_rr0, cn_aaload, cn_iastore, cn_lastore, cn_aastore, cn_getfield, cn_gf0, cn_gf1, cn_gf2, cn_gf3, cn_putfield, cn_pf0f, cn_pf1f, cn_pf2f, cn_pf3f, cn_pf0t, cn_pf1t, cn_pf2t, cn_pf3t, cn_new, cn_nw1, cn_newi, cn_newl, cn_anew, cn_an1, cn_inv_v, cn_inv_s, cn_inv_p, cn_ca1, cn_cb1, cn_pop0, cn_pops, cn_rk0, cn_rk1, cn_kcn, cn_kcs, cn_ireturn, cn_lreturn, cn_areturn, cn_return, cn_re0, cn_re1, cn_re2, cn_re3, cn_re4, cn_re5, cn_wp0, cn_wps, cn_m0, cn_m1, cn_e0, cn_en, cn_ei, cn_er, cn_eu, cn_el, cn_nl0, cn_nls, cn_nb0, cn_nb1, cn_nb2, cn_nb3, cn_bd0, cn_bds, cn_cwi, cn_cwr, cn_cwl, cn_cwn, cn_wi2, cn_wl1, cn_wl3, cn_wr1, cn_wr2, cn_wi_eq, cn_wl_eq, cb_0, cb_n0, cb_b, cm_okb0, cm_okb1, Classical.not_not, true_and, and_true, Nat.reduceAdd, Nat.reduceSub, Nat.reduceLT, Nat.reduceLeDiff, Int.reduceToNat, Int.reduceNatCast', Nat.zero_le, Nat.reduceEqDiff, false_or, or_false, or_true, true_or, Int.reduceNeg, reduceCtorEq, false_implies, implies_true, forall_const, true_implies, not_true_eq_false, not_false_eq_true, Nat.le_refl, ne_eq, if_true, if_false, ite_true, ite_false, List.cons_append, List.nil_append]
          obtain ⟨d1, d2, d3⟩ := cs_kept c1 hκ en F5 G5
          refine hS T1 M5 ⟨by omega, A1, A2⟩ (fun q hq => ?_) d1 (by rw [d2, b5, ebn, c2])
          obtain ⟨f1, f2, f3⟩ := d3 q hq
          refine ⟨?_, ?_, ?_⟩
          · rw [f1]; exact A3 q (by omega)
          · rw [f2]; exact A4 q (by omega)
          · rw [f3, wr_r (by omega)]; exact A5 q (by omega)
    · rw [if_neg hk0] at hS
      have ff := eq_false hk0
      refine cm_go hX6_keep 200 oX6_keep (eX6_keep d hd) lX6_keep_0 ?_
      simp only [jX6_keep, kX6_keep_0, fl_6_21, fl_6_130, fl_6_25, kl_6_18, SX6_isKept, ff, k0, r0, r1, r2, r3, r4, r5, r6, r7, r8, r13, k1, k2, k137, k305, l1, l2, l137, l305, K0, R1, R2, R3, R4, R5, KK1, K2, K3, K4, K5, L1, L2, L3, L4, L5, w3_00, w3_10, cn_iconst, cn_lconst0, cn_lconst1, cn_null, cn_iload, cn_aload, cn_lload, cn_lo1, cn_loa1, cn_loa2, cn_lol1, cn_get0, cn_gets, cn_put0, cn_puts, cn_istore, cn_astore, cn_astoreN, cn_lstore, cn_iinc, cn_in1, cn_iadd, cn_isub, cn_imul, cn_iand, cn_ior, cn_ixor, cn_ishl, cn_ishr, cn_iushr, cn_idiv, cn_irem, cn_ladd, cn_lmul, cn_ldiv, cn_lrem, cn_i2l, cn_l2i, cn_i2b, cn_lcmp, cn_dupi, cn_dupr, cn_dup2, cn_popi, cn_popr, cn_goto, cn_if_eq, cn_if_ne, cn_if_lt, cn_if_ge, cn_if_gt, cn_if_le, cn_ic_eq, cn_ic_ne, cn_ic_lt, cn_ic_ge, cn_ic_gt, cn_ic_le, cn_ifnullN, cn_ifnullR, cn_ifnonnullN, cn_ifnonnullR, cn_tswS, cn_tsw0, cn_tsw1, cn_lswS, cn_lsw0, cn_lsw1, cn_alen, cn_iaload, cn_laload, cn_rr1, cn_rr0, cn_aaload, cn_iastore, cn_lastore, cn_aastore, cn_getfield, cn_gf0, cn_gf1, cn_gf2, cn_gf3, cn_putfield, cn_pf0f, cn_pf1f, cn_pf2f, cn_pf3f, cn_pf0t, cn_pf1t, cn_pf2t, cn_pf3t, cn_new, cn_nw1, cn_newi, cn_newl, cn_anew, cn_an1, cn_inv_v, cn_inv_s, cn_inv_p, cn_ca1, cn_cb1, cn_pop0, cn_pops, cn_rk0, cn_rk1, cn_kcn, cn_kcs, cn_ireturn, cn_lreturn, cn_areturn, cn_return, cn_re0, cn_re1, cn_re2, cn_re3, cn_re4, cn_re5, cn_wp0, cn_wps, cn_m0, cn_m1, cn_e0, cn_en, cn_ei, cn_er, cn_eu, cn_el, cn_nl0, cn_nls, cn_nb0, cn_nb1, cn_nb2, cn_nb3, cn_bd0, cn_bds, cn_cwi, cn_cwr, cn_cwl, cn_cwn, cn_wi2, cn_wl1, cn_wl3, cn_wr1, cn_wr2, cn_wi_eq, cn_wl_eq, cb_0, cb_n0, cb_b, cm_okb0, cm_okb1, Classical.not_not, true_and, and_true, Nat.reduceAdd, Nat.reduceSub, Nat.reduceLT, Nat.reduceLeDiff, Int.reduceToNat, Int.reduceNatCast', Nat.zero_le, Nat.reduceEqDiff, false_or, or_false, or_true, true_or, Int.reduceNeg, reduceCtorEq, false_implies, implies_true, forall_const, true_implies, not_true_eq_false, not_false_eq_true, Nat.le_refl, ne_eq, if_true, if_false, ite_true, ite_false, List.cons_append, List.nil_append]
      exact hS T M TX.rf FrC.rf hC rfl

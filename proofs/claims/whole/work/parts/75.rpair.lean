def coP (m : Nat) : Nat → Int → Prop := fun q k => scr m q k ∨ (q = m + 1 ∧ 2032 ≤ k) ∨ q = m + 2 ∨ q = m + 3
theorem md_com {T : cm_T} {M M1 : cm_M} {m : Nat} (hD : MD T M m) (h : Fz (coP m) M M1) (hCA : CA (M1.1 (m + 1)) (M1.1 (m + 3)) (M1.1 (m + 2)) (mbk M m)) : MD T M1 m ∧ mst M1 m = mst M m ∧ FrM M M1 m := by
  have mk : ∀ k : Int, k ≠ 20 → k ≠ 21 → k ≠ 23 → k ≠ 24 → M1.1 m k = M.1 m k := fun k a b c d => h.1 m k (fun w => by unfold coP scr at w; omega)
  have ro : ∀ q : Nat, (m + 4 ≤ q ∧ q < m + 7) ∨ (m + 8 ≤ q ∧ q < m + 10) ∨ (m + 17 ≤ q) → M1.1 q = M.1 q := fun q a => funext fun k => h.1 q k (fun w => by unfold coP scr at w; omega)
  have rm : ∀ k : Int, k < 2032 → M1.1 (m + 1) k = M.1 (m + 1) k := fun k hk => h.1 _ _ (fun w => by unfold coP scr at w; omega)
  obtain ⟨g0, g1, g2, g3⟩ := hD.2.1
  have n16 : (M.1 m 1).toInt.toNat ≤ 16 := g1.1.1
  have h1 := mk 1 (by decide) (by decide) (by decide) (by decide)
  obtain ⟨e1, e2⟩ := rb_cong (g := M1.1 (m + 1)) (o' := 0) g1 (fun k k1 k2 => by rw [Int.zero_add]; exact (rm k (by omega)).symm)
  have eb : mbk M1 m = mbk M m := by unfold mbk; rw [h1, e1]
  refine ⟨⟨by rw [h.2]; exact hD.1, ⟨by rw [h1]; exact g0, by rw [h1]; exact e2, by rw [ro (m + 18) (by omega), ro (m + 17) (by omega)]; exact g2, by rw [eb]; exact hCA⟩, fun r hr => ?_, fun t ht => ?_⟩, St_ext (funext fun r => ?_) (funext fun t => ?_) eb (funext fun k => ?_) (mk 4 (by decide) (by decide) (by decide) (by decide)) ?_ ?_ (mk 5 (by decide) (by decide) (by decide) (by decide)) (funext fun k => ?_), h.m (fun q k w => by unfold coP scr at w; omega)⟩
  · rw [ro (m + 6) (by omega)]; exact hD.2.2.1 r hr
  · rw [ro (m + 9) (by omega)]; exact hD.2.2.2 t ht
  · show mRw M1 m r = mRw M m r
    unfold mRw
    rw [ro (m + 5) (by omega), ro (m + 6) (by omega)]
  · show mTx M1 m t = mTx M m t
    unfold mTx
    rw [ro (m + 8) (by omega), ro (m + 9) (by omega)]
  · show mKq M1 m k = mKq M m k
    unfold mKq
    rw [ro (m + 17) (by omega), ro (m + 18) (by omega)]
  · show M1.2.1 m 7 = M.2.1 m 7
    rw [h.2]
  · show M1.2.1 m 8 = M.2.1 m 8
    rw [h.2]
  · show mCt M1 m k = mCt M m k
    unfold mCt
    rw [ro (m + 4) (by omega)]
theorem tri_lt : ∀ h h' : Fin 16, h.val < h'.val → h.val * (h.val - 1) / 2 + h.val ≤ h'.val * (h'.val - 1) / 2 := by decide
theorem prI_inj {l h l' h' : Nat} (a : l < h) (b : h < 16) (a' : l' < h') (b' : h' < 16) (e : prI l h = prI l' h') : l = l' ∧ h = h' := by
  obtain ⟨-, -, e1⟩ := prI_rg a b
  obtain ⟨-, -, e2⟩ := prI_rg a' b'
  rw [e1, e2] at e
  rcases Nat.lt_trichotomy h h' with q | q | q
  · have := tri_lt ⟨h, b⟩ ⟨h', b'⟩ q
    have this : h * (h - 1) / 2 + h ≤ h' * (h' - 1) / 2 := this
    omega
  · subst q; omega
  · have := tri_lt ⟨h', b'⟩ ⟨h, b⟩ q
    have this : h' * (h' - 1) / 2 + h' ≤ h * (h - 1) / 2 := this
    omega
theorem ab_0 {B : Bk} (hW : WB B) : ∀ v : Nat, v < B.1 → ab B v 0 := by
  intro v
  induction v using Nat.strongRecOn with
  | _ v ih =>
    intro hv
    have h16 := hW.1
    by_cases e : v = 0
    · subst e; exact ab_self (by omega)
    · obtain ⟨f1, f2, -⟩ := (hW.2.1 v hv).2.2 e
      rw [ab_eq (by omega) (by omega)]
      exact Or.inr (Or.inl ⟨f1, f2, ih _ (by omega) (by omega)⟩)
theorem nrB_ex {B : Bk} (hW : WB B) {l h : Nat} (hl : l < B.1) (hh : h < B.1) : ∃ v, v < B.1 ∧ bs (nrB B (l : Int) (h : Int)) v := by
  have h16 := hW.1
  have key : ∀ n : Nat, ∀ w, w < B.1 → ab B l w → ab B h w → B.1 - w ≤ n → ∃ v, v < B.1 ∧ bs (nrB B (l : Int) (h : Int)) v := by
    intro n
    induction n with
    | zero => intro w hw _ _ hn; omega
    | succ n ih =>
      intro w hw h1 h2 hn
      by_cases q : ∃ u, u < B.1 ∧ (ab B l u ∧ ab B h u) ∧ ab B u w ∧ w ≠ u
      · obtain ⟨u, u1, ⟨u2, u3⟩, u4, u5⟩ := q
        have := ab_le u w (by omega) (by omega) u4
        exact ih u u1 u2 u3 (by omega)
      · exact ⟨w, hw, (nrB_bit h16 hl hh (by omega)).mpr ⟨⟨h1, h2⟩, q⟩⟩
  exact key B.1 0 (by omega) (ab_0 hW l hl) (ab_0 hW h hh) (by omega)
theorem cmL_no {B : Bk} {re : Int → Int → Option Tv} {nea : Int32} : ∀ (v : Nat) (la : Int), cmL B re nea v = some (none, la) → la = -9 ∧ ∀ u, u < v → ¬ bs nea u
  | 0, la, h => by
    unfold cmL at h
    have e : (-9 : Int) = la := by cases h; rfl
    exact ⟨e.symm, fun u hu => absurd hu (Nat.not_lt_zero _)⟩
  | v + 1, la, h => by
    cases hc : cmL B re nea v with
    | none => rw [cmL_n hc 1] at h; cases h
    | some cl =>
      obtain ⟨c, lb⟩ := cl
      by_cases hb0 : nea >>> (w3 (v : Int) &&& 31) &&& w3 1 = 0
      · rw [cmL_0 hc hb0] at h
        have e1 : c = none ∧ lb = la := by cases h; exact ⟨rfl, rfl⟩
        rw [e1.1, e1.2] at hc
        obtain ⟨a, b⟩ := cmL_no v la hc
        refine ⟨a, fun u hu => ?_⟩
        by_cases e : u = v
        · rw [e]; exact fun w => w hb0
        · exact b u (by omega)
      · cases c with
        | none => rw [cmL_1 hc hb0] at h; cases h
        | some s =>
          rw [cmL_2 hc hb0] at h
          cases hr : re lb (v : Int) with
          | none => rw [hr] at h; cases h
          | some b =>
            rw [hr] at h
            cases hm : mgT false s (B.2 v).1 b with
            | none => simp only [hm] at h; cases h
            | some X => simp only [hm] at h; cases h
theorem TvG.b3 {x : Tv} (h : TvG x) : BalF x.2 := h.1
/-- a version's files in the row of numbers -/
theorem BW.fil {f : Int → Int32} {n v : Nat} (h : BW f 0 n) (hv : v < n) : ((rb f 0 n).2 v).1.2 = tA f (127 * (v : Int) + 4) ∧ ∀ φ : Nat, φ < 3 → -1 ≤ (f (127 * (v : Int) + 4 + 41 * (φ : Int))).toInt ∧ (f (127 * (v : Int) + 4 + 41 * (φ : Int))).toInt ≤ 40 := by
  have e : (rb f 0 n).2 v = vA f 0 v := if_pos hv
  refine ⟨?_, fun φ hφ => ?_⟩
  · rw [e]
    show tA f (0 + 127 * (v : Int) + 4) = _
    rw [Int.zero_add]
  · have := h.2.1 v hv φ hφ
    rw [Int.zero_add] at this
    exact this
def lpP (m κ : Nat) : Nat → Int → Prop := fun q k => joP m κ q k ∨ q = m + 16 ∨ (q = m + 3 ∧ k = (κ : Int))
def SX7_laysPair : cm_CT := fun as T M Φ => match as with
  | [.ref m, .int a, .int b] => ∃ (l h : Nat), MD T M m ∧ a = w3 (l : Int) ∧ b = w3 (h : Int) ∧ l < h ∧ h < (mbk M m).1 ∧ (∀ l2 h2 : Nat, l2 < h2 → h2 < l → ¬ M.1 (m + 2) (prI l2 h2) = w3 0) ∧ ∀ M1, FrM M M1 m → MD T M1 m → mst M1 m = mst M m → ¬ M1.1 (m + 2) (prI l h) = w3 0 → (∀ z : Int, z ≠ prI l h → M1.1 (m + 2) z = M.1 (m + 2) z) → Φ none T M1
  | _ => False
def JX7_laysPair : cm_J := (7, false, 0, [(170, 3, 8, 0, 0, SX7_nearestOf), (173, 4, 8, 0, 0, SX7_joins)], [(167, 2, 0, 0, 0, SX7_pairOf), (161, 2, 0, 0, 0, SX7_has)], [])
theorem jX7_laysPair : JX7_laysPair.1 = 7 ∧ JX7_laysPair.2.1 = false ∧ JX7_laysPair.2.2.1 = 0 ∧ cm_gv JX7_laysPair 170 = some (3, 8, 0, 0, SX7_nearestOf) ∧ cm_gv JX7_laysPair 173 = some (4, 8, 0, 0, SX7_joins) ∧ cm_gs JX7_laysPair 167 = some (2, 0, 0, 0, SX7_pairOf) ∧ cm_gs JX7_laysPair 161 = some (2, 0, 0, 0, SX7_has) := ⟨rfl, rfl, rfl, rfl, rfl, rfl, rfl⟩
theorem eX7_laysPair (d : Nat) (hd : 8 ≤ d) : cm_Cok d JX7_laysPair := ⟨(List.forall_mem_cons.mpr ⟨q7_170 (mX7_nearestOf (d - 1) (by omega)) (by omega), (List.forall_mem_cons.mpr ⟨q7_173 (mX7_joins (d - 1) (by omega)) (by omega), (fun q h => by cases h)⟩)⟩), (List.forall_mem_cons.mpr ⟨q7_167 (mX7_pairOf (d - 1) (by omega)) (by omega), (List.forall_mem_cons.mpr ⟨q7_161 (mX7_has (d - 1) (by omega)) (by omega), (fun q h => by cases h)⟩)⟩), (fun q h => by cases h)⟩
/-- how far the pair has come -/
def LPs (M M1 : cm_M) (m κ h v : Nat) (c : Option (Option Tv × Int)) (la : Int) : Prop := match c with
  | none => M1.1 (m + 2) (κ : Int) = w3 3
  | some (none, lb) => la = -9 ∧ lb = la ∧ M1.1 (m + 2) (κ : Int) = w3 1
  | some (some t, lb) => lb = la ∧ 0 ≤ la ∧ la < 16 ∧ CF (M1.1 (m + 1)) (M1.1 (m + 3)) (M1.1 (m + 2)) h κ t.2
set_option maxHeartbeats 8000000 in
theorem lX7_laysPair (d : Nat) (hd : 8 ≤ d) {T : cm_T} {M : cm_M} {Φ : Option Value → cm_T → cm_M → Prop} {m l h κ : Nat} (hD : MD T M m) (hlh : l < h) (hh : h < (mbk M m).1) (hκ : (κ : Int) = prI l h) (hlo : ∀ l2 h2 : Nat, l2 < h2 → h2 < l → ¬ M.1 (m + 2) (prI l2 h2) = w3 0) (hS : ∀ M1, Fz (lpP m κ) M M1 → LPs M M1 m κ h (mbk M m).1 (cmL (mbk M m) (cmn (mbk M m) 16) (nrB (mbk M m) (l : Int) (h : Int)) (mbk M m).1) 0 ∨ (∃ la, LPs M M1 m κ h (mbk M m).1 (cmL (mbk M m) (cmn (mbk M m) 16) (nrB (mbk M m) (l : Int) (h : Int)) (mbk M m).1) la) → Φ none T M1) :
    ∀ (g v : Nat) (M1 : cm_M) (la : Int), g + v = (mbk M m).1 → Fz (lpP m κ) M M1 → -9 ≤ la → la < 16 → LPs M M1 m κ h v (cmL (mbk M m) (cmn (mbk M m) 16) (nrB (mbk M m) (l : Int) (h : Int)) v) la → cm_Go d cX7_laysPair 7 0 0 JX7_laysPair Φ 28 [some (.ref m), some (.int (w3 (l : Int))), some (.int (w3 (h : Int))), some (.int (w3 (κ : Int))), some (.int (nrB (mbk M m) (l : Int) (h : Int))), some (.int (w3 la)), some (.int (w3 (v : Int)))] [] (0, 0) T M1 := by
  have hT := hD.1
  obtain ⟨k0, ⟨r0, r2, r3, r6, r9, r10, r11, r12, r13, r14, r15, r16, r17, r18, r19, r22, r25, r26, r27⟩, ⟨c1, c2, c3, c4, c5, c6, c7, c8, c9, c10, c11, c12, c13, c14, c15, c16, c17, c18, c19⟩, ⟨l1, l2, l3, l4, l5, l6, l7, l8, l9, l10, l11, l12, l13, l14, l15, l16, l17, l18, l19⟩⟩ := id hT
  obtain ⟨hn, h16⟩ := hD.n
  have hW : WB (mbk M m) := hD.2.1.2.1.1
  obtain ⟨k1, k2, k3⟩ := prI_rg hlh (show h < 16 by omega)
  have hκ2 : κ < 120 := by omega
  intro g
  induction g with
  | zero =>
    intro v M1 la hv F la1 la2 hP
    have ev : v = (mbk M m).1 := by omega
    subst ev
    have e2 := F.2
    have rn : M1.1 m 1 = w3 ((mbk M m).1 : Int) := by rw [F.1 _ _ (by unfold lpP joP; omega)]; exact hn
    refine cm_go hX7_laysPair 200 oX7_laysPair (eX7_laysPair d hd) lX7_laysPair_28 ?_
    simp (disch := omega) only [jX7_laysPair, kX7_laysPair_0, fl_7_13, fl_7_155, fl_7_16, e2, rn, k0, r0, r2, r3, r6, r9, r10, r11, r12, r13, r14, r15, r16, r17, r18, r19, r22, r25, r26, r27, c1, c2, c3, c4, c5, c6, c7, c8, c9, c10, c11, c12, c13, c14, c15, c16, c17, c18, c19, l1, l2, l3, l4, l5, l6, l7, l8, l9, l10, l11, l12, l13, l14, l15, l16, l17, l18, l19, cn_iconst, cn_lconst0, cn_lconst1, cn_null, cn_iload, cn_aload, cn_lload, cn_lo1, cn_loa1, cn_loa2, cn_lol1, cn_get0, cn_gets, cn_put0, cn_puts, cn_istore, cn_astore, cn_astoreN, cn_lstore, cn_iinc, cn_in1, cn_iadd, cn_isub, cn_imul, cn_iand, cn_ior, cn_ixor, cn_ishl, cn_ishr, cn_iushr, cn_idiv, cn_irem, cn_ladd, cn_lmul, cn_ldiv, cn_lrem, cn_i2l, cn_l2i, cn_i2b, cn_lcmp, cn_dupi, cn_dupr, cn_dup2, cn_popi, cn_popr, cn_goto, cn_if_eq, cn_if_ne, cn_if_lt, cn_if_ge, cn_if_gt, cn_if_le, cn_ic_eq, cn_ic_ne, cn_ic_lt, cn_ic_ge, cn_ic_gt, cn_ic_le, cn_ifnullN, cn_ifnullR, cn_ifnonnullN, cn_ifnonnullR, cn_tswS, cn_tsw0, cn_tsw1, cn_lswS, cn_lsw0, cn_lsw1, cn_alen, cn_iaload, cn_laload, cn_rr1, cn_rr0, cn_aaload, cn_iastore, cn_lastore, cn_aastore, cn_getfield, cn_gf0, cn_gf1, cn_gf2, cn_gf3, cn_putfield, cn_pf0f, cn_pf1f, cn_pf2f, cn_pf3f, cn_pf0t, cn_pf1t, cn_pf2t, cn_pf3t, cn_new, cn_nw1, cn_newi, cn_newl, cn_anew, cn_an1, cn_inv_v, cn_inv_s, cn_inv_p, cn_ca1, cn_cb1, cn_pop0, cn_pops, cn_rk0, cn_rk1, cn_kcn, cn_kcs, cn_ireturn, cn_lreturn, cn_areturn, cn_return, cn_re0, cn_re1, cn_re2, cn_re3, cn_re4, cn_re5, cn_wp0, cn_wps, cn_m0, cn_m1, cn_e0, cn_en, cn_ei, cn_er, cn_eu, cn_el, cn_nl0, cn_nls, cn_nb0, cn_nb1, cn_nb2, cn_nb3, cn_bd0, cn_bds, cn_cwi, cn_cwr, cn_cwl, cn_cwn, cn_wi2, cn_wl1, cn_wl3, cn_wr1, cn_wr2, cn_wi_eq, cn_wl_eq, cb_0, cb_n0, cb_b, cm_okb0, cm_okb1, Classical.not_not, true_and, and_true, Nat.reduceAdd, Nat.reduceSub, Nat.reduceLT, Nat.reduceLeDiff, Int.reduceToNat, Int.reduceNatCast', Nat.zero_le, Nat.reduceEqDiff, false_or, or_false, or_true, true_or, Int.reduceNeg, reduceCtorEq, false_implies, implies_true, forall_const, true_implies, not_true_eq_false, not_false_eq_true, Nat.le_refl, ne_eq, if_true, if_false, ite_true, ite_false, List.cons_append, List.nil_append, w3_add, w3_sub, w3_mul, w3_le, w3_lt, w3_eq, w3_toInt, w3_ix, w3_00, w3_10, i0_le, i0_lt, i0_ge, i0_gt, i0_eq, Int.reduceLE, Int.reduceLT, Int.reduceAdd, Int.reduceSub, Int.reduceMul, Int.reduceEq, Int.le_refl, Int.lt_irrefl]
    exact hS M1 F (Or.inr ⟨la, hP⟩)
  | succ g ih =>
    intro v M1 la hv F la1 la2 hP
    have hvn : v < (mbk M m).1 := by omega
    have e2 := F.2
    have hT1 : TMd T M1.2.2 m := by rw [e2]; exact hT
    have rn : M1.1 m 1 = w3 ((mbk M m).1 : Int) := by rw [F.1 _ _ (by unfold lpP joP; omega)]; exact hn
    have q0 : (((mbk M m).1 : Int) ≤ (v : Int)) = False := eq_false (by omega)
    have rmem : ∀ z : Int, z < 2032 → M1.1 (m + 1) z = M.1 (m + 1) z := fun z hz => F.1 _ _ (by unfold lpP joP; omega)
    cases hc : cmL (mbk M m) (cmn (mbk M m) 16) (nrB (mbk M m) (l : Int) (h : Int)) v with
    | none =>
      rw [hc] at hP
      have hP3 : M1.1 (m + 2) (κ : Int) = w3 3 := hP
      have hfin : cmL (mbk M m) (cmn (mbk M m) 16) (nrB (mbk M m) (l : Int) (h : Int)) (mbk M m).1 = none := by
        have := cmL_n hc ((mbk M m).1 - v)
        rw [show v + ((mbk M m).1 - v) = (mbk M m).1 by omega] at this
        exact this
      refine cm_go hX7_laysPair 200 oX7_laysPair (eX7_laysPair d hd) lX7_laysPair_28 ?_
      simp (disch := omega) only [jX7_laysPair, kX7_laysPair_0, fl_7_13, fl_7_155, fl_7_16, e2, rn, q0, hP3, k0, r0, r2, r3, r6, r9, r10, r11, r12, r13, r14, r15, r16, r17, r18, r19, r22, r25, r26, r27, c1, c2, c3, c4, c5, c6, c7, c8, c9, c10, c11, c12, c13, c14, c15, c16, c17, c18, c19, l1, l2, l3, l4, l5, l6, l7, l8, l9, l10, l11, l12, l13, l14, l15, l16, l17, l18, l19, cn_iconst, cn_lconst0, cn_lconst1, cn_null, cn_iload, cn_aload, cn_lload, cn_lo1, cn_loa1, cn_loa2, cn_lol1, cn_get0, cn_gets, cn_put0, cn_puts, cn_istore, cn_astore, cn_astoreN, cn_lstore, cn_iinc, cn_in1, cn_iadd, cn_isub, cn_imul, cn_iand, cn_ior, cn_ixor, cn_ishl, cn_ishr, cn_iushr, cn_idiv, cn_irem, cn_ladd, cn_lmul, cn_ldiv, cn_lrem, cn_i2l, cn_l2i, cn_i2b, cn_lcmp, cn_dupi, cn_dupr, cn_dup2, cn_popi, cn_popr, cn_goto, cn_if_eq, cn_if_ne, cn_if_lt, cn_if_ge, cn_if_gt, cn_if_le, cn_ic_eq, cn_ic_ne, cn_ic_lt, cn_ic_ge, cn_ic_gt, cn_ic_le, cn_ifnullN, cn_ifnullR, cn_ifnonnullN, cn_ifnonnullR, cn_tswS, cn_tsw0, cn_tsw1, cn_lswS, cn_lsw0, cn_lsw1, cn_alen, cn_iaload, cn_laload, cn_rr1, cn_rr0, cn_aaload, cn_iastore, cn_lastore, cn_aastore, cn_getfield, cn_gf0, cn_gf1, cn_gf2, cn_gf3, cn_putfield, cn_pf0f, cn_pf1f, cn_pf2f, cn_pf3f, cn_pf0t, cn_pf1t, cn_pf2t, cn_pf3t, cn_new, cn_nw1, cn_newi, cn_newl, cn_anew, cn_an1, cn_inv_v, cn_inv_s, cn_inv_p, cn_ca1, cn_cb1, cn_pop0, cn_pops, cn_rk0, cn_rk1, cn_kcn, cn_kcs, cn_ireturn, cn_lreturn, cn_areturn, cn_return, cn_re0, cn_re1, cn_re2, cn_re3, cn_re4, cn_re5, cn_wp0, cn_wps, cn_m0, cn_m1, cn_e0, cn_en, cn_ei, cn_er, cn_eu, cn_el, cn_nl0, cn_nls, cn_nb0, cn_nb1, cn_nb2, cn_nb3, cn_bd0, cn_bds, cn_cwi, cn_cwr, cn_cwl, cn_cwn, cn_wi2, cn_wl1, cn_wl3, cn_wr1, cn_wr2, cn_wi_eq, cn_wl_eq, cb_0, cb_n0, cb_b, cm_okb0, cm_okb1, Classical.not_not, true_and, and_true, Nat.reduceAdd, Nat.reduceSub, Nat.reduceLT, Nat.reduceLeDiff, Int.reduceToNat, Int.reduceNatCast', Nat.zero_le, Nat.reduceEqDiff, false_or, or_false, or_true, true_or, Int.reduceNeg, reduceCtorEq, false_implies, implies_true, forall_const, true_implies, not_true_eq_false, not_false_eq_true, Nat.le_refl, ne_eq, if_true, if_false, ite_true, ite_false, List.cons_append, List.nil_append, w3_add, w3_sub, w3_mul, w3_le, w3_lt, w3_eq, w3_toInt, w3_ix, w3_00, w3_10, i0_le, i0_lt, i0_ge, i0_gt, i0_eq, Int.reduceLE, Int.reduceLT, Int.reduceAdd, Int.reduceSub, Int.reduceMul, Int.reduceEq, Int.le_refl, Int.lt_irrefl]
      repeat (with_reducible refine And.intro (by omega) ?_)
      refine hS M1 F (Or.inr ⟨0, ?_⟩)
      rw [hfin]
      exact hP3
    | some cl =>
      obtain ⟨c, lb⟩ := cl
      rw [hc] at hP
      have hpair : ∃ P : Int, M1.1 (m + 2) (κ : Int) = w3 P ∧ P < 3 ∧ 0 ≤ P := by
        cases c with
        | none => exact ⟨1, hP.2.2, by omega, by omega⟩
        | some t =>
          rcases hP.2.2.2 with ⟨a, -⟩ | ⟨a, -⟩
          · exact ⟨1, a, by omega, by omega⟩
          · exact ⟨2, a, by omega, by omega⟩
      obtain ⟨P, hPp, P3, P0⟩ := hpair
      have q3 : ((3 : Int) ≤ P) = False := eq_false (by omega)
      refine cm_go hX7_laysPair 200 oX7_laysPair (eX7_laysPair d hd) lX7_laysPair_28 ?_
      simp (disch := omega) only [jX7_laysPair, kX7_laysPair_0, fl_7_13, fl_7_155, fl_7_16, e2, rn, q0, hPp, q3, k0, r0, r2, r3, r6, r9, r10, r11, r12, r13, r14, r15, r16, r17, r18, r19, r22, r25, r26, r27, c1, c2, c3, c4, c5, c6, c7, c8, c9, c10, c11, c12, c13, c14, c15, c16, c17, c18, c19, l1, l2, l3, l4, l5, l6, l7, l8, l9, l10, l11, l12, l13, l14, l15, l16, l17, l18, l19, cn_iconst, cn_lconst0, cn_lconst1, cn_null, cn_iload, cn_aload, cn_lload, cn_lo1, cn_loa1, cn_loa2, cn_lol1, cn_get0, cn_gets, cn_put0, cn_puts, cn_istore, cn_astore, cn_astoreN, cn_lstore, cn_iinc, cn_in1, cn_iadd, cn_isub, cn_imul, cn_iand, cn_ior, cn_ixor, cn_ishl, cn_ishr, cn_iushr, cn_idiv, cn_irem, cn_ladd, cn_lmul, cn_ldiv, cn_lrem, cn_i2l, cn_l2i, cn_i2b, cn_lcmp, cn_dupi, cn_dupr, cn_dup2, cn_popi, cn_popr, cn_goto, cn_if_eq, cn_if_ne, cn_if_lt, cn_if_ge, cn_if_gt, cn_if_le, cn_ic_eq, cn_ic_ne, cn_ic_lt, cn_ic_ge, cn_ic_gt, cn_ic_le, cn_ifnullN, cn_ifnullR, cn_ifnonnullN, cn_ifnonnullR, cn_tswS, cn_tsw0, cn_tsw1, cn_lswS, cn_lsw0, cn_lsw1, cn_alen, cn_iaload, cn_laload, cn_rr1, cn_rr0, cn_aaload, cn_iastore, cn_lastore, cn_aastore, cn_getfield, cn_gf0, cn_gf1, cn_gf2, cn_gf3, cn_putfield, cn_pf0f, cn_pf1f, cn_pf2f, cn_pf3f, cn_pf0t, cn_pf1t, cn_pf2t, cn_pf3t, cn_new, cn_nw1, cn_newi, cn_newl, cn_anew, cn_an1, cn_inv_v, cn_inv_s, cn_inv_p, cn_ca1, cn_cb1, cn_pop0, cn_pops, cn_rk0, cn_rk1, cn_kcn, cn_kcs, cn_ireturn, cn_lreturn, cn_areturn, cn_return, cn_re0, cn_re1, cn_re2, cn_re3, cn_re4, cn_re5, cn_wp0, cn_wps, cn_m0, cn_m1, cn_e0, cn_en, cn_ei, cn_er, cn_eu, cn_el, cn_nl0, cn_nls, cn_nb0, cn_nb1, cn_nb2, cn_nb3, cn_bd0, cn_bds, cn_cwi, cn_cwr, cn_cwl, cn_cwn, cn_wi2, cn_wl1, cn_wl3, cn_wr1, cn_wr2, cn_wi_eq, cn_wl_eq, cb_0, cb_n0, cb_b, cm_okb0, cm_okb1, Classical.not_not, true_and, and_true, Nat.reduceAdd, Nat.reduceSub, Nat.reduceLT, Nat.reduceLeDiff, Int.reduceToNat, Int.reduceNatCast', Nat.zero_le, Nat.reduceEqDiff, false_or, or_false, or_true, true_or, Int.reduceNeg, reduceCtorEq, false_implies, implies_true, forall_const, true_implies, not_true_eq_false, not_false_eq_true, Nat.le_refl, ne_eq, if_true, if_false, ite_true, ite_false, List.cons_append, List.nil_append, w3_add, w3_sub, w3_mul, w3_le, w3_lt, w3_eq, w3_toInt, w3_ix, w3_00, w3_10, i0_le, i0_lt, i0_ge, i0_gt, i0_eq, Int.reduceLE, Int.reduceLT, Int.reduceAdd, Int.reduceSub, Int.reduceMul, Int.reduceEq, Int.le_refl, Int.lt_irrefl]
      repeat (with_reducible refine And.intro (by omega) ?_)
      refine ⟨v, rfl, by omega, ?_⟩
      by_cases hbt : bs (nrB (mbk M m) (l : Int) (h : Int)) v
      · rw [cb_t (show hb (nrB (mbk M m) (l : Int) (h : Int)) (w3 (v : Int)) from hbt)]
        have hvh : v < h := by have := (nrB_ln h16 hlh hh hbt (by omega)).1; omega
        obtain ⟨fil1, fil2⟩ := hD.2.1.2.1.fil hvn
        have fil1 : ((mbk M m).2 v).1.2 = tA (M.1 (m + 1)) (127 * (v : Int) + 4) := fil1
        have tac : tA (M1.1 (m + 1)) (127 * (v : Int) + 4) = tA (M.1 (m + 1)) (127 * (v : Int) + 4) := (tA_cong (fun φ hφ => (fil2 φ hφ).2) (fun k a b => (rmem _ (by omega)).symm)).symm
        have fil3 : ∀ φ : Nat, φ < 3 → -1 ≤ (M1.1 (m + 1) (127 * (v : Int) + 4 + 41 * (φ : Int))).toInt ∧ (M1.1 (m + 1) (127 * (v : Int) + 4 + 41 * (φ : Int))).toInt ≤ 40 := fun φ hφ => by rw [rmem _ (by omega)]; exact fil2 φ hφ
        cases c with
        | none =>
          obtain ⟨ela, elb, hp1⟩ := hP
          subst ela
          simp (disch := omega) only [jX7_laysPair, kX7_laysPair_0, fl_7_13, fl_7_155, fl_7_16, e2, k0, r0, r2, r3, r6, r9, r10, r11, r12, r13, r14, r15, r16, r17, r18, r19, r22, r25, r26, r27, c1, c2, c3, c4, c5, c6, c7, c8, c9, c10, c11, c12, c13, c14, c15, c16, c17, c18, c19, l1, l2, l3, l4, l5, l6, l7, l8, l9, l10, l11, l12, l13, l14, l15, l16, l17, l18, l19, cn_iconst, cn_lconst0, cn_lconst1, cn_null, cn_iload, cn_aload, cn_lload, cn_lo1, cn_loa1, cn_loa2, cn_lol1, cn_get0, cn_gets, cn_put0, cn_puts, cn_istore, cn_astore, cn_astoreN, cn_lstore, cn_iinc, cn_in1, cn_iadd, cn_isub, cn_imul, cn_iand, cn_ior, cn_ixor, cn_ishl, cn_ishr, cn_iushr, cn_idiv, cn_irem, cn_ladd, cn_lmul, cn_ldiv, cn_lrem, cn_i2l, cn_l2i, cn_i2b, cn_lcmp, cn_dupi, cn_dupr, cn_dup2, cn_popi, cn_popr, cn_goto, cn_if_eq, cn_if_ne, cn_if_lt, cn_if_ge, cn_if_gt, cn_if_le, cn_ic_eq, cn_ic_ne, cn_ic_lt, cn_ic_ge, cn_ic_gt, cn_ic_le, cn_ifnullN, cn_ifnullR, cn_ifnonnullN, cn_ifnonnullR, cn_tswS, cn_tsw0, cn_tsw1, cn_lswS, cn_lsw0, cn_lsw1, cn_alen, cn_iaload, cn_laload, cn_rr1, cn_rr0, cn_aaload, cn_iastore, cn_lastore, cn_aastore, cn_getfield, cn_gf0, cn_gf1, cn_gf2, cn_gf3, cn_putfield, cn_pf0f, cn_pf1f, cn_pf2f, cn_pf3f, cn_pf0t, cn_pf1t, cn_pf2t, cn_pf3t, cn_new, cn_nw1, cn_newi, cn_newl, cn_anew, cn_an1, cn_inv_v, cn_inv_s, cn_inv_p, cn_ca1, cn_cb1, cn_pop0, cn_pops, cn_rk0, cn_rk1, cn_kcn, cn_kcs, cn_ireturn, cn_lreturn, cn_areturn, cn_return, cn_re0, cn_re1, cn_re2, cn_re3, cn_re4, cn_re5, cn_wp0, cn_wps, cn_m0, cn_m1, cn_e0, cn_en, cn_ei, cn_er, cn_eu, cn_el, cn_nl0, cn_nls, cn_nb0, cn_nb1, cn_nb2, cn_nb3, cn_bd0, cn_bds, cn_cwi, cn_cwr, cn_cwl, cn_cwn, cn_wi2, cn_wl1, cn_wl3, cn_wr1, cn_wr2, cn_wi_eq, cn_wl_eq, cb_0, cb_n0, cb_b, cm_okb0, cm_okb1, Classical.not_not, true_and, and_true, Nat.reduceAdd, Nat.reduceSub, Nat.reduceLT, Nat.reduceLeDiff, Int.reduceToNat, Int.reduceNatCast', Nat.zero_le, Nat.reduceEqDiff, false_or, or_false, or_true, true_or, Int.reduceNeg, reduceCtorEq, false_implies, implies_true, forall_const, true_implies, not_true_eq_false, not_false_eq_true, Nat.le_refl, ne_eq, if_true, if_false, ite_true, ite_false, List.cons_append, List.nil_append, w3_add, w3_sub, w3_mul, w3_le, w3_lt, w3_eq, w3_toInt, w3_ix, w3_00, w3_10, i0_le, i0_lt, i0_ge, i0_gt, i0_eq, Int.reduceLE, Int.reduceLT, Int.reduceAdd, Int.reduceSub, Int.reduceMul, Int.reduceEq, Int.le_refl, Int.lt_irrefl]
          repeat (with_reducible refine And.intro (by omega) ?_)
          have hs := cmL_1 hc hbt
          refine ih (v + 1) _ (v : Int) (by omega) (F.trans (Fz.wi (Or.inr (Or.inr ⟨rfl, rfl⟩)))) (by omega) (by omega) ?_
          rw [hs]
          refine ⟨rfl, by omega, by omega, Or.inl ⟨by rw [wi_r (by omega)]; exact hp1, v, hvh, cn_wi_eq, ?_, fun φ hφ => ?_⟩⟩
          · rw [wi_r (by omega), tac]; exact fil1
          · rw [wi_r (by omega)]; exact fil3 φ hφ
        | some t =>
          obtain ⟨elb, la0, la16, hCF⟩ := hP
          obtain ⟨u, u1, u2, u3⟩ := cmL_la v t lb hc
          have eu : la = (u : Int) := by rw [← elb]; exact u2
          have hvl := nrB_lo h16 hlh hh u3 hbt (by omega) u1
          have q9 : (la = -9) = False := eq_false (by omega)
          obtain ⟨j1, j2, j3⟩ := prI_rg u1 (show v < 16 by omega)
          have hne : prI u v ≠ prI l h := fun e => by
            have := (prI_inj u1 (by omega) hlh (by omega) e).2
            omega
          have hs := cmL_2 hc hbt
          rw [u2] at hs
          simp (disch := omega) only [jX7_laysPair, kX7_laysPair_0, fl_7_13, fl_7_155, fl_7_16, e2, q9, k0, r0, r2, r3, r6, r9, r10, r11, r12, r13, r14, r15, r16, r17, r18, r19, r22, r25, r26, r27, c1, c2, c3, c4, c5, c6, c7, c8, c9, c10, c11, c12, c13, c14, c15, c16, c17, c18, c19, l1, l2, l3, l4, l5, l6, l7, l8, l9, l10, l11, l12, l13, l14, l15, l16, l17, l18, l19, cn_iconst, cn_lconst0, cn_lconst1, cn_null, cn_iload, cn_aload, cn_lload, cn_lo1, cn_loa1, cn_loa2, cn_lol1, cn_get0, cn_gets, cn_put0, cn_puts, cn_istore, cn_astore, cn_astoreN, cn_lstore, cn_iinc, cn_in1, cn_iadd, cn_isub, cn_imul, cn_iand, cn_ior, cn_ixor, cn_ishl, cn_ishr, cn_iushr, cn_idiv, cn_irem, cn_ladd, cn_lmul, cn_ldiv, cn_lrem, cn_i2l, cn_l2i, cn_i2b, cn_lcmp, cn_dupi, cn_dupr, cn_dup2, cn_popi, cn_popr, cn_goto, cn_if_eq, cn_if_ne, cn_if_lt, cn_if_ge, cn_if_gt, cn_if_le, cn_ic_eq, cn_ic_ne, cn_ic_lt, cn_ic_ge, cn_ic_gt, cn_ic_le, cn_ifnullN, cn_ifnullR, cn_ifnonnullN, cn_ifnonnullR, cn_tswS, cn_tsw0, cn_tsw1, cn_lswS, cn_lsw0, cn_lsw1, cn_alen, cn_iaload, cn_laload, cn_rr1, cn_rr0, cn_aaload, cn_iastore, cn_lastore, cn_aastore, cn_getfield, cn_gf0, cn_gf1, cn_gf2, cn_gf3, cn_putfield, cn_pf0f, cn_pf1f, cn_pf2f, cn_pf3f, cn_pf0t, cn_pf1t, cn_pf2t, cn_pf3t, cn_new, cn_nw1, cn_newi, cn_newl, cn_anew, cn_an1, cn_inv_v, cn_inv_s, cn_inv_p, cn_ca1, cn_cb1, cn_pop0, cn_pops, cn_rk0, cn_rk1, cn_kcn, cn_kcs, cn_ireturn, cn_lreturn, cn_areturn, cn_return, cn_re0, cn_re1, cn_re2, cn_re3, cn_re4, cn_re5, cn_wp0, cn_wps, cn_m0, cn_m1, cn_e0, cn_en, cn_ei, cn_er, cn_eu, cn_el, cn_nl0, cn_nls, cn_nb0, cn_nb1, cn_nb2, cn_nb3, cn_bd0, cn_bds, cn_cwi, cn_cwr, cn_cwl, cn_cwn, cn_wi2, cn_wl1, cn_wl3, cn_wr1, cn_wr2, cn_wi_eq, cn_wl_eq, cb_0, cb_n0, cb_b, cm_okb0, cm_okb1, Classical.not_not, true_and, and_true, Nat.reduceAdd, Nat.reduceSub, Nat.reduceLT, Nat.reduceLeDiff, Int.reduceToNat, Int.reduceNatCast', Nat.zero_le, Nat.reduceEqDiff, false_or, or_false, or_true, true_or, Int.reduceNeg, reduceCtorEq, false_implies, implies_true, forall_const, true_implies, not_true_eq_false, not_false_eq_true, Nat.le_refl, ne_eq, if_true, if_false, ite_true, ite_false, List.cons_append, List.nil_append, w3_add, w3_sub, w3_mul, w3_le, w3_lt, w3_eq, w3_toInt, w3_ix, w3_00, w3_10, i0_le, i0_lt, i0_ge, i0_gt, i0_eq, Int.reduceLE, Int.reduceLT, Int.reduceAdd, Int.reduceSub, Int.reduceMul, Int.reduceEq, Int.le_refl, Int.lt_irrefl]
          refine ⟨u, v, u1, by omega, Or.inl ⟨by rw [eu], rfl⟩, ?_⟩
          simp (disch := omega) only [jX7_laysPair, kX7_laysPair_0, fl_7_13, fl_7_155, fl_7_16, e2, k0, r0, r2, r3, r6, r9, r10, r11, r12, r13, r14, r15, r16, r17, r18, r19, r22, r25, r26, r27, c1, c2, c3, c4, c5, c6, c7, c8, c9, c10, c11, c12, c13, c14, c15, c16, c17, c18, c19, l1, l2, l3, l4, l5, l6, l7, l8, l9, l10, l11, l12, l13, l14, l15, l16, l17, l18, l19, cn_iconst, cn_lconst0, cn_lconst1, cn_null, cn_iload, cn_aload, cn_lload, cn_lo1, cn_loa1, cn_loa2, cn_lol1, cn_get0, cn_gets, cn_put0, cn_puts, cn_istore, cn_astore, cn_astoreN, cn_lstore, cn_iinc, cn_in1, cn_iadd, cn_isub, cn_imul, cn_iand, cn_ior, cn_ixor, cn_ishl, cn_ishr, cn_iushr, cn_idiv, cn_irem, cn_ladd, cn_lmul, cn_ldiv, cn_lrem, cn_i2l, cn_l2i, cn_i2b, cn_lcmp, cn_dupi, cn_dupr, cn_dup2, cn_popi, cn_popr, cn_goto, cn_if_eq, cn_if_ne, cn_if_lt, cn_if_ge, cn_if_gt, cn_if_le, cn_ic_eq, cn_ic_ne, cn_ic_lt, cn_ic_ge, cn_ic_gt, cn_ic_le, cn_ifnullN, cn_ifnullR, cn_ifnonnullN, cn_ifnonnullR, cn_tswS, cn_tsw0, cn_tsw1, cn_lswS, cn_lsw0, cn_lsw1, cn_alen, cn_iaload, cn_laload, cn_rr1, cn_rr0, cn_aaload, cn_iastore, cn_lastore, cn_aastore, cn_getfield, cn_gf0, cn_gf1, cn_gf2, cn_gf3, cn_putfield, cn_pf0f, cn_pf1f, cn_pf2f, cn_pf3f, cn_pf0t, cn_pf1t, cn_pf2t, cn_pf3t, cn_new, cn_nw1, cn_newi, cn_newl, cn_anew, cn_an1, cn_inv_v, cn_inv_s, cn_inv_p, cn_ca1, cn_cb1, cn_pop0, cn_pops, cn_rk0, cn_rk1, cn_kcn, cn_kcs, cn_ireturn, cn_lreturn, cn_areturn, cn_return, cn_re0, cn_re1, cn_re2, cn_re3, cn_re4, cn_re5, cn_wp0, cn_wps, cn_m0, cn_m1, cn_e0, cn_en, cn_ei, cn_er, cn_eu, cn_el, cn_nl0, cn_nls, cn_nb0, cn_nb1, cn_nb2, cn_nb3, cn_bd0, cn_bds, cn_cwi, cn_cwr, cn_cwl, cn_cwn, cn_wi2, cn_wl1, cn_wl3, cn_wr1, cn_wr2, cn_wi_eq, cn_wl_eq, cb_0, cb_n0, cb_b, cm_okb0, cm_okb1, Classical.not_not, true_and, and_true, Nat.reduceAdd, Nat.reduceSub, Nat.reduceLT, Nat.reduceLeDiff, Int.reduceToNat, Int.reduceNatCast', Nat.zero_le, Nat.reduceEqDiff, false_or, or_false, or_true, true_or, Int.reduceNeg, reduceCtorEq, false_implies, implies_true, forall_const, true_implies, not_true_eq_false, not_false_eq_true, Nat.le_refl, ne_eq, if_true, if_false, ite_true, ite_false, List.cons_append, List.nil_append, w3_add, w3_sub, w3_mul, w3_le, w3_lt, w3_eq, w3_toInt, w3_ix, w3_00, w3_10, i0_le, i0_lt, i0_ge, i0_gt, i0_eq, Int.reduceLE, Int.reduceLT, Int.reduceAdd, Int.reduceSub, Int.reduceMul, Int.reduceEq, Int.le_refl, Int.lt_irrefl]
          obtain ⟨ω, hω⟩ : ∃ ω : Nat, prI u v = (ω : Int) := ⟨(prI u v).toNat, by omega⟩
          have pw : M1.1 (m + 2) (ω : Int) = M.1 (m + 2) (prI u v) := by rw [← hω]; exact F.1 _ _ (by unfold lpP joP; omega)
          have gw : M1.1 (m + 3) (ω : Int) = M.1 (m + 3) (prI u v) := by rw [← hω]; exact F.1 _ _ (by unfold lpP joP; omega)
          have hca := (hD.2.1.2.2.2 u v u1 (by omega)).resolve_left (hlo u v u1 (by omega))
          obtain ⟨-, hca⟩ := hca
          rw [hω]
          have cont : ∀ M2, Fz (joP m κ) M1 M2 → LPs M M2 m κ h (v + 1) (cmL (mbk M m) (cmn (mbk M m) 16) (nrB (mbk M m) (l : Int) (h : Int)) (v + 1)) (v : Int) → cm_Go d cX7_laysPair 7 0 0 JX7_laysPair Φ 28 [some (.ref m), some (.int (w3 (l : Int))), some (.int (w3 (h : Int))), some (.int (w3 (κ : Int))), some (.int (nrB (mbk M m) (l : Int) (h : Int))), some (.int (w3 (v : Int))), some (.int (w3 ((v : Int) + 1)))] [] (0, 0) T M2 := fun M2 F2 hL => ih (v + 1) M2 (v : Int) (by omega) (F.trans (F2.mono (fun q k w => Or.inl w))) (by omega) (by omega) hL
          have tvg := cmL_g hW (fun a b X hx => cmn_g hW 16 a b X hx) (fun w a b c => c (nrB_no h16 w a b)) v t lb (by omega) hc
          rcases hca with ⟨a1, w, w1, w2, tt, w3'⟩ | ⟨a1, ⟨tt, a2⟩, a3⟩ | ⟨a1, a2⟩
          · have hG := cmn_g hW 16 _ _ _ w3'
            obtain ⟨gf1, gf2⟩ := hD.2.1.2.1.fil (Nat.lt_trans w1 hvn)
            have gf1 : ((mbk M m).2 w).1.2 = tA (M.1 (m + 1)) (127 * (w : Int) + 4) := gf1
            have tacw : tA (M1.1 (m + 1)) (127 * (w : Int) + 4) = tA (M.1 (m + 1)) (127 * (w : Int) + 4) := (tA_cong (fun φ hφ => (gf2 φ hφ).2) (fun k a b => (rmem _ (by omega)).symm)).symm
            refine ⟨h, κ, v, ω, rfl, rfl, rfl, Or.inr ⟨t.2, ((mbk M m).2 v).1.2, ((mbk M m).2 w).1.2, ⟨hT1, (show h ≤ 16 by omega), hκ2, by omega, hvh, by omega, hCF, Or.inl ⟨by rw [pw]; exact a1, w, Nat.lt_trans w1 hvh, by rw [gw]; exact w2, by rw [gf1, tacw], fun φ hφ => by rw [rmem _ (by omega)]; exact gf2 φ hφ⟩, by rw [fil1, tac], fil3, tvg.b3, (hW.2.1 v hvn).1.b3, hG.b3⟩, fun M2 F2 hno hyes => ?_⟩⟩
            simp (disch := omega) only [jX7_laysPair, kX7_laysPair_0, fl_7_13, fl_7_155, fl_7_16, cn_iconst, cn_lconst0, cn_lconst1, cn_null, cn_iload, cn_aload, cn_lload, cn_lo1, cn_loa1, cn_loa2, cn_lol1, cn_get0, cn_gets, cn_put0, cn_puts, cn_istore, cn_astore, cn_astoreN, cn_lstore, cn_iinc, cn_in1, cn_iadd, cn_isub, cn_imul, cn_iand, cn_ior, cn_ixor, cn_ishl, cn_ishr, cn_iushr, cn_idiv, cn_irem, cn_ladd, cn_lmul, cn_ldiv, cn_lrem, cn_i2l, cn_l2i, cn_i2b, cn_lcmp, cn_dupi, cn_dupr, cn_dup2, cn_popi, cn_popr, cn_goto, cn_if_eq, cn_if_ne, cn_if_lt, cn_if_ge, cn_if_gt, cn_if_le, cn_ic_eq, cn_ic_ne, cn_ic_lt, cn_ic_ge, cn_ic_gt, cn_ic_le, cn_ifnullN, cn_ifnullR, cn_ifnonnullN, cn_ifnonnullR, cn_tswS, cn_tsw0, cn_tsw1, cn_lswS, cn_lsw0, cn_lsw1, cn_alen, cn_iaload, cn_laload, cn_rr1, cn_rr0, cn_aaload, cn_iastore, cn_lastore, cn_aastore, cn_getfield, cn_gf0, cn_gf1, cn_gf2, cn_gf3, cn_putfield, cn_pf0f, cn_pf1f, cn_pf2f, cn_pf3f, cn_pf0t, cn_pf1t, cn_pf2t, cn_pf3t, cn_new, cn_nw1, cn_newi, cn_newl, cn_anew, cn_an1, cn_inv_v, cn_inv_s, cn_inv_p, cn_ca1, cn_cb1, cn_pop0, cn_pops, cn_rk0, cn_rk1, cn_kcn, cn_kcs, cn_ireturn, cn_lreturn, cn_areturn, cn_return, cn_re0, cn_re1, cn_re2, cn_re3, cn_re4, cn_re5, cn_wp0, cn_wps, cn_m0, cn_m1, cn_e0, cn_en, cn_ei, cn_er, cn_eu, cn_el, cn_nl0, cn_nls, cn_nb0, cn_nb1, cn_nb2, cn_nb3, cn_bd0, cn_bds, cn_cwi, cn_cwr, cn_cwl, cn_cwn, cn_wi2, cn_wl1, cn_wl3, cn_wr1, cn_wr2, cn_wi_eq, cn_wl_eq, cb_0, cb_n0, cb_b, cm_okb0, cm_okb1, Classical.not_not, true_and, and_true, Nat.reduceAdd, Nat.reduceSub, Nat.reduceLT, Nat.reduceLeDiff, Int.reduceToNat, Int.reduceNatCast', Nat.zero_le, Nat.reduceEqDiff, false_or, or_false, or_true, true_or, Int.reduceNeg, reduceCtorEq, false_implies, implies_true, forall_const, true_implies, not_true_eq_false, not_false_eq_true, Nat.le_refl, ne_eq, if_true, if_false, ite_true, ite_false, List.cons_append, List.nil_append, w3_add, w3_sub, w3_mul, w3_le, w3_lt, w3_eq, w3_toInt, w3_ix, w3_00, w3_10, i0_le, i0_lt, i0_ge, i0_gt, i0_eq, Int.reduceLE, Int.reduceLT, Int.reduceAdd, Int.reduceSub, Int.reduceMul, Int.reduceEq, Int.le_refl, Int.lt_irrefl]
            refine cont M2 F2 ?_
            rw [hs, w3']
            obtain ⟨t1, t2⟩ := mgT_3 (x := t) (y := ((mbk M m).2 v).1) (z := (tt, ((mbk M m).2 w).1.2))
            cases hm : mgT false t ((mbk M m).2 v).1 (tt, ((mbk M m).2 w).1.2) with
            | none => simp only [hm]; exact hno (t1 hm)
            | some X =>
              simp only [hm]
              obtain ⟨x1, x2, x3⟩ := hyes _ (t2 X hm)
              exact ⟨rfl, by omega, by omega, Or.inr ⟨x1, x2.symm, x3⟩⟩
          · have hG := cmn_g hW 16 _ _ _ a2
            have hne2 : ω ≠ κ := by omega
            have rc : ∀ z : Int, 2032 + 123 * (ω : Int) ≤ z → z < 2032 + 123 * (ω : Int) + 123 → M1.1 (m + 1) z = M.1 (m + 1) z := fun z z1 z2 => F.1 _ _ (by unfold lpP joP; omega)
            rw [hω] at a2 a3
            have taco : tA (M1.1 (m + 1)) (2032 + 123 * (ω : Int)) = tA (M.1 (m + 1)) (2032 + 123 * (ω : Int)) := (tA_cong (fun φ hφ => (a3 φ hφ).2) (fun k a b => (rc _ (by omega) (by omega)).symm)).symm
            refine ⟨h, κ, v, ω, rfl, rfl, rfl, Or.inr ⟨t.2, ((mbk M m).2 v).1.2, tA (M.1 (m + 1)) (2032 + 123 * (ω : Int)), ⟨hT1, (show h ≤ 16 by omega), hκ2, by omega, hvh, by omega, hCF, Or.inr ⟨by rw [pw]; exact a1, taco.symm, fun φ hφ => by rw [rc _ (by omega) (by omega)]; exact a3 φ hφ⟩, by rw [fil1, tac], fil3, tvg.b3, (hW.2.1 v hvn).1.b3, by rw [hω] at hG; exact hG.b3⟩, fun M2 F2 hno hyes => ?_⟩⟩
            simp (disch := omega) only [jX7_laysPair, kX7_laysPair_0, fl_7_13, fl_7_155, fl_7_16, cn_iconst, cn_lconst0, cn_lconst1, cn_null, cn_iload, cn_aload, cn_lload, cn_lo1, cn_loa1, cn_loa2, cn_lol1, cn_get0, cn_gets, cn_put0, cn_puts, cn_istore, cn_astore, cn_astoreN, cn_lstore, cn_iinc, cn_in1, cn_iadd, cn_isub, cn_imul, cn_iand, cn_ior, cn_ixor, cn_ishl, cn_ishr, cn_iushr, cn_idiv, cn_irem, cn_ladd, cn_lmul, cn_ldiv, cn_lrem, cn_i2l, cn_l2i, cn_i2b, cn_lcmp, cn_dupi, cn_dupr, cn_dup2, cn_popi, cn_popr, cn_goto, cn_if_eq, cn_if_ne, cn_if_lt, cn_if_ge, cn_if_gt, cn_if_le, cn_ic_eq, cn_ic_ne, cn_ic_lt, cn_ic_ge, cn_ic_gt, cn_ic_le, cn_ifnullN, cn_ifnullR, cn_ifnonnullN, cn_ifnonnullR, cn_tswS, cn_tsw0, cn_tsw1, cn_lswS, cn_lsw0, cn_lsw1, cn_alen, cn_iaload, cn_laload, cn_rr1, cn_rr0, cn_aaload, cn_iastore, cn_lastore, cn_aastore, cn_getfield, cn_gf0, cn_gf1, cn_gf2, cn_gf3, cn_putfield, cn_pf0f, cn_pf1f, cn_pf2f, cn_pf3f, cn_pf0t, cn_pf1t, cn_pf2t, cn_pf3t, cn_new, cn_nw1, cn_newi, cn_newl, cn_anew, cn_an1, cn_inv_v, cn_inv_s, cn_inv_p, cn_ca1, cn_cb1, cn_pop0, cn_pops, cn_rk0, cn_rk1, cn_kcn, cn_kcs, cn_ireturn, cn_lreturn, cn_areturn, cn_return, cn_re0, cn_re1, cn_re2, cn_re3, cn_re4, cn_re5, cn_wp0, cn_wps, cn_m0, cn_m1, cn_e0, cn_en, cn_ei, cn_er, cn_eu, cn_el, cn_nl0, cn_nls, cn_nb0, cn_nb1, cn_nb2, cn_nb3, cn_bd0, cn_bds, cn_cwi, cn_cwr, cn_cwl, cn_cwn, cn_wi2, cn_wl1, cn_wl3, cn_wr1, cn_wr2, cn_wi_eq, cn_wl_eq, cb_0, cb_n0, cb_b, cm_okb0, cm_okb1, Classical.not_not, true_and, and_true, Nat.reduceAdd, Nat.reduceSub, Nat.reduceLT, Nat.reduceLeDiff, Int.reduceToNat, Int.reduceNatCast', Nat.zero_le, Nat.reduceEqDiff, false_or, or_false, or_true, true_or, Int.reduceNeg, reduceCtorEq, false_implies, implies_true, forall_const, true_implies, not_true_eq_false, not_false_eq_true, Nat.le_refl, ne_eq, if_true, if_false, ite_true, ite_false, List.cons_append, List.nil_append, w3_add, w3_sub, w3_mul, w3_le, w3_lt, w3_eq, w3_toInt, w3_ix, w3_00, w3_10, i0_le, i0_lt, i0_ge, i0_gt, i0_eq, Int.reduceLE, Int.reduceLT, Int.reduceAdd, Int.reduceSub, Int.reduceMul, Int.reduceEq, Int.le_refl, Int.lt_irrefl]
            refine cont M2 F2 ?_
            rw [hs, a2]
            obtain ⟨t1, t2⟩ := mgT_3 (x := t) (y := ((mbk M m).2 v).1) (z := (tt, tA (M.1 (m + 1)) (2032 + 123 * (ω : Int))))
            cases hm : mgT false t ((mbk M m).2 v).1 (tt, tA (M.1 (m + 1)) (2032 + 123 * (ω : Int))) with
            | none => simp only [hm]; exact hno (t1 hm)
            | some X =>
              simp only [hm]
              obtain ⟨x1, x2, x3⟩ := hyes _ (t2 X hm)
              exact ⟨rfl, by omega, by omega, Or.inr ⟨x1, x2.symm, x3⟩⟩
          · refine ⟨(mbk M m).1, κ, v, ω, rfl, rfl, rfl, Or.inl ⟨hT1, hκ2, by omega, by rw [pw]; exact a1, ?_⟩⟩
            simp (disch := omega) only [jX7_laysPair, kX7_laysPair_0, fl_7_13, fl_7_155, fl_7_16, cn_iconst, cn_lconst0, cn_lconst1, cn_null, cn_iload, cn_aload, cn_lload, cn_lo1, cn_loa1, cn_loa2, cn_lol1, cn_get0, cn_gets, cn_put0, cn_puts, cn_istore, cn_astore, cn_astoreN, cn_lstore, cn_iinc, cn_in1, cn_iadd, cn_isub, cn_imul, cn_iand, cn_ior, cn_ixor, cn_ishl, cn_ishr, cn_iushr, cn_idiv, cn_irem, cn_ladd, cn_lmul, cn_ldiv, cn_lrem, cn_i2l, cn_l2i, cn_i2b, cn_lcmp, cn_dupi, cn_dupr, cn_dup2, cn_popi, cn_popr, cn_goto, cn_if_eq, cn_if_ne, cn_if_lt, cn_if_ge, cn_if_gt, cn_if_le, cn_ic_eq, cn_ic_ne, cn_ic_lt, cn_ic_ge, cn_ic_gt, cn_ic_le, cn_ifnullN, cn_ifnullR, cn_ifnonnullN, cn_ifnonnullR, cn_tswS, cn_tsw0, cn_tsw1, cn_lswS, cn_lsw0, cn_lsw1, cn_alen, cn_iaload, cn_laload, cn_rr1, cn_rr0, cn_aaload, cn_iastore, cn_lastore, cn_aastore, cn_getfield, cn_gf0, cn_gf1, cn_gf2, cn_gf3, cn_putfield, cn_pf0f, cn_pf1f, cn_pf2f, cn_pf3f, cn_pf0t, cn_pf1t, cn_pf2t, cn_pf3t, cn_new, cn_nw1, cn_newi, cn_newl, cn_anew, cn_an1, cn_inv_v, cn_inv_s, cn_inv_p, cn_ca1, cn_cb1, cn_pop0, cn_pops, cn_rk0, cn_rk1, cn_kcn, cn_kcs, cn_ireturn, cn_lreturn, cn_areturn, cn_return, cn_re0, cn_re1, cn_re2, cn_re3, cn_re4, cn_re5, cn_wp0, cn_wps, cn_m0, cn_m1, cn_e0, cn_en, cn_ei, cn_er, cn_eu, cn_el, cn_nl0, cn_nls, cn_nb0, cn_nb1, cn_nb2, cn_nb3, cn_bd0, cn_bds, cn_cwi, cn_cwr, cn_cwl, cn_cwn, cn_wi2, cn_wl1, cn_wl3, cn_wr1, cn_wr2, cn_wi_eq, cn_wl_eq, cb_0, cb_n0, cb_b, cm_okb0, cm_okb1, Classical.not_not, true_and, and_true, Nat.reduceAdd, Nat.reduceSub, Nat.reduceLT, Nat.reduceLeDiff, Int.reduceToNat, Int.reduceNatCast', Nat.zero_le, Nat.reduceEqDiff, false_or, or_false, or_true, true_or, Int.reduceNeg, reduceCtorEq, false_implies, implies_true, forall_const, true_implies, not_true_eq_false, not_false_eq_true, Nat.le_refl, ne_eq, if_true, if_false, ite_true, ite_false, List.cons_append, List.nil_append, w3_add, w3_sub, w3_mul, w3_le, w3_lt, w3_eq, w3_toInt, w3_ix, w3_00, w3_10, i0_le, i0_lt, i0_ge, i0_gt, i0_eq, Int.reduceLE, Int.reduceLT, Int.reduceAdd, Int.reduceSub, Int.reduceMul, Int.reduceEq, Int.le_refl, Int.lt_irrefl]
            refine cont _ (Fz.wi (by unfold joP; omega)) ?_
            rw [hs, a2]
            exact cn_wi_eq
      · rw [cb_f (show ¬ hb (nrB (mbk M m) (l : Int) (h : Int)) (w3 (v : Int)) from hbt)]
        simp (disch := omega) only [jX7_laysPair, kX7_laysPair_0, fl_7_13, fl_7_155, fl_7_16, e2, k0, r0, r2, r3, r6, r9, r10, r11, r12, r13, r14, r15, r16, r17, r18, r19, r22, r25, r26, r27, c1, c2, c3, c4, c5, c6, c7, c8, c9, c10, c11, c12, c13, c14, c15, c16, c17, c18, c19, l1, l2, l3, l4, l5, l6, l7, l8, l9, l10, l11, l12, l13, l14, l15, l16, l17, l18, l19, cn_iconst, cn_lconst0, cn_lconst1, cn_null, cn_iload, cn_aload, cn_lload, cn_lo1, cn_loa1, cn_loa2, cn_lol1, cn_get0, cn_gets, cn_put0, cn_puts, cn_istore, cn_astore, cn_astoreN, cn_lstore, cn_iinc, cn_in1, cn_iadd, cn_isub, cn_imul, cn_iand, cn_ior, cn_ixor, cn_ishl, cn_ishr, cn_iushr, cn_idiv, cn_irem, cn_ladd, cn_lmul, cn_ldiv, cn_lrem, cn_i2l, cn_l2i, cn_i2b, cn_lcmp, cn_dupi, cn_dupr, cn_dup2, cn_popi, cn_popr, cn_goto, cn_if_eq, cn_if_ne, cn_if_lt, cn_if_ge, cn_if_gt, cn_if_le, cn_ic_eq, cn_ic_ne, cn_ic_lt, cn_ic_ge, cn_ic_gt, cn_ic_le, cn_ifnullN, cn_ifnullR, cn_ifnonnullN, cn_ifnonnullR, cn_tswS, cn_tsw0, cn_tsw1, cn_lswS, cn_lsw0, cn_lsw1, cn_alen, cn_iaload, cn_laload, cn_rr1, cn_rr0, cn_aaload, cn_iastore, cn_lastore, cn_aastore, cn_getfield, cn_gf0, cn_gf1, cn_gf2, cn_gf3, cn_putfield, cn_pf0f, cn_pf1f, cn_pf2f, cn_pf3f, cn_pf0t, cn_pf1t, cn_pf2t, cn_pf3t, cn_new, cn_nw1, cn_newi, cn_newl, cn_anew, cn_an1, cn_inv_v, cn_inv_s, cn_inv_p, cn_ca1, cn_cb1, cn_pop0, cn_pops, cn_rk0, cn_rk1, cn_kcn, cn_kcs, cn_ireturn, cn_lreturn, cn_areturn, cn_return, cn_re0, cn_re1, cn_re2, cn_re3, cn_re4, cn_re5, cn_wp0, cn_wps, cn_m0, cn_m1, cn_e0, cn_en, cn_ei, cn_er, cn_eu, cn_el, cn_nl0, cn_nls, cn_nb0, cn_nb1, cn_nb2, cn_nb3, cn_bd0, cn_bds, cn_cwi, cn_cwr, cn_cwl, cn_cwn, cn_wi2, cn_wl1, cn_wl3, cn_wr1, cn_wr2, cn_wi_eq, cn_wl_eq, cb_0, cb_n0, cb_b, cm_okb0, cm_okb1, Classical.not_not, true_and, and_true, Nat.reduceAdd, Nat.reduceSub, Nat.reduceLT, Nat.reduceLeDiff, Int.reduceToNat, Int.reduceNatCast', Nat.zero_le, Nat.reduceEqDiff, false_or, or_false, or_true, true_or, Int.reduceNeg, reduceCtorEq, false_implies, implies_true, forall_const, true_implies, not_true_eq_false, not_false_eq_true, Nat.le_refl, ne_eq, if_true, if_false, ite_true, ite_false, List.cons_append, List.nil_append, w3_add, w3_sub, w3_mul, w3_le, w3_lt, w3_eq, w3_toInt, w3_ix, w3_00, w3_10, i0_le, i0_lt, i0_ge, i0_gt, i0_eq, Int.reduceLE, Int.reduceLT, Int.reduceAdd, Int.reduceSub, Int.reduceMul, Int.reduceEq, Int.le_refl, Int.lt_irrefl]
        have hs := cmL_0 hc (Classical.not_not.mp hbt)
        refine ih (v + 1) M1 la (by omega) F la1 la2 ?_
        rw [hs]
        exact hP

def SX3_undisputed : cm_CT := fun as T M Φ => match as with
  | [.ref a, .ref b, .ref c] => Sg T M a ∧ Sg T M b ∧ Sg T M c ∧ (fl M a = fl M b → Φ (some (.ref a)) T M) ∧ (¬ fl M a = fl M b → (fl M a = fl M c → Φ (some (.ref b)) T M) ∧ (¬ fl M a = fl M c → (fl M b = fl M c → Φ (some (.ref a)) T M) ∧ (¬ fl M b = fl M c → Φ (some .null) T M)))
  | _ => False
def JX3_undisputed : cm_J := (3, false, 4, [(85, 2, 5, 0, 0, SX4_isLike)], [], [])
theorem jX3_undisputed : JX3_undisputed.1 = 3 ∧ JX3_undisputed.2.1 = false ∧ JX3_undisputed.2.2.1 = 4 ∧ cm_gv JX3_undisputed 85 = some (2, 5, 0, 0, SX4_isLike) := ⟨rfl, rfl, rfl, rfl⟩
theorem eX3_undisputed (d : Nat) (hd : 1 ≤ d) : cm_Cok d JX3_undisputed := ⟨(List.forall_mem_cons.mpr ⟨q3_85 (mX4_isLike (d - 1) (by omega)) (by omega), (fun q h => by cases h)⟩), (fun q h => by cases h), (fun q h => by cases h)⟩
set_option maxHeartbeats 4000000 in
theorem mX3_undisputed (d : Nat) (hd : 1 ≤ d) : cm_Met d yX3_undisputed cX3_undisputed 3 (some (.object "CrissMerger$Strip")) 0 0 SX3_undisputed := by
  refine cm_meets (J := JX3_undisputed) (by decide) rfl (fun h => by cases h) trivial ?_
  intro as T M Φ hS
  match as, hS with
  | [.ref a, .ref b, .ref c], ⟨ha, hb, hc, h1, h2⟩ =>
    refine ⟨Nat.le_of_ble_eq_true rfl, ?_⟩
    have a1 := ha.1
    have b1 := hb.1
    have c1 := hc.1
    refine cm_go hX3_undisputed 200 oX3_undisputed (eX3_undisputed d hd) lX3_undisputed_0 ?_
    simp only [jX3_undisputed, kX3_undisputed_0, SX4_isLike, ha, hb, hc, a1, b1, c1, cn_iconst, cn_lconst0, cn_lconst1, cn_null, cn_iload, cn_aload, cn_lload, cn_lo1, cn_loa1, cn_loa2, cn_lol1, cn_get0, cn_gets, cn_put0, cn_puts, cn_istore, cn_astore, cn_astoreN, cn_lstore, cn_iinc, cn_in1, cn_iadd, cn_isub, cn_imul, cn_iand, cn_ior, cn_ixor, cn_ishl, cn_ishr, cn_iushr, cn_idiv, cn_irem, cn_ladd, cn_lmul, cn_ldiv, cn_lrem, cn_i2l, cn_l2i, cn_i2b, cn_lcmp, cn_dupi, cn_dupr, cn_dup2, cn_popi, cn_popr, cn_goto, cn_if_eq, cn_if_ne, cn_if_lt, cn_if_ge, cn_if_gt, cn_if_le, cn_ic_eq, cn_ic_ne, cn_ic_lt, cn_ic_ge, cn_ic_gt, cn_ic_le, cn_ifnullN, cn_ifnullR, cn_ifnonnullN, cn_ifnonnullR, cn_tswS, cn_tsw0, cn_tsw1, cn_lswS, cn_lsw0, cn_lsw1, cn_alen, cn_iaload, cn_laload, cn_rr1, cn_rr0, cn_aaload, cn_iastore, cn_lastore, cn_aastore, cn_getfield, cn_gf0, cn_gf1, cn_gf2, cn_gf3, cn_putfield, cn_pf0f, cn_pf1f, cn_pf2f, cn_pf3f, cn_pf0t, cn_pf1t, cn_pf2t, cn_pf3t, cn_new, cn_nw1, cn_newi, cn_newl, cn_anew, cn_an1, cn_inv_v, cn_inv_s, cn_inv_p, cn_ca1, cn_cb1, cn_pop0, cn_pops, cn_rk0, cn_rk1, cn_kcn, cn_kcs, cn_ireturn, cn_lreturn, cn_areturn, cn_return, cn_re0, cn_re1, cn_re2, cn_re3, cn_re4, cn_re5, cn_wp0, cn_wps, cn_m0, cn_m1, cn_e0, cn_en, cn_ei, cn_er, cn_eu, cn_el, cn_nl0, cn_nls, cn_nb0, cn_nb1, cn_nb2, cn_nb3, cn_bd0, cn_bds, cn_cwi, cn_cwr, cn_cwl, cn_cwn, cn_wi2, cn_wl1, cn_wl3, cn_wr1, cn_wr2, cn_wi_eq, cn_wl_eq, cb_0, cb_n0, cb_b, cm_okb0, cm_okb1, Classical.not_not, true_and, and_true, Nat.reduceAdd, Nat.reduceSub, Nat.reduceLT, Nat.reduceLeDiff, Int.reduceToNat, Int.reduceNatCast', Nat.zero_le, Nat.reduceEqDiff, false_or, or_false, or_true, true_or, Int.reduceNeg, reduceCtorEq, false_implies, implies_true, forall_const, true_implies, not_true_eq_false, not_false_eq_true, Nat.le_refl, ne_eq, if_true, if_false, ite_true, ite_false, List.cons_append, List.nil_append]
    exact ⟨fun q => ⟨fun q2 => ⟨fun q3 => ((h2 q).2 q2).2 q3, fun q3 => ((h2 q).2 q2).1 q3⟩, fun q2 => (h2 q).1 q2⟩, fun q => h1 q⟩
theorem pR_rg (al : Nat → Nat → Prop) (m n k : Nat) : ∀ a b : Nat, b ≤ n → pR al m n k a b = -9 ∨ (((n : Int) - (b : Int)) ≤ pR al m n k a b ∧ pR al m n k a b < (n : Int))
  | 0, b, _ => Or.inl (pR_0 _ _ _ _ _)
  | a + 1, 0, _ => Or.inl (pR_1 _ _ _ _ _)
  | a + 1, b + 1, hb => by
    have h1 := pR_rg al m n k a b (by omega)
    have h2 := pR_rg al m n k a (b + 1) hb
    have h3 := pR_rg al m n k (a + 1) b (by omega)
    rw [pR_2]
    by_cases q : al (m - (a + 1)) (n - (b + 1))
    · rw [if_pos q]
      by_cases e : k = m - (a + 1)
      · rw [if_pos e]; omega
      · rw [if_neg e]; omega
    · rw [if_neg q]
      by_cases e : lcR al m n a (b + 1) = lcR al m n (a + 1) (b + 1)
      · rw [if_pos e]; exact h2
      · rw [if_neg e]; omega
termination_by a b => (a, b)
theorem pR_mono (al : Nat → Nat → Prop) (m n k l : Nat) (hkl : k < l) : ∀ a b : Nat, a ≤ m → b ≤ n → 0 ≤ pR al m n k a b → 0 ≤ pR al m n l a b → pR al m n k a b < pR al m n l a b
  | 0, b, _, _, h, _ => by rw [pR_0] at h; omega
  | a + 1, 0, _, _, h, _ => by rw [pR_1] at h; omega
  | a + 1, b + 1, ha, hb, h, h' => by
    have h1 := pR_mono al m n k l hkl a b (by omega) (by omega)
    have h2 := pR_mono al m n k l hkl a (b + 1) (by omega) hb
    have h3 := pR_mono al m n k l hkl (a + 1) b ha (by omega)
    have r1 := pR_rg al m n l a b (by omega)
    rw [pR_2] at h h' ⊢
    rw [pR_2]
    by_cases q : al (m - (a + 1)) (n - (b + 1))
    · rw [if_pos q] at h h' ⊢
      rw [if_pos q]
      by_cases e' : l = m - (a + 1)
      · have e : ¬ k = m - (a + 1) := by omega
        rw [if_neg e, pR_k al m n k a b (by omega) (by omega)] at h
        omega
      · rw [if_neg e'] at h' ⊢
        by_cases e : k = m - (a + 1)
        · rw [if_pos e]; omega
        · rw [if_neg e] at h ⊢
          exact h1 h h'
    · rw [if_neg q] at h h' ⊢
      rw [if_neg q]
      by_cases e : lcR al m n a (b + 1) = lcR al m n (a + 1) (b + 1)
      · rw [if_pos e] at h h' ⊢
        rw [if_pos e]
        exact h2 h h'
      · rw [if_neg e] at h h' ⊢
        rw [if_neg e]
        exact h3 h h'
termination_by a b => (a, b)
/-- with which line of e line k of c is matched -/
noncomputable def prt (c e : List Int32) (k : Nat) : Int := PA (aln c e) (nl c) (nl e) k 0 0
theorem prt_rg (c e : List Int32) (k : Nat) : prt c e k = -9 ∨ (0 ≤ prt c e k ∧ prt c e k < (nl e : Int)) := by
  have := pR_rg (aln c e) (nl c) (nl e) k (nl c - 0) (nl e - 0) (by omega)
  unfold prt PA
  omega
theorem prt_mono {c e : List Int32} {k l : Nat} (h : k < l) (h1 : 0 ≤ prt c e k) (h2 : 0 ≤ prt c e l) : prt c e k < prt c e l := pR_mono (aln c e) (nl c) (nl e) k l h _ _ (by omega) (by omega) h1 h2
/-- lines merged so far: where each of base, ours, theirs is, what has come -/
noncomputable def mgS (tn : Bool) (co cb ct : List Int32) : Nat → Nat × Nat × Nat × List Int32
  | 0 => (0, 0, 0, [])
  | k + 1 => if 0 ≤ prt cb co k ∧ 0 ≤ prt cb ct k then (k + 1, (prt cb co k).toNat + 1, (prt cb ct k).toNat + 1, (mgS tn co cb ct k).2.2.2 ++ gapL tn co cb ct (mgS tn co cb ct k).2.1 (prt cb co k).toNat (mgS tn co cb ct k).1 k (mgS tn co cb ct k).2.2.1 (prt cb ct k).toNat ++ slc cb (stt cb k) (stt cb (k + 1))) else mgS tn co cb ct k
noncomputable def mgL (tn : Bool) (co cb ct : List Int32) : List Int32 := (mgS tn co cb ct (nl cb)).2.2.2 ++ gapL tn co cb ct (mgS tn co cb ct (nl cb)).2.1 (nl co) (mgS tn co cb ct (nl cb)).1 (nl cb) (mgS tn co cb ct (nl cb)).2.2.1 (nl ct)
theorem mgS_t {tn : Bool} {co cb ct : List Int32} {k : Nat} (h1 : 0 ≤ prt cb co k) (h2 : 0 ≤ prt cb ct k) : mgS tn co cb ct (k + 1) = (k + 1, (prt cb co k).toNat + 1, (prt cb ct k).toNat + 1, (mgS tn co cb ct k).2.2.2 ++ gapL tn co cb ct (mgS tn co cb ct k).2.1 (prt cb co k).toNat (mgS tn co cb ct k).1 k (mgS tn co cb ct k).2.2.1 (prt cb ct k).toNat ++ slc cb (stt cb k) (stt cb (k + 1))) := if_pos ⟨h1, h2⟩
theorem mgS_f {tn : Bool} {co cb ct : List Int32} {k : Nat} (h : ¬ (0 ≤ prt cb co k ∧ 0 ≤ prt cb ct k)) : mgS tn co cb ct (k + 1) = mgS tn co cb ct k := if_neg h
theorem mgS_rg (tn : Bool) (co cb ct : List Int32) : ∀ k : Nat, (mgS tn co cb ct k).1 ≤ k ∧ (mgS tn co cb ct k).2.1 ≤ nl co ∧ (mgS tn co cb ct k).2.2.1 ≤ nl ct ∧ (∀ l, k ≤ l → 0 ≤ prt cb co l → ((mgS tn co cb ct k).2.1 : Int) ≤ prt cb co l) ∧ (∀ l, k ≤ l → 0 ≤ prt cb ct l → ((mgS tn co cb ct k).2.2.1 : Int) ≤ prt cb ct l)
  | 0 => ⟨Nat.le_refl _, Nat.zero_le _, Nat.zero_le _, fun l _ h => by simpa [mgS] using h, fun l _ h => by simpa [mgS] using h⟩
  | k + 1 => by
    obtain ⟨a1, a2, a3, a4, a5⟩ := mgS_rg tn co cb ct k
    by_cases h : 0 ≤ prt cb co k ∧ 0 ≤ prt cb ct k
    · rw [mgS_t h.1 h.2]
      have r1 := prt_rg cb co k
      have r2 := prt_rg cb ct k
      refine ⟨Nat.le_refl _, by show (prt cb co k).toNat + 1 ≤ _; omega, by show (prt cb ct k).toNat + 1 ≤ _; omega, fun l hl h2 => ?_, fun l hl h2 => ?_⟩
      · have := prt_mono (show k < l by omega) h.1 h2
        show (((prt cb co k).toNat + 1 : Nat) : Int) ≤ _
        omega
      · have := prt_mono (show k < l by omega) h.2 h2
        show (((prt cb ct k).toNat + 1 : Nat) : Int) ≤ _
        omega
    · rw [mgS_f h]
      exact ⟨by omega, a2, a3, fun l hl h2 => a4 l (by omega) h2, fun l hl h2 => a5 l (by omega) h2⟩
/-- a merger that is well -/
def MgG (T : cm_T) (M : cm_M) (g : Nat) : Prop := TMg T M.2.2 g ∧ (M.1 (g + 6) 0 = w3 0 ∧ M.1 (g + 9) 0 = w3 0 ∧ M.1 (g + 12) 0 = w3 0) ∧ -1 ≤ sz M (g + 15) ∧ sz M (g + 15) ≤ 40
def out17 (a g : Nat) (M : cm_M) : Prop := (a + 1 ≤ g ∨ g + 17 ≤ a) ∧ (pl M a + 1 ≤ g ∨ g + 17 ≤ pl M a)
def s40 (M : cm_M) (a : Nat) : Prop := sz M a ≤ 40
theorem LLs.st0 {T : cm_T} {M : cm_M} {a : Nat} {D : List Int32} (h : LLs T M a D) : M.1 (a + 2) 0 = w3 0 := h.2.1.2.2 0 (Nat.zero_le _) rfl
def SX3_mergeLines : cm_CT := fun as T M Φ => match as with
  | [.ref g, .ref a, .ref b, .ref c] => ∃ tn : Bool, MgG T M g ∧ M.1 g 2 = tb tn ∧ (Sg T M a ∧ Sg T M b ∧ Sg T M c) ∧ (s40 M a ∧ s40 M b ∧ s40 M c) ∧ (out17 a g M ∧ out17 b g M ∧ out17 c g M) ∧ (Bal (cnt (fl M a)) ∧ Bal (cnt (fl M b)) ∧ Bal (cnt (fl M c))) ∧ ∀ M1, Fr M M1 g 17 → M1.1 g 2 = tb tn → MgG T M1 g → OutIs M1 g (mgL tn (cnt (fl M a)) (cnt (fl M c)) (cnt (fl M b))) → Φ (some (.int (cb ((mgL tn (cnt (fl M a)) (cnt (fl M c)) (cnt (fl M b))).length ≤ 40)))) T M1
  | _ => False
def JX3_mergeLines : cm_J := (3, false, 2, [(89, 2, 2, 0, 0, SX1_takeFile), (92, 3, 3, 0, 0, SX2_mostMatched), (96, 4, 3, 0, 0, SX2_pair), (100, 3, 5, 0, 0, SX4_renew), (107, 7, 4, 0, 0, SX3_addGap), (111, 4, 4, 0, 0, SX3_addRun)], [], [])
theorem jX3_mergeLines : JX3_mergeLines.1 = 3 ∧ JX3_mergeLines.2.1 = false ∧ JX3_mergeLines.2.2.1 = 2 ∧ cm_gv JX3_mergeLines 89 = some (2, 2, 0, 0, SX1_takeFile) ∧ cm_gv JX3_mergeLines 92 = some (3, 3, 0, 0, SX2_mostMatched) ∧ cm_gv JX3_mergeLines 96 = some (4, 3, 0, 0, SX2_pair) ∧ cm_gv JX3_mergeLines 100 = some (3, 5, 0, 0, SX4_renew) ∧ cm_gv JX3_mergeLines 107 = some (7, 4, 0, 0, SX3_addGap) ∧ cm_gv JX3_mergeLines 111 = some (4, 4, 0, 0, SX3_addRun) := ⟨rfl, rfl, rfl, rfl, rfl, rfl, rfl, rfl, rfl⟩
theorem eX3_mergeLines (d : Nat) (hd : 3 ≤ d) : cm_Cok d JX3_mergeLines := ⟨(List.forall_mem_cons.mpr ⟨q3_89 (mX1_takeFile (d - 1) (by omega)) (by omega), (List.forall_mem_cons.mpr ⟨q3_92 (mX2_mostMatched (d - 1) (by omega)) (by omega), (List.forall_mem_cons.mpr ⟨q3_96 (mX2_pair (d - 1) (by omega)) (by omega), (List.forall_mem_cons.mpr ⟨q3_100 (mX4_renew (d - 1) (by omega)) (by omega), (List.forall_mem_cons.mpr ⟨q3_107 (mX3_addGap (d - 1) (by omega)) (by omega), (List.forall_mem_cons.mpr ⟨q3_111 (mX3_addRun (d - 1) (by omega)) (by omega), (fun q h => by cases h)⟩)⟩)⟩)⟩)⟩)⟩), (fun q h => by cases h), (fun q h => by cases h)⟩
set_option maxHeartbeats 4000000 in
theorem lX3_mergeLines (d : Nat) (hd : 3 ≤ d) {T : cm_T} {M : cm_M} {Φ : Option Value → cm_T → cm_M → Prop} {g : Nat} {tn : Bool} {co cb0 ct : List Int32} {l1 l2 l3 : Nat} (hT : TMg T M.2.2 g) (hb : LLs T M (g + 4) cb0) (ho : LLs T M (g + 7) co) (ht : LLs T M (g + 10) ct) (nb : nl cb0 ≤ 40) (no : nl co ≤ 40) (nt : nl ct ≤ 40) (htn : M.1 g 2 = tb tn)
    (po : ∀ k : Nat, k < 40 → M.1 (g + 13) (k : Int) = w3 (prt cb0 co k)) (pt : ∀ k : Nat, k < 40 → M.1 (g + 14) (k : Int) = w3 (prt cb0 ct k))
    (hS : ∀ M1, FrO M M1 g → OutIs M1 g (mgL tn co cb0 ct) → Φ (some (.int (cb ((mgL tn co cb0 ct).length ≤ 40)))) T M1) :
    ∀ (k : Nat) (M1 : cm_M), k ≤ nl cb0 → FrO M M1 g → OutIs M1 g (mgS tn co cb0 ct k).2.2.2 → cm_Go d cX3_mergeLines 8 0 0 JX3_mergeLines Φ 120 [some (.ref g), some (.ref l1), some (.ref l2), some (.ref l3), some (.int (w3 (mgS tn co cb0 ct k).1)), some (.int (w3 (mgS tn co cb0 ct k).2.1)), some (.int (w3 (mgS tn co cb0 ct k).2.2.1)), some (.int (w3 k))] [] (0, 0) T M1 := by
  intro k
  induction hf : (nl cb0 - k) using Nat.strongRecOn generalizing k with
  | _ fu ih =>
    intro M1 k1 hF hO
    obtain ⟨t1, ⟨r0, r1, r3, r4, r5, r6, r7, r8⟩, -, -, ⟨v1, v2, v3, v4⟩, ⟨u1, u2, u3, u4⟩⟩ := id hT
    have e2 : M1.2 = M.2 := hF.2.2
    have hT1 : TMg T M1.2.2 g := by rw [e2]; exact hT
    have hb1 := hF.lls (Or.inl rfl) hb
    have ho1 := hF.lls (Or.inr (Or.inl rfl)) ho
    have ht1 := hF.lls (Or.inr (Or.inr rfl)) ht
    have kb := hb.1.1
    have ko := ho.1.1
    have kt := ht.1.1
    have zb := hb1.sz
    have zo := ho1.sz
    have zt := ht1.sz
    have htn1 : M1.1 g 2 = tb tn := by rw [hF.2.1 2 (by decide)]; exact htn
    obtain ⟨a1, a2, a3, a4, a5⟩ := mgS_rg tn co cb0 ct k
    have ek : (w3 (k : Int)).toInt = (k : Int) := w3_toInt (by omega) (by omega)
    refine cm_go hX3_mergeLines 300 oX3_mergeLines (eX3_mergeLines d hd) lX3_mergeLines_120 ?_
    simp only [jX3_mergeLines, kX3_mergeLines_0, kX3_mergeLines_1, kX3_mergeLines_2, fl_3_31, fl_3_35, fl_3_38, fl_3_12, fl_3_41, fl_3_45, fl_3_53, fl_3_57, fl_3_104, t1, r3, r4, r5, r6, r7, r8, e2, kb, ko, kt, zb, zo, zt, v1, v2, v3, v4, ek, cn_iconst, cn_lconst0, cn_lconst1, cn_null, cn_iload, cn_aload, cn_lload, cn_lo1, cn_loa1, cn_loa2, cn_lol1, cn_get0, cn_gets, cn_put0, cn_puts, cn_istore, cn_astore, cn_astoreN, cn_lstore, cn_iinc, cn_in1, cn_iadd, cn_isub, cn_imul, cn_iand, cn_ior, cn_ixor, cn_ishl, cn_ishr, cn_iushr, cn_idiv, cn_irem, cn_ladd, cn_lmul, cn_ldiv, cn_lrem, cn_i2l, cn_l2i, cn_i2b, cn_lcmp, cn_dupi, cn_dupr, cn_dup2, cn_popi, cn_popr, cn_goto, cn_if_eq, cn_if_ne, cn_if_lt, cn_if_ge, cn_if_gt, cn_if_le, cn_ic_eq, cn_ic_ne, cn_ic_lt, cn_ic_ge, cn_ic_gt, cn_ic_le, cn_ifnullN, cn_ifnullR, cn_ifnonnullN, cn_ifnonnullR, cn_tswS, cn_tsw0, cn_tsw1, cn_lswS, cn_lsw0, cn_lsw1, cn_alen, cn_iaload, cn_laload, cn_rr1, cn_rr0, cn_aaload, cn_iastore, cn_lastore, cn_aastore, cn_getfield, cn_gf0, cn_gf1, cn_gf2, cn_gf3, cn_putfield, cn_pf0f, cn_pf1f, cn_pf2f, cn_pf3f, cn_pf0t, cn_pf1t, cn_pf2t, cn_pf3t, cn_new, cn_nw1, cn_newi, cn_newl, cn_anew, cn_an1, cn_inv_v, cn_inv_s, cn_inv_p, cn_ca1, cn_cb1, cn_pop0, cn_pops, cn_rk0, cn_rk1, cn_kcn, cn_kcs, cn_ireturn, cn_lreturn, cn_areturn, cn_return, cn_re0, cn_re1, cn_re2, cn_re3, cn_re4, cn_re5, cn_wp0, cn_wps, cn_m0, cn_m1, cn_e0, cn_en, cn_ei, cn_er, cn_eu, cn_el, cn_nl0, cn_nls, cn_nb0, cn_nb1, cn_nb2, cn_nb3, cn_bd0, cn_bds, cn_cwi, cn_cwr, cn_cwl, cn_cwn, cn_wi2, cn_wl1, cn_wl3, cn_wr1, cn_wr2, cn_wi_eq, cn_wl_eq, cb_0, cb_n0, cb_b, cm_okb0, cm_okb1, Classical.not_not, true_and, and_true, Nat.reduceAdd, Nat.reduceSub, Nat.reduceLT, Nat.reduceLeDiff, Int.reduceToNat, Int.reduceNatCast', Nat.zero_le, Nat.reduceEqDiff, false_or, or_false, or_true, true_or, Int.reduceNeg, reduceCtorEq, false_implies, implies_true, forall_const, true_implies, not_true_eq_false, not_false_eq_true, Nat.le_refl, ne_eq, if_true, if_false, ite_true, ite_false, List.cons_append, List.nil_append]
    simp (disch := omega) only [w3_le, w3_lt, w3_eq, w3_ix, w3_add, w3_sub, w3_mul, w3_toInt, w3_z, Int.reduceEq, Int.reduceLT, Int.reduceLE, Int.reduceAdd, Int.reduceSub, Int.reduceMul, Int.le_refl, Int.lt_irrefl, not_true_eq_false, not_false_eq_true, true_implies, false_implies, implies_true, and_true, true_and, and_self, ne_eq, Classical.not_not]
    have hk := fun (hq : k < nl cb0) => po k (by omega)
    have hk2 := fun (hq : k < nl cb0) => pt k (by omega)
    have g13 : M1.1 (g + 13) = M.1 (g + 13) := hF.1 _ (by omega) (by omega) (by omega)
    have g14 : M1.1 (g + 14) = M.1 (g + 14) := hF.1 _ (by omega) (by omega) (by omega)
    have p1 := prt_rg cb0 co k
    have p2 := prt_rg cb0 ct k
    refine ⟨fun q => ?_, fun q => ⟨fun q2 => by omega, fun q2 => ?_⟩⟩
    · have ek0 : k = nl cb0 := by omega
      refine ⟨tn, _, co, cb0, ct, (mgS tn co cb0 ct k).2.1, nl co, (mgS tn co cb0 ct k).1, nl cb0, (mgS tn co cb0 ct k).2.2.1, nl ct, hT1, hb1, ho1, ht1, ⟨rfl, rfl, rfl, rfl, rfl, rfl⟩, ⟨by omega, Nat.le_refl _, a2, Nat.le_refl _, a3, Nat.le_refl _⟩, htn1, hO, fun M2 f2 O2 => ?_⟩
      have e3 : M2.2 = M.2 := f2.2.2.trans e2
      simp only [jX3_mergeLines, kX3_mergeLines_0, kX3_mergeLines_1, kX3_mergeLines_2, fl_3_31, fl_3_35, fl_3_38, fl_3_12, fl_3_41, fl_3_45, fl_3_53, fl_3_57, fl_3_104, t1, r3, r4, r5, e3, cn_iconst, cn_lconst0, cn_lconst1, cn_null, cn_iload, cn_aload, cn_lload, cn_lo1, cn_loa1, cn_loa2, cn_lol1, cn_get0, cn_gets, cn_put0, cn_puts, cn_istore, cn_astore, cn_astoreN, cn_lstore, cn_iinc, cn_in1, cn_iadd, cn_isub, cn_imul, cn_iand, cn_ior, cn_ixor, cn_ishl, cn_ishr, cn_iushr, cn_idiv, cn_irem, cn_ladd, cn_lmul, cn_ldiv, cn_lrem, cn_i2l, cn_l2i, cn_i2b, cn_lcmp, cn_dupi, cn_dupr, cn_dup2, cn_popi, cn_popr, cn_goto, cn_if_eq, cn_if_ne, cn_if_lt, cn_if_ge, cn_if_gt, cn_if_le, cn_ic_eq, cn_ic_ne, cn_ic_lt, cn_ic_ge, cn_ic_gt, cn_ic_le, cn_ifnullN, cn_ifnullR, cn_ifnonnullN, cn_ifnonnullR, cn_tswS, cn_tsw0, cn_tsw1, cn_lswS, cn_lsw0, cn_lsw1, cn_alen, cn_iaload, cn_laload, cn_rr1, cn_rr0, cn_aaload, cn_iastore, cn_lastore, cn_aastore, cn_getfield, cn_gf0, cn_gf1, cn_gf2, cn_gf3, cn_putfield, cn_pf0f, cn_pf1f, cn_pf2f, cn_pf3f, cn_pf0t, cn_pf1t, cn_pf2t, cn_pf3t, cn_new, cn_nw1, cn_newi, cn_newl, cn_anew, cn_an1, cn_inv_v, cn_inv_s, cn_inv_p, cn_ca1, cn_cb1, cn_pop0, cn_pops, cn_rk0, cn_rk1, cn_kcn, cn_kcs, cn_ireturn, cn_lreturn, cn_areturn, cn_return, cn_re0, cn_re1, cn_re2, cn_re3, cn_re4, cn_re5, cn_wp0, cn_wps, cn_m0, cn_m1, cn_e0, cn_en, cn_ei, cn_er, cn_eu, cn_el, cn_nl0, cn_nls, cn_nb0, cn_nb1, cn_nb2, cn_nb3, cn_bd0, cn_bds, cn_cwi, cn_cwr, cn_cwl, cn_cwn, cn_wi2, cn_wl1, cn_wl3, cn_wr1, cn_wr2, cn_wi_eq, cn_wl_eq, cb_0, cb_n0, cb_b, cm_okb0, cm_okb1, Classical.not_not, true_and, and_true, Nat.reduceAdd, Nat.reduceSub, Nat.reduceLT, Nat.reduceLeDiff, Int.reduceToNat, Int.reduceNatCast', Nat.zero_le, Nat.reduceEqDiff, false_or, or_false, or_true, true_or, Int.reduceNeg, reduceCtorEq, false_implies, implies_true, forall_const, true_implies, not_true_eq_false, not_false_eq_true, Nat.le_refl, ne_eq, if_true, if_false, ite_true, ite_false, List.cons_append, List.nil_append]
      have O3 : OutIs M2 g (mgL tn co cb0 ct) := by
        unfold mgL
        rw [← ek0]
        rw [ek0]
        rw [ek0] at O2
        exact O2
      have hSS := hS M2 (hF.trans f2) O3
      rcases O3 with ⟨x1, x2, -, -⟩ | ⟨x1, x2, -, -⟩
      · rw [cb_t x1] at hSS
        rw [x2]
        refine ⟨fun q => absurd rfl q, fun _ => hSS⟩
      · rw [cb_f (by omega)] at hSS
        rw [x2]
        refine ⟨fun _ => hSS, fun q => absurd q (by decide)⟩
    · have q0 : k < nl cb0 := by omega
      have c1 : (0 ≤ (k : Int) ∧ (k : Int) < ((40 : Nat) : Int)) := ⟨by omega, by omega⟩
      rw [g13, g14, hk q0, hk2 q0]
      simp (disch := omega) only [w3_le, w3_lt, w3_eq, w3_ix, w3_add, w3_sub, w3_mul, w3_toInt, w3_z, Int.reduceEq, Int.reduceLT, Int.reduceLE, Int.reduceAdd, Int.reduceSub, Int.reduceMul, Int.le_refl, Int.lt_irrefl, not_true_eq_false, not_false_eq_true, true_implies, false_implies, implies_true, and_true, true_and, and_self, ne_eq, Classical.not_not]
      refine ⟨c1, fun q3 => ?_, fun q3 => ⟨c1, fun q4 => ?_, fun q4 => ⟨c1, c1, ?_⟩⟩⟩
      · have hm := mgS_f (tn := tn) (co := co) (cb := cb0) (ct := ct) (k := k) (by omega)
        have := ih (nl cb0 - (k + 1)) (by omega) (k + 1) rfl M1 (by omega) hF (by rw [hm]; exact hO)
        rw [hm] at this
        exact this
      · have hm := mgS_f (tn := tn) (co := co) (cb := cb0) (ct := ct) (k := k) (by omega)
        have := ih (nl cb0 - (k + 1)) (by omega) (k + 1) rfl M1 (by omega) hF (by rw [hm]; exact hO)
        rw [hm] at this
        exact this
      · have x1 := a4 k (Nat.le_refl _) (by omega)
        have x2 := a5 k (Nat.le_refl _) (by omega)
        have y1 : prt cb0 co k = (((prt cb0 co k).toNat : Nat) : Int) := by omega
        have y2 : prt cb0 ct k = (((prt cb0 ct k).toNat : Nat) : Int) := by omega
        refine ⟨tn, _, co, cb0, ct, (mgS tn co cb0 ct k).2.1, (prt cb0 co k).toNat, (mgS tn co cb0 ct k).1, k, (mgS tn co cb0 ct k).2.2.1, (prt cb0 ct k).toNat, hT1, hb1, ho1, ht1, ⟨rfl, rfl, rfl, by rw [← y1], rfl, by rw [← y2]⟩, ⟨by omega, by omega, by omega, by omega, by omega, by omega⟩, htn1, hO, fun M2 f2 O2 => ?_⟩
        have e3 : M2.2 = M.2 := f2.2.2.trans e2
        simp only [jX3_mergeLines, kX3_mergeLines_0, kX3_mergeLines_1, kX3_mergeLines_2, fl_3_31, fl_3_35, fl_3_38, fl_3_12, fl_3_41, fl_3_45, fl_3_53, fl_3_57, fl_3_104, t1, r3, r4, r5, e3, cn_iconst, cn_lconst0, cn_lconst1, cn_null, cn_iload, cn_aload, cn_lload, cn_lo1, cn_loa1, cn_loa2, cn_lol1, cn_get0, cn_gets, cn_put0, cn_puts, cn_istore, cn_astore, cn_astoreN, cn_lstore, cn_iinc, cn_in1, cn_iadd, cn_isub, cn_imul, cn_iand, cn_ior, cn_ixor, cn_ishl, cn_ishr, cn_iushr, cn_idiv, cn_irem, cn_ladd, cn_lmul, cn_ldiv, cn_lrem, cn_i2l, cn_l2i, cn_i2b, cn_lcmp, cn_dupi, cn_dupr, cn_dup2, cn_popi, cn_popr, cn_goto, cn_if_eq, cn_if_ne, cn_if_lt, cn_if_ge, cn_if_gt, cn_if_le, cn_ic_eq, cn_ic_ne, cn_ic_lt, cn_ic_ge, cn_ic_gt, cn_ic_le, cn_ifnullN, cn_ifnullR, cn_ifnonnullN, cn_ifnonnullR, cn_tswS, cn_tsw0, cn_tsw1, cn_lswS, cn_lsw0, cn_lsw1, cn_alen, cn_iaload, cn_laload, cn_rr1, cn_rr0, cn_aaload, cn_iastore, cn_lastore, cn_aastore, cn_getfield, cn_gf0, cn_gf1, cn_gf2, cn_gf3, cn_putfield, cn_pf0f, cn_pf1f, cn_pf2f, cn_pf3f, cn_pf0t, cn_pf1t, cn_pf2t, cn_pf3t, cn_new, cn_nw1, cn_newi, cn_newl, cn_anew, cn_an1, cn_inv_v, cn_inv_s, cn_inv_p, cn_ca1, cn_cb1, cn_pop0, cn_pops, cn_rk0, cn_rk1, cn_kcn, cn_kcs, cn_ireturn, cn_lreturn, cn_areturn, cn_return, cn_re0, cn_re1, cn_re2, cn_re3, cn_re4, cn_re5, cn_wp0, cn_wps, cn_m0, cn_m1, cn_e0, cn_en, cn_ei, cn_er, cn_eu, cn_el, cn_nl0, cn_nls, cn_nb0, cn_nb1, cn_nb2, cn_nb3, cn_bd0, cn_bds, cn_cwi, cn_cwr, cn_cwl, cn_cwn, cn_wi2, cn_wl1, cn_wl3, cn_wr1, cn_wr2, cn_wi_eq, cn_wl_eq, cb_0, cb_n0, cb_b, cm_okb0, cm_okb1, Classical.not_not, true_and, and_true, Nat.reduceAdd, Nat.reduceSub, Nat.reduceLT, Nat.reduceLeDiff, Int.reduceToNat, Int.reduceNatCast', Nat.zero_le, Nat.reduceEqDiff, false_or, or_false, or_true, true_or, Int.reduceNeg, reduceCtorEq, false_implies, implies_true, forall_const, true_implies, not_true_eq_false, not_false_eq_true, Nat.le_refl, ne_eq, if_true, if_false, ite_true, ite_false, List.cons_append, List.nil_append]
        simp (disch := omega) only [w3_le, w3_lt, w3_eq, w3_ix, w3_add, w3_sub, w3_mul, w3_toInt, w3_z, Int.reduceEq, Int.reduceLT, Int.reduceLE, Int.reduceAdd, Int.reduceSub, Int.reduceMul, Int.le_refl, Int.lt_irrefl, not_true_eq_false, not_false_eq_true, true_implies, false_implies, implies_true, and_true, true_and, and_self, ne_eq, Classical.not_not]
        refine ⟨_, cb0, k, k + 1, by rw [e3]; exact hT, Or.inl rfl, f2.lls (Or.inl rfl) hb1, rfl, rfl, by omega, by omega, O2, fun M3 f3 O3 => ?_⟩
        have e4 : M3.2 = M.2 := f3.2.2.trans e3
        have hF3 : FrO M M3 g := (hF.trans f2).trans f3
        have h13 : M3.1 (g + 13) = M.1 (g + 13) := hF3.1 _ (by omega) (by omega) (by omega)
        have h14 : M3.1 (g + 14) = M.1 (g + 14) := hF3.1 _ (by omega) (by omega) (by omega)
        simp only [jX3_mergeLines, kX3_mergeLines_0, kX3_mergeLines_1, kX3_mergeLines_2, fl_3_31, fl_3_35, fl_3_38, fl_3_12, fl_3_41, fl_3_45, fl_3_53, fl_3_57, fl_3_104, t1, r3, r4, r5, r6, r7, v1, v2, v3, v4, ek, e4, h13, h14, hk q0, hk2 q0, cn_iconst, cn_lconst0, cn_lconst1, cn_null, cn_iload, cn_aload, cn_lload, cn_lo1, cn_loa1, cn_loa2, cn_lol1, cn_get0, cn_gets, cn_put0, cn_puts, cn_istore, cn_astore, cn_astoreN, cn_lstore, cn_iinc, cn_in1, cn_iadd, cn_isub, cn_imul, cn_iand, cn_ior, cn_ixor, cn_ishl, cn_ishr, cn_iushr, cn_idiv, cn_irem, cn_ladd, cn_lmul, cn_ldiv, cn_lrem, cn_i2l, cn_l2i, cn_i2b, cn_lcmp, cn_dupi, cn_dupr, cn_dup2, cn_popi, cn_popr, cn_goto, cn_if_eq, cn_if_ne, cn_if_lt, cn_if_ge, cn_if_gt, cn_if_le, cn_ic_eq, cn_ic_ne, cn_ic_lt, cn_ic_ge, cn_ic_gt, cn_ic_le, cn_ifnullN, cn_ifnullR, cn_ifnonnullN, cn_ifnonnullR, cn_tswS, cn_tsw0, cn_tsw1, cn_lswS, cn_lsw0, cn_lsw1, cn_alen, cn_iaload, cn_laload, cn_rr1, cn_rr0, cn_aaload, cn_iastore, cn_lastore, cn_aastore, cn_getfield, cn_gf0, cn_gf1, cn_gf2, cn_gf3, cn_putfield, cn_pf0f, cn_pf1f, cn_pf2f, cn_pf3f, cn_pf0t, cn_pf1t, cn_pf2t, cn_pf3t, cn_new, cn_nw1, cn_newi, cn_newl, cn_anew, cn_an1, cn_inv_v, cn_inv_s, cn_inv_p, cn_ca1, cn_cb1, cn_pop0, cn_pops, cn_rk0, cn_rk1, cn_kcn, cn_kcs, cn_ireturn, cn_lreturn, cn_areturn, cn_return, cn_re0, cn_re1, cn_re2, cn_re3, cn_re4, cn_re5, cn_wp0, cn_wps, cn_m0, cn_m1, cn_e0, cn_en, cn_ei, cn_er, cn_eu, cn_el, cn_nl0, cn_nls, cn_nb0, cn_nb1, cn_nb2, cn_nb3, cn_bd0, cn_bds, cn_cwi, cn_cwr, cn_cwl, cn_cwn, cn_wi2, cn_wl1, cn_wl3, cn_wr1, cn_wr2, cn_wi_eq, cn_wl_eq, cb_0, cb_n0, cb_b, cm_okb0, cm_okb1, Classical.not_not, true_and, and_true, Nat.reduceAdd, Nat.reduceSub, Nat.reduceLT, Nat.reduceLeDiff, Int.reduceToNat, Int.reduceNatCast', Nat.zero_le, Nat.reduceEqDiff, false_or, or_false, or_true, true_or, Int.reduceNeg, reduceCtorEq, false_implies, implies_true, forall_const, true_implies, not_true_eq_false, not_false_eq_true, Nat.le_refl, ne_eq, if_true, if_false, ite_true, ite_false, List.cons_append, List.nil_append]
        simp (disch := omega) only [w3_le, w3_lt, w3_eq, w3_ix, w3_add, w3_sub, w3_mul, w3_toInt, w3_z, Int.reduceEq, Int.reduceLT, Int.reduceLE, Int.reduceAdd, Int.reduceSub, Int.reduceMul, Int.le_refl, Int.lt_irrefl, not_true_eq_false, not_false_eq_true, true_implies, false_implies, implies_true, and_true, true_and, and_self, ne_eq, Classical.not_not]
        refine ⟨c1, c1, ?_⟩
        have hm := mgS_t (tn := tn) (co := co) (cb := cb0) (ct := ct) (k := k) (by omega) (by omega)
        have := ih (nl cb0 - (k + 1)) (by omega) (k + 1) rfl M3 (by omega) hF3 (by rw [hm]; exact O3)
        rw [hm] at this
        rw [y1, y2]
        exact this
theorem FrO.fr {M M1 : cm_M} {g : Nat} (h : FrO M M1 g) : Fr M M1 g 17 := ⟨fun q hq => h.1 q (by omega) (by omega) (by omega), h.2.2⟩
theorem out17.ap {a g b : Nat} {M : cm_M} (h : out17 a g M) (h1 : g ≤ b) (h2 : b + 3 ≤ g + 17) : ap3 a b M := ⟨by unfold out17 at h; omega, by unfold out17 at h; omega⟩
set_option maxHeartbeats 4000000 in
theorem mX3_mergeLines (d : Nat) (hd : 3 ≤ d) : cm_Met d yX3_mergeLines cX3_mergeLines 8 (some .boolean) 0 0 SX3_mergeLines := by
  refine cm_meets (J := JX3_mergeLines) (by decide) rfl (fun h => by cases h) trivial ?_
  intro as T M Φ hS
  match as, hS with
  | [.ref g, .ref a, .ref b, .ref c], ⟨tn, hG, htn, ⟨ga, gb, gc⟩, ⟨za, zb, zc⟩, ⟨oa, ob, oc⟩, ⟨ba, bb, bc⟩, hS⟩ =>
    refine ⟨Nat.le_of_ble_eq_true rfl, ?_⟩
    obtain ⟨hT, ⟨z1, z2, z3⟩, z4, z5⟩ := id hG
    obtain ⟨t1, ⟨r0, r1, r3, r4, r5, r6, r7, r8⟩, ⟨x1, x2, x3, x4⟩, ⟨L1, L2, L3⟩, ⟨v1, v2, v3, v4⟩, ⟨u1, u2, u3, u4⟩⟩ := id hT
    have kb := L1.1
    have ko := L2.1
    have kt := L3.1
    have ka1 := ga.1
    have ka2 := gb.1
    have ka3 := gc.1
    have na : nl (cnt (fl M a)) ≤ 40 := Nat.le_trans (nl_le _ _) (cnt_40 ⟨ga.2.2.2.1, za⟩)
    have nb : nl (cnt (fl M b)) ≤ 40 := Nat.le_trans (nl_le _ _) (cnt_40 ⟨gb.2.2.2.1, zb⟩)
    have nc : nl (cnt (fl M c)) ≤ 40 := Nat.le_trans (nl_le _ _) (cnt_40 ⟨gc.2.2.2.1, zc⟩)
    refine cm_go hX3_mergeLines 300 oX3_mergeLines (eX3_mergeLines d hd) lX3_mergeLines_0 ?_
    simp only [jX3_mergeLines, kX3_mergeLines_0, kX3_mergeLines_1, kX3_mergeLines_2, fl_3_31, fl_3_35, fl_3_38, fl_3_12, fl_3_41, fl_3_45, fl_3_53, fl_3_57, fl_3_104, t1, r0, r3, r4, r5, r6, r7, r8, kb, ko, kt, ka1, ka2, ka3, cn_iconst, cn_lconst0, cn_lconst1, cn_null, cn_iload, cn_aload, cn_lload, cn_lo1, cn_loa1, cn_loa2, cn_lol1, cn_get0, cn_gets, cn_put0, cn_puts, cn_istore, cn_astore, cn_astoreN, cn_lstore, cn_iinc, cn_in1, cn_iadd, cn_isub, cn_imul, cn_iand, cn_ior, cn_ixor, cn_ishl, cn_ishr, cn_iushr, cn_idiv, cn_irem, cn_ladd, cn_lmul, cn_ldiv, cn_lrem, cn_i2l, cn_l2i, cn_i2b, cn_lcmp, cn_dupi, cn_dupr, cn_dup2, cn_popi, cn_popr, cn_goto, cn_if_eq, cn_if_ne, cn_if_lt, cn_if_ge, cn_if_gt, cn_if_le, cn_ic_eq, cn_ic_ne, cn_ic_lt, cn_ic_ge, cn_ic_gt, cn_ic_le, cn_ifnullN, cn_ifnullR, cn_ifnonnullN, cn_ifnonnullR, cn_tswS, cn_tsw0, cn_tsw1, cn_lswS, cn_lsw0, cn_lsw1, cn_alen, cn_iaload, cn_laload, cn_rr1, cn_rr0, cn_aaload, cn_iastore, cn_lastore, cn_aastore, cn_getfield, cn_gf0, cn_gf1, cn_gf2, cn_gf3, cn_putfield, cn_pf0f, cn_pf1f, cn_pf2f, cn_pf3f, cn_pf0t, cn_pf1t, cn_pf2t, cn_pf3t, cn_new, cn_nw1, cn_newi, cn_newl, cn_anew, cn_an1, cn_inv_v, cn_inv_s, cn_inv_p, cn_ca1, cn_cb1, cn_pop0, cn_pops, cn_rk0, cn_rk1, cn_kcn, cn_kcs, cn_ireturn, cn_lreturn, cn_areturn, cn_return, cn_re0, cn_re1, cn_re2, cn_re3, cn_re4, cn_re5, cn_wp0, cn_wps, cn_m0, cn_m1, cn_e0, cn_en, cn_ei, cn_er, cn_eu, cn_el, cn_nl0, cn_nls, cn_nb0, cn_nb1, cn_nb2, cn_nb3, cn_bd0, cn_bds, cn_cwi, cn_cwr, cn_cwl, cn_cwn, cn_wi2, cn_wl1, cn_wl3, cn_wr1, cn_wr2, cn_wi_eq, cn_wl_eq, cb_0, cb_n0, cb_b, cm_okb0, cm_okb1, Classical.not_not, true_and, and_true, Nat.reduceAdd, Nat.reduceSub, Nat.reduceLT, Nat.reduceLeDiff, Int.reduceToNat, Int.reduceNatCast', Nat.zero_le, Nat.reduceEqDiff, false_or, or_false, or_true, true_or, Int.reduceNeg, reduceCtorEq, false_implies, implies_true, forall_const, true_implies, not_true_eq_false, not_false_eq_true, Nat.le_refl, ne_eq, if_true, if_false, ite_true, ite_false, List.cons_append, List.nil_append]
    refine ⟨L1, z1, gc, oc.ap (by omega) (by omega), bc, fun M1 f1 B1 => ?_⟩
    have F1 : Fr M M1 g 17 := f1.wide (by omega) (by omega)
    have e1 := F1.2
    have oa' := oa
    have ob' := ob
    unfold out17 at oa' ob'
    have qa1 : fl M1 a = fl M a := F1.flq (by omega) (by omega)
    have ga1 : Sg T M1 a := F1.sgq (by omega) ga
    simp only [jX3_mergeLines, kX3_mergeLines_0, kX3_mergeLines_1, kX3_mergeLines_2, fl_3_31, fl_3_35, fl_3_38, fl_3_12, fl_3_41, fl_3_45, fl_3_53, fl_3_57, fl_3_104, t1, r0, r3, r4, r5, r6, r7, r8, kb, ko, kt, ka1, ka2, ka3, x1, e1, cn_iconst, cn_lconst0, cn_lconst1, cn_null, cn_iload, cn_aload, cn_lload, cn_lo1, cn_loa1, cn_loa2, cn_lol1, cn_get0, cn_gets, cn_put0, cn_puts, cn_istore, cn_astore, cn_astoreN, cn_lstore, cn_iinc, cn_in1, cn_iadd, cn_isub, cn_imul, cn_iand, cn_ior, cn_ixor, cn_ishl, cn_ishr, cn_iushr, cn_idiv, cn_irem, cn_ladd, cn_lmul, cn_ldiv, cn_lrem, cn_i2l, cn_l2i, cn_i2b, cn_lcmp, cn_dupi, cn_dupr, cn_dup2, cn_popi, cn_popr, cn_goto, cn_if_eq, cn_if_ne, cn_if_lt, cn_if_ge, cn_if_gt, cn_if_le, cn_ic_eq, cn_ic_ne, cn_ic_lt, cn_ic_ge, cn_ic_gt, cn_ic_le, cn_ifnullN, cn_ifnullR, cn_ifnonnullN, cn_ifnonnullR, cn_tswS, cn_tsw0, cn_tsw1, cn_lswS, cn_lsw0, cn_lsw1, cn_alen, cn_iaload, cn_laload, cn_rr1, cn_rr0, cn_aaload, cn_iastore, cn_lastore, cn_aastore, cn_getfield, cn_gf0, cn_gf1, cn_gf2, cn_gf3, cn_putfield, cn_pf0f, cn_pf1f, cn_pf2f, cn_pf3f, cn_pf0t, cn_pf1t, cn_pf2t, cn_pf3t, cn_new, cn_nw1, cn_newi, cn_newl, cn_anew, cn_an1, cn_inv_v, cn_inv_s, cn_inv_p, cn_ca1, cn_cb1, cn_pop0, cn_pops, cn_rk0, cn_rk1, cn_kcn, cn_kcs, cn_ireturn, cn_lreturn, cn_areturn, cn_return, cn_re0, cn_re1, cn_re2, cn_re3, cn_re4, cn_re5, cn_wp0, cn_wps, cn_m0, cn_m1, cn_e0, cn_en, cn_ei, cn_er, cn_eu, cn_el, cn_nl0, cn_nls, cn_nb0, cn_nb1, cn_nb2, cn_nb3, cn_bd0, cn_bds, cn_cwi, cn_cwr, cn_cwl, cn_cwn, cn_wi2, cn_wl1, cn_wl3, cn_wr1, cn_wr2, cn_wi_eq, cn_wl_eq, cb_0, cb_n0, cb_b, cm_okb0, cm_okb1, Classical.not_not, true_and, and_true, Nat.reduceAdd, Nat.reduceSub, Nat.reduceLT, Nat.reduceLeDiff, Int.reduceToNat, Int.reduceNatCast', Nat.zero_le, Nat.reduceEqDiff, false_or, or_false, or_true, true_or, Int.reduceNeg, reduceCtorEq, false_implies, implies_true, forall_const, true_implies, not_true_eq_false, not_false_eq_true, Nat.le_refl, ne_eq, if_true, if_false, ite_true, ite_false, List.cons_append, List.nil_append]
    refine ⟨by rw [e1]; exact L2, by rw [f1.1 (g + 7 + 2) (by omega)]; exact z2, ga1, by unfold ap3; rw [F1.plq]; exact oa.ap (by omega) (by omega), by rw [qa1]; exact ba, ?_⟩
    rw [qa1]
    intro M2 f2 B2
    have F2 : Fr M M2 g 17 := F1.trans (f2.wide (by omega) (by omega))
    have e2 := F2.2
    have qb1 : fl M2 b = fl M b := F2.flq (by omega) (by omega)
    have gb1 : Sg T M2 b := F2.sgq (by omega) gb
    simp only [jX3_mergeLines, kX3_mergeLines_0, kX3_mergeLines_1, kX3_mergeLines_2, fl_3_31, fl_3_35, fl_3_38, fl_3_12, fl_3_41, fl_3_45, fl_3_53, fl_3_57, fl_3_104, t1, r0, r3, r4, r5, r6, r7, r8, kb, ko, kt, ka1, ka2, ka3, x1, e2, cn_iconst, cn_lconst0, cn_lconst1, cn_null, cn_iload, cn_aload, cn_lload, cn_lo1, cn_loa1, cn_loa2, cn_lol1, cn_get0, cn_gets, cn_put0, cn_puts, cn_istore, cn_astore, cn_astoreN, cn_lstore, cn_iinc, cn_in1, cn_iadd, cn_isub, cn_imul, cn_iand, cn_ior, cn_ixor, cn_ishl, cn_ishr, cn_iushr, cn_idiv, cn_irem, cn_ladd, cn_lmul, cn_ldiv, cn_lrem, cn_i2l, cn_l2i, cn_i2b, cn_lcmp, cn_dupi, cn_dupr, cn_dup2, cn_popi, cn_popr, cn_goto, cn_if_eq, cn_if_ne, cn_if_lt, cn_if_ge, cn_if_gt, cn_if_le, cn_ic_eq, cn_ic_ne, cn_ic_lt, cn_ic_ge, cn_ic_gt, cn_ic_le, cn_ifnullN, cn_ifnullR, cn_ifnonnullN, cn_ifnonnullR, cn_tswS, cn_tsw0, cn_tsw1, cn_lswS, cn_lsw0, cn_lsw1, cn_alen, cn_iaload, cn_laload, cn_rr1, cn_rr0, cn_aaload, cn_iastore, cn_lastore, cn_aastore, cn_getfield, cn_gf0, cn_gf1, cn_gf2, cn_gf3, cn_putfield, cn_pf0f, cn_pf1f, cn_pf2f, cn_pf3f, cn_pf0t, cn_pf1t, cn_pf2t, cn_pf3t, cn_new, cn_nw1, cn_newi, cn_newl, cn_anew, cn_an1, cn_inv_v, cn_inv_s, cn_inv_p, cn_ca1, cn_cb1, cn_pop0, cn_pops, cn_rk0, cn_rk1, cn_kcn, cn_kcs, cn_ireturn, cn_lreturn, cn_areturn, cn_return, cn_re0, cn_re1, cn_re2, cn_re3, cn_re4, cn_re5, cn_wp0, cn_wps, cn_m0, cn_m1, cn_e0, cn_en, cn_ei, cn_er, cn_eu, cn_el, cn_nl0, cn_nls, cn_nb0, cn_nb1, cn_nb2, cn_nb3, cn_bd0, cn_bds, cn_cwi, cn_cwr, cn_cwl, cn_cwn, cn_wi2, cn_wl1, cn_wl3, cn_wr1, cn_wr2, cn_wi_eq, cn_wl_eq, cb_0, cb_n0, cb_b, cm_okb0, cm_okb1, Classical.not_not, true_and, and_true, Nat.reduceAdd, Nat.reduceSub, Nat.reduceLT, Nat.reduceLeDiff, Int.reduceToNat, Int.reduceNatCast', Nat.zero_le, Nat.reduceEqDiff, false_or, or_false, or_true, true_or, Int.reduceNeg, reduceCtorEq, false_implies, implies_true, forall_const, true_implies, not_true_eq_false, not_false_eq_true, Nat.le_refl, ne_eq, if_true, if_false, ite_true, ite_false, List.cons_append, List.nil_append]
    refine ⟨by rw [e2]; exact L3, by rw [f2.1 (g + 10 + 2) (by omega), f1.1 (g + 10 + 2) (by omega)]; exact z3, gb1, by unfold ap3; rw [F2.plq]; exact ob.ap (by omega) (by omega), by rw [qb1]; exact bb, ?_⟩
    rw [qb1]
    intro M3 f3 B3
    have F3 : Fr M M3 g 17 := F2.trans (f3.wide (by omega) (by omega))
    have e3 := F3.2
    have C1 : LLs T M3 (g + 4) (cnt (fl M c)) := (B1.frame f2 (by omega)).frame f3 (by omega)
    have C2 : LLs T M3 (g + 7) (cnt (fl M a)) := B2.frame f3 (by omega)
    simp only [jX3_mergeLines, kX3_mergeLines_0, kX3_mergeLines_1, kX3_mergeLines_2, fl_3_31, fl_3_35, fl_3_38, fl_3_12, fl_3_41, fl_3_45, fl_3_53, fl_3_57, fl_3_104, t1, r0, r3, r4, r5, r6, r7, r8, kb, ko, kt, ka1, ka2, ka3, x1, e3, cn_iconst, cn_lconst0, cn_lconst1, cn_null, cn_iload, cn_aload, cn_lload, cn_lo1, cn_loa1, cn_loa2, cn_lol1, cn_get0, cn_gets, cn_put0, cn_puts, cn_istore, cn_astore, cn_astoreN, cn_lstore, cn_iinc, cn_in1, cn_iadd, cn_isub, cn_imul, cn_iand, cn_ior, cn_ixor, cn_ishl, cn_ishr, cn_iushr, cn_idiv, cn_irem, cn_ladd, cn_lmul, cn_ldiv, cn_lrem, cn_i2l, cn_l2i, cn_i2b, cn_lcmp, cn_dupi, cn_dupr, cn_dup2, cn_popi, cn_popr, cn_goto, cn_if_eq, cn_if_ne, cn_if_lt, cn_if_ge, cn_if_gt, cn_if_le, cn_ic_eq, cn_ic_ne, cn_ic_lt, cn_ic_ge, cn_ic_gt, cn_ic_le, cn_ifnullN, cn_ifnullR, cn_ifnonnullN, cn_ifnonnullR, cn_tswS, cn_tsw0, cn_tsw1, cn_lswS, cn_lsw0, cn_lsw1, cn_alen, cn_iaload, cn_laload, cn_rr1, cn_rr0, cn_aaload, cn_iastore, cn_lastore, cn_aastore, cn_getfield, cn_gf0, cn_gf1, cn_gf2, cn_gf3, cn_putfield, cn_pf0f, cn_pf1f, cn_pf2f, cn_pf3f, cn_pf0t, cn_pf1t, cn_pf2t, cn_pf3t, cn_new, cn_nw1, cn_newi, cn_newl, cn_anew, cn_an1, cn_inv_v, cn_inv_s, cn_inv_p, cn_ca1, cn_cb1, cn_pop0, cn_pops, cn_rk0, cn_rk1, cn_kcn, cn_kcs, cn_ireturn, cn_lreturn, cn_areturn, cn_return, cn_re0, cn_re1, cn_re2, cn_re3, cn_re4, cn_re5, cn_wp0, cn_wps, cn_m0, cn_m1, cn_e0, cn_en, cn_ei, cn_er, cn_eu, cn_el, cn_nl0, cn_nls, cn_nb0, cn_nb1, cn_nb2, cn_nb3, cn_bd0, cn_bds, cn_cwi, cn_cwr, cn_cwl, cn_cwn, cn_wi2, cn_wl1, cn_wl3, cn_wr1, cn_wr2, cn_wi_eq, cn_wl_eq, cb_0, cb_n0, cb_b, cm_okb0, cm_okb1, Classical.not_not, true_and, and_true, Nat.reduceAdd, Nat.reduceSub, Nat.reduceLT, Nat.reduceLeDiff, Int.reduceToNat, Int.reduceNatCast', Nat.zero_le, Nat.reduceEqDiff, false_or, or_false, or_true, true_or, Int.reduceNeg, reduceCtorEq, false_implies, implies_true, forall_const, true_implies, not_true_eq_false, not_false_eq_true, Nat.le_refl, ne_eq, if_true, if_false, ite_true, ite_false, List.cons_append, List.nil_append]
    refine ⟨_, _, x1, by rw [e3]; exact x2, x3, x4, C1, C2, nc, na, by unfold ap3m; omega, fun M4 f4 t4 => ?_⟩
    have F4 : Fr M M4 g 17 := F3.trans (f4.wide (by omega) (by omega))
    have e4 := F4.2
    simp only [jX3_mergeLines, kX3_mergeLines_0, kX3_mergeLines_1, kX3_mergeLines_2, fl_3_31, fl_3_35, fl_3_38, fl_3_12, fl_3_41, fl_3_45, fl_3_53, fl_3_57, fl_3_104, t1, r0, r3, r4, r5, r6, r7, r8, kb, ko, kt, ka1, ka2, ka3, x1, v1, v3, e4, cn_iconst, cn_lconst0, cn_lconst1, cn_null, cn_iload, cn_aload, cn_lload, cn_lo1, cn_loa1, cn_loa2, cn_lol1, cn_get0, cn_gets, cn_put0, cn_puts, cn_istore, cn_astore, cn_astoreN, cn_lstore, cn_iinc, cn_in1, cn_iadd, cn_isub, cn_imul, cn_iand, cn_ior, cn_ixor, cn_ishl, cn_ishr, cn_iushr, cn_idiv, cn_irem, cn_ladd, cn_lmul, cn_ldiv, cn_lrem, cn_i2l, cn_l2i, cn_i2b, cn_lcmp, cn_dupi, cn_dupr, cn_dup2, cn_popi, cn_popr, cn_goto, cn_if_eq, cn_if_ne, cn_if_lt, cn_if_ge, cn_if_gt, cn_if_le, cn_ic_eq, cn_ic_ne, cn_ic_lt, cn_ic_ge, cn_ic_gt, cn_ic_le, cn_ifnullN, cn_ifnullR, cn_ifnonnullN, cn_ifnonnullR, cn_tswS, cn_tsw0, cn_tsw1, cn_lswS, cn_lsw0, cn_lsw1, cn_alen, cn_iaload, cn_laload, cn_rr1, cn_rr0, cn_aaload, cn_iastore, cn_lastore, cn_aastore, cn_getfield, cn_gf0, cn_gf1, cn_gf2, cn_gf3, cn_putfield, cn_pf0f, cn_pf1f, cn_pf2f, cn_pf3f, cn_pf0t, cn_pf1t, cn_pf2t, cn_pf3t, cn_new, cn_nw1, cn_newi, cn_newl, cn_anew, cn_an1, cn_inv_v, cn_inv_s, cn_inv_p, cn_ca1, cn_cb1, cn_pop0, cn_pops, cn_rk0, cn_rk1, cn_kcn, cn_kcs, cn_ireturn, cn_lreturn, cn_areturn, cn_return, cn_re0, cn_re1, cn_re2, cn_re3, cn_re4, cn_re5, cn_wp0, cn_wps, cn_m0, cn_m1, cn_e0, cn_en, cn_ei, cn_er, cn_eu, cn_el, cn_nl0, cn_nls, cn_nb0, cn_nb1, cn_nb2, cn_nb3, cn_bd0, cn_bds, cn_cwi, cn_cwr, cn_cwl, cn_cwn, cn_wi2, cn_wl1, cn_wl3, cn_wr1, cn_wr2, cn_wi_eq, cn_wl_eq, cb_0, cb_n0, cb_b, cm_okb0, cm_okb1, Classical.not_not, true_and, and_true, Nat.reduceAdd, Nat.reduceSub, Nat.reduceLT, Nat.reduceLeDiff, Int.reduceToNat, Int.reduceNatCast', Nat.zero_le, Nat.reduceEqDiff, false_or, or_false, or_true, true_or, Int.reduceNeg, reduceCtorEq, false_implies, implies_true, forall_const, true_implies, not_true_eq_false, not_false_eq_true, Nat.le_refl, ne_eq, if_true, if_false, ite_true, ite_false, List.cons_append, List.nil_append]
    refine ⟨_, _, x1, by rw [e4]; exact x2, x3, x4, C1.frame f4 (by omega), C2.frame f4 (by omega), nc, na, v1, v2, by unfold ap3w; omega, t4, fun M5 f5 P5 => ?_⟩
    have F5 : Fr M M5 g 17 := F4.trans (f5.wide (by omega) (by omega))
    have e5 := F5.2
    have D1 := (C1.frame f4 (by omega)).frame f5 (by omega)
    have D3 := (B3.frame f4 (by omega)).frame f5 (by omega)
    simp only [jX3_mergeLines, kX3_mergeLines_0, kX3_mergeLines_1, kX3_mergeLines_2, fl_3_31, fl_3_35, fl_3_38, fl_3_12, fl_3_41, fl_3_45, fl_3_53, fl_3_57, fl_3_104, t1, r0, r3, r4, r5, r6, r7, r8, kb, ko, kt, ka1, ka2, ka3, x1, v1, v3, e5, cn_iconst, cn_lconst0, cn_lconst1, cn_null, cn_iload, cn_aload, cn_lload, cn_lo1, cn_loa1, cn_loa2, cn_lol1, cn_get0, cn_gets, cn_put0, cn_puts, cn_istore, cn_astore, cn_astoreN, cn_lstore, cn_iinc, cn_in1, cn_iadd, cn_isub, cn_imul, cn_iand, cn_ior, cn_ixor, cn_ishl, cn_ishr, cn_iushr, cn_idiv, cn_irem, cn_ladd, cn_lmul, cn_ldiv, cn_lrem, cn_i2l, cn_l2i, cn_i2b, cn_lcmp, cn_dupi, cn_dupr, cn_dup2, cn_popi, cn_popr, cn_goto, cn_if_eq, cn_if_ne, cn_if_lt, cn_if_ge, cn_if_gt, cn_if_le, cn_ic_eq, cn_ic_ne, cn_ic_lt, cn_ic_ge, cn_ic_gt, cn_ic_le, cn_ifnullN, cn_ifnullR, cn_ifnonnullN, cn_ifnonnullR, cn_tswS, cn_tsw0, cn_tsw1, cn_lswS, cn_lsw0, cn_lsw1, cn_alen, cn_iaload, cn_laload, cn_rr1, cn_rr0, cn_aaload, cn_iastore, cn_lastore, cn_aastore, cn_getfield, cn_gf0, cn_gf1, cn_gf2, cn_gf3, cn_putfield, cn_pf0f, cn_pf1f, cn_pf2f, cn_pf3f, cn_pf0t, cn_pf1t, cn_pf2t, cn_pf3t, cn_new, cn_nw1, cn_newi, cn_newl, cn_anew, cn_an1, cn_inv_v, cn_inv_s, cn_inv_p, cn_ca1, cn_cb1, cn_pop0, cn_pops, cn_rk0, cn_rk1, cn_kcn, cn_kcs, cn_ireturn, cn_lreturn, cn_areturn, cn_return, cn_re0, cn_re1, cn_re2, cn_re3, cn_re4, cn_re5, cn_wp0, cn_wps, cn_m0, cn_m1, cn_e0, cn_en, cn_ei, cn_er, cn_eu, cn_el, cn_nl0, cn_nls, cn_nb0, cn_nb1, cn_nb2, cn_nb3, cn_bd0, cn_bds, cn_cwi, cn_cwr, cn_cwl, cn_cwn, cn_wi2, cn_wl1, cn_wl3, cn_wr1, cn_wr2, cn_wi_eq, cn_wl_eq, cb_0, cb_n0, cb_b, cm_okb0, cm_okb1, Classical.not_not, true_and, and_true, Nat.reduceAdd, Nat.reduceSub, Nat.reduceLT, Nat.reduceLeDiff, Int.reduceToNat, Int.reduceNatCast', Nat.zero_le, Nat.reduceEqDiff, false_or, or_false, or_true, true_or, Int.reduceNeg, reduceCtorEq, false_implies, implies_true, forall_const, true_implies, not_true_eq_false, not_false_eq_true, Nat.le_refl, ne_eq, if_true, if_false, ite_true, ite_false, List.cons_append, List.nil_append]
    refine ⟨_, _, x1, by rw [e5]; exact x2, x3, x4, D1, D3, nc, nb, by unfold ap3m; omega, fun M6 f6 t6 => ?_⟩
    have F6 : Fr M M6 g 17 := F5.trans (f6.wide (by omega) (by omega))
    have e6 := F6.2
    simp only [jX3_mergeLines, kX3_mergeLines_0, kX3_mergeLines_1, kX3_mergeLines_2, fl_3_31, fl_3_35, fl_3_38, fl_3_12, fl_3_41, fl_3_45, fl_3_53, fl_3_57, fl_3_104, t1, r0, r3, r4, r5, r6, r7, r8, kb, ko, kt, ka1, ka2, ka3, x1, v1, v3, e6, cn_iconst, cn_lconst0, cn_lconst1, cn_null, cn_iload, cn_aload, cn_lload, cn_lo1, cn_loa1, cn_loa2, cn_lol1, cn_get0, cn_gets, cn_put0, cn_puts, cn_istore, cn_astore, cn_astoreN, cn_lstore, cn_iinc, cn_in1, cn_iadd, cn_isub, cn_imul, cn_iand, cn_ior, cn_ixor, cn_ishl, cn_ishr, cn_iushr, cn_idiv, cn_irem, cn_ladd, cn_lmul, cn_ldiv, cn_lrem, cn_i2l, cn_l2i, cn_i2b, cn_lcmp, cn_dupi, cn_dupr, cn_dup2, cn_popi, cn_popr, cn_goto, cn_if_eq, cn_if_ne, cn_if_lt, cn_if_ge, cn_if_gt, cn_if_le, cn_ic_eq, cn_ic_ne, cn_ic_lt, cn_ic_ge, cn_ic_gt, cn_ic_le, cn_ifnullN, cn_ifnullR, cn_ifnonnullN, cn_ifnonnullR, cn_tswS, cn_tsw0, cn_tsw1, cn_lswS, cn_lsw0, cn_lsw1, cn_alen, cn_iaload, cn_laload, cn_rr1, cn_rr0, cn_aaload, cn_iastore, cn_lastore, cn_aastore, cn_getfield, cn_gf0, cn_gf1, cn_gf2, cn_gf3, cn_putfield, cn_pf0f, cn_pf1f, cn_pf2f, cn_pf3f, cn_pf0t, cn_pf1t, cn_pf2t, cn_pf3t, cn_new, cn_nw1, cn_newi, cn_newl, cn_anew, cn_an1, cn_inv_v, cn_inv_s, cn_inv_p, cn_ca1, cn_cb1, cn_pop0, cn_pops, cn_rk0, cn_rk1, cn_kcn, cn_kcs, cn_ireturn, cn_lreturn, cn_areturn, cn_return, cn_re0, cn_re1, cn_re2, cn_re3, cn_re4, cn_re5, cn_wp0, cn_wps, cn_m0, cn_m1, cn_e0, cn_en, cn_ei, cn_er, cn_eu, cn_el, cn_nl0, cn_nls, cn_nb0, cn_nb1, cn_nb2, cn_nb3, cn_bd0, cn_bds, cn_cwi, cn_cwr, cn_cwl, cn_cwn, cn_wi2, cn_wl1, cn_wl3, cn_wr1, cn_wr2, cn_wi_eq, cn_wl_eq, cb_0, cb_n0, cb_b, cm_okb0, cm_okb1, Classical.not_not, true_and, and_true, Nat.reduceAdd, Nat.reduceSub, Nat.reduceLT, Nat.reduceLeDiff, Int.reduceToNat, Int.reduceNatCast', Nat.zero_le, Nat.reduceEqDiff, false_or, or_false, or_true, true_or, Int.reduceNeg, reduceCtorEq, false_implies, implies_true, forall_const, true_implies, not_true_eq_false, not_false_eq_true, Nat.le_refl, ne_eq, if_true, if_false, ite_true, ite_false, List.cons_append, List.nil_append]
    refine ⟨_, _, x1, by rw [e6]; exact x2, x3, x4, D1.frame f6 (by omega), D3.frame f6 (by omega), nc, nb, v3, v4, by unfold ap3w; omega, t6, fun M7 f7 P7 => ?_⟩
    have F7 : Fr M M7 g 17 := F6.trans (f7.wide (by omega) (by omega))
    have e7 := F7.2
    have E1 := (D1.frame f6 (by omega)).frame f7 (by omega)
    have E3 := (D3.frame f6 (by omega)).frame f7 (by omega)
    have E2 := (((C2.frame f4 (by omega)).frame f5 (by omega)).frame f6 (by omega)).frame f7 (by omega)
    have po7 : M7.1 (g + 13) = M5.1 (g + 13) := (f7.1 _ (by omega)).trans (f6.1 _ (by omega))
    have sz7 : sz M7 (g + 15) = sz M (g + 15) := by
      unfold sz
      rw [f7.1 _ (by omega), f6.1 _ (by omega), f5.1 _ (by omega), f4.1 _ (by omega), f3.1 _ (by omega), f2.1 _ (by omega), f1.1 _ (by omega)]
    have g7 : M7.1 g = M.1 g := by
      rw [f7.1 _ (by omega), f6.1 _ (by omega), f5.1 _ (by omega), f4.1 _ (by omega), f3.1 _ (by omega), f2.1 _ (by omega), f1.1 _ (by omega)]
    have pl7 : pl M7 (g + 15) = g + 16 := pl_eq (by rw [e7]; exact u2)
    have so : Sg T M7 (g + 15) := by
      refine ⟨u1, by rw [pl7, e7]; exact u2, by rw [pl7]; exact u3, by rw [sz7]; exact z4, by rw [sz7, pl7, u4]; exact z5, by rw [pl7, u4]; decide⟩
    simp only [jX3_mergeLines, kX3_mergeLines_0, kX3_mergeLines_1, kX3_mergeLines_2, fl_3_31, fl_3_35, fl_3_38, fl_3_12, fl_3_41, fl_3_45, fl_3_53, fl_3_57, fl_3_104, t1, r0, r3, r4, r5, r6, r7, r8, kb, ko, kt, ka1, ka2, ka3, x1, v1, v3, u1, e7, cn_iconst, cn_lconst0, cn_lconst1, cn_null, cn_iload, cn_aload, cn_lload, cn_lo1, cn_loa1, cn_loa2, cn_lol1, cn_get0, cn_gets, cn_put0, cn_puts, cn_istore, cn_astore, cn_astoreN, cn_lstore, cn_iinc, cn_in1, cn_iadd, cn_isub, cn_imul, cn_iand, cn_ior, cn_ixor, cn_ishl, cn_ishr, cn_iushr, cn_idiv, cn_irem, cn_ladd, cn_lmul, cn_ldiv, cn_lrem, cn_i2l, cn_l2i, cn_i2b, cn_lcmp, cn_dupi, cn_dupr, cn_dup2, cn_popi, cn_popr, cn_goto, cn_if_eq, cn_if_ne, cn_if_lt, cn_if_ge, cn_if_gt, cn_if_le, cn_ic_eq, cn_ic_ne, cn_ic_lt, cn_ic_ge, cn_ic_gt, cn_ic_le, cn_ifnullN, cn_ifnullR, cn_ifnonnullN, cn_ifnonnullR, cn_tswS, cn_tsw0, cn_tsw1, cn_lswS, cn_lsw0, cn_lsw1, cn_alen, cn_iaload, cn_laload, cn_rr1, cn_rr0, cn_aaload, cn_iastore, cn_lastore, cn_aastore, cn_getfield, cn_gf0, cn_gf1, cn_gf2, cn_gf3, cn_putfield, cn_pf0f, cn_pf1f, cn_pf2f, cn_pf3f, cn_pf0t, cn_pf1t, cn_pf2t, cn_pf3t, cn_new, cn_nw1, cn_newi, cn_newl, cn_anew, cn_an1, cn_inv_v, cn_inv_s, cn_inv_p, cn_ca1, cn_cb1, cn_pop0, cn_pops, cn_rk0, cn_rk1, cn_kcn, cn_kcs, cn_ireturn, cn_lreturn, cn_areturn, cn_return, cn_re0, cn_re1, cn_re2, cn_re3, cn_re4, cn_re5, cn_wp0, cn_wps, cn_m0, cn_m1, cn_e0, cn_en, cn_ei, cn_er, cn_eu, cn_el, cn_nl0, cn_nls, cn_nb0, cn_nb1, cn_nb2, cn_nb3, cn_bd0, cn_bds, cn_cwi, cn_cwr, cn_cwl, cn_cwn, cn_wi2, cn_wl1, cn_wl3, cn_wr1, cn_wr2, cn_wi_eq, cn_wl_eq, cb_0, cb_n0, cb_b, cm_okb0, cm_okb1, Classical.not_not, true_and, and_true, Nat.reduceAdd, Nat.reduceSub, Nat.reduceLT, Nat.reduceLeDiff, Int.reduceToNat, Int.reduceNatCast', Nat.zero_le, Nat.reduceEqDiff, false_or, or_false, or_true, true_or, Int.reduceNeg, reduceCtorEq, false_implies, implies_true, forall_const, true_implies, not_true_eq_false, not_false_eq_true, Nat.le_refl, ne_eq, if_true, if_false, ite_true, ite_false, List.cons_append, List.nil_append]
    refine ⟨0, so, by rw [pl7, u4]; decide, ?_⟩
    have e8 : (mRow M7 (g + 15) 0 (fun _ => w3 0)).2 = M.2 := e7
    simp only [jX3_mergeLines, kX3_mergeLines_0, kX3_mergeLines_1, kX3_mergeLines_2, fl_3_31, fl_3_35, fl_3_38, fl_3_12, fl_3_41, fl_3_45, fl_3_53, fl_3_57, fl_3_104, t1, e8, cn_iconst, cn_lconst0, cn_lconst1, cn_null, cn_iload, cn_aload, cn_lload, cn_lo1, cn_loa1, cn_loa2, cn_lol1, cn_get0, cn_gets, cn_put0, cn_puts, cn_istore, cn_astore, cn_astoreN, cn_lstore, cn_iinc, cn_in1, cn_iadd, cn_isub, cn_imul, cn_iand, cn_ior, cn_ixor, cn_ishl, cn_ishr, cn_iushr, cn_idiv, cn_irem, cn_ladd, cn_lmul, cn_ldiv, cn_lrem, cn_i2l, cn_l2i, cn_i2b, cn_lcmp, cn_dupi, cn_dupr, cn_dup2, cn_popi, cn_popr, cn_goto, cn_if_eq, cn_if_ne, cn_if_lt, cn_if_ge, cn_if_gt, cn_if_le, cn_ic_eq, cn_ic_ne, cn_ic_lt, cn_ic_ge, cn_ic_gt, cn_ic_le, cn_ifnullN, cn_ifnullR, cn_ifnonnullN, cn_ifnonnullR, cn_tswS, cn_tsw0, cn_tsw1, cn_lswS, cn_lsw0, cn_lsw1, cn_alen, cn_iaload, cn_laload, cn_rr1, cn_rr0, cn_aaload, cn_iastore, cn_lastore, cn_aastore, cn_getfield, cn_gf0, cn_gf1, cn_gf2, cn_gf3, cn_putfield, cn_pf0f, cn_pf1f, cn_pf2f, cn_pf3f, cn_pf0t, cn_pf1t, cn_pf2t, cn_pf3t, cn_new, cn_nw1, cn_newi, cn_newl, cn_anew, cn_an1, cn_inv_v, cn_inv_s, cn_inv_p, cn_ca1, cn_cb1, cn_pop0, cn_pops, cn_rk0, cn_rk1, cn_kcn, cn_kcs, cn_ireturn, cn_lreturn, cn_areturn, cn_return, cn_re0, cn_re1, cn_re2, cn_re3, cn_re4, cn_re5, cn_wp0, cn_wps, cn_m0, cn_m1, cn_e0, cn_en, cn_ei, cn_er, cn_eu, cn_el, cn_nl0, cn_nls, cn_nb0, cn_nb1, cn_nb2, cn_nb3, cn_bd0, cn_bds, cn_cwi, cn_cwr, cn_cwl, cn_cwn, cn_wi2, cn_wl1, cn_wl3, cn_wr1, cn_wr2, cn_wi_eq, cn_wl_eq, cb_0, cb_n0, cb_b, cm_okb0, cm_okb1, Classical.not_not, true_and, and_true, Nat.reduceAdd, Nat.reduceSub, Nat.reduceLT, Nat.reduceLeDiff, Int.reduceToNat, Int.reduceNatCast', Nat.zero_le, Nat.reduceEqDiff, false_or, or_false, or_true, true_or, Int.reduceNeg, reduceCtorEq, false_implies, implies_true, forall_const, true_implies, not_true_eq_false, not_false_eq_true, Nat.le_refl, ne_eq, if_true, if_false, ite_true, ite_false, List.cons_append, List.nil_append]
    have F8 : Fr M7 (cm_wi (mRow M7 (g + 15) 0 (fun _ => w3 0)) g 9 (w3 0)) g 17 := (Fr.row (by omega) (by omega) (by omega) (by omega)).trans (Fr.wi (by omega) (by omega))
    have FO : FrO M7 (cm_wi (mRow M7 (g + 15) 0 (fun _ => w3 0)) g 9 (w3 0)) g := by
      refine ⟨fun q a b c => funext fun j => ?_, fun k hk => ?_, rfl⟩
      · rw [cn_wi_ne (Or.inl a), mRow_ne (Or.inl b) (Or.inl (by rw [pl7]; exact c))]
      · rw [cn_wi_ne (Or.inr hk), mRow_ne (Or.inl (by omega)) (Or.inl (by omega))]
    generalize hM8 : cm_wi (mRow M7 (g + 15) 0 (fun _ => w3 0)) g 9 (w3 0) = M8 at F8 FO ⊢
    have O8 : OutIs M8 g [] := by
      refine Or.inl ⟨by decide, ?_, ?_, fun k hk => absurd hk (by simp)⟩
      · rw [← hM8]; exact cn_wi1.trans (if_pos ⟨rfl, rfl⟩)
      · rw [← hM8, cn_wi_ne (Or.inl (by omega))]
        exact if_pos ⟨rfl, rfl⟩
    have e9 : M8.2 = M.2 := FO.2.2.trans e7
    refine lX3_mergeLines d hd (M := M8) (tn := tn) (co := cnt (fl M a)) (cb0 := cnt (fl M c)) (ct := cnt (fl M b)) (by rw [e9]; exact hT) (FO.lls (Or.inl rfl) E1) (FO.lls (Or.inr (Or.inl rfl)) E2) (FO.lls (Or.inr (Or.inr rfl)) E3) nc na nb (by rw [FO.2.1 2 (by decide), g7]; exact htn) ?_ ?_ ?_ 0 M8 (Nat.zero_le _) FrO.rf O8
    · intro k hk
      rw [FO.1 _ (by omega) (by omega) (by omega), po7]
      exact P5 k hk
    · intro k hk
      rw [FO.1 _ (by omega) (by omega) (by omega)]
      exact P7 k hk
    · intro M9 f9 O9
      have FZ := FO.trans f9
      have W1 := (FZ.lls (Or.inl rfl) E1).st0
      have W2 := (FZ.lls (Or.inr (Or.inl rfl)) E2).st0
      have W3 := (FZ.lls (Or.inr (Or.inr rfl)) E3).st0
      refine hS M9 (F7.trans FZ.fr) (by rw [FZ.2.1 2 (by decide), g7]; exact htn) ⟨by rw [f9.2.2, e9]; exact hT, ⟨W1, W2, W3⟩, ?_⟩ O9
      rcases O9 with ⟨y1, -, y2, -⟩ | ⟨-, -, y1, y2⟩
      · have : sz M9 (g + 15) = ((mgL tn (cnt (fl M a)) (cnt (fl M c)) (cnt (fl M b))).length : Int) := by
          unfold sz
          rw [y2]
          exact w3_toInt (by omega) (by omega)
        omega
      · omega

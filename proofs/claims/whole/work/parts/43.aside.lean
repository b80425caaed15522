theorem w3_00 : (w3 0 = 0) = True := eq_true rfl
theorem w3_10 : (w3 1 = 0) = False := eq_false (by decide)
def SX6_commonOf : cm_CT := SC 16
theorem mX6_commonOf (d : Nat) (hd : 21 ≤ d) : cm_Met d yX6_commonOf cX6_commonOf 10 (some (.object "CrissMerger$Tree")) 0 0 SX6_commonOf := mCom 16 d (by omega)
/-- the trees that are written aside -/
def tmm (t x : Nat) : Prop := t = x + 283 ∨ t = x + 291
def isP (B : Bk) (a b : Int) : Prop := (0 ≤ a ∧ a < (B.1 : Int)) ∧ (0 ≤ b ∧ b < (B.1 : Int)) ∧ a ≠ b
def anP (B : Bk) (a b : Int) : Prop := hb (anc B b.toNat) (w3 a) ∨ hb (anc B a.toNat) (w3 b)
noncomputable def mgX (B : Bk) (tn : Bool) (a b : Int) : Option Tv := match cmn B 16 a b with
  | none => none
  | some Z => mgT tn (B.2 a.toNat).1 (B.2 b.toNat).1 Z
/-- two versions merged aside: the refusal (0: none), what comes -/
noncomputable def mgA (B : Bk) (tn : Bool) (a b : Int) : Int32 × Option Tv := @ite _ (isP B a b) (Classical.propDecidable _) (@ite _ (anP B a b) (Classical.propDecidable _) (w3 (-4), none) (match mgX B tn a b with
  | none => (w3 (-6), none)
  | some X => (w3 0, some X))) (w3 (-1), none)
theorem mgA_n {B : Bk} {tn : Bool} {a b : Int} (h : ¬ isP B a b) : mgA B tn a b = (w3 (-1), none) := if_neg h
theorem mgA_a {B : Bk} {tn : Bool} {a b : Int} (h : isP B a b) (h2 : anP B a b) : mgA B tn a b = (w3 (-4), none) := by
  unfold mgA; rw [if_pos h, if_pos h2]
theorem mgA_x {B : Bk} {tn : Bool} {a b : Int} (h : isP B a b) (h2 : ¬ anP B a b) : mgA B tn a b = (match mgX B tn a b with
  | none => (w3 (-6), none)
  | some X => (w3 0, some X)) := by
  unfold mgA; rw [if_pos h, if_neg h2]
theorem MgG.tn {T : cm_T} {M : cm_M} {g : Nat} {v : Int32} (h : MgG T M g) : MgG T (cm_wi M g 2 v) g := by
  obtain ⟨h1, ⟨h2, h3, h4⟩, h5⟩ := h
  have e : sz (cm_wi M g 2 v) (g + 15) = sz M (g + 15) := by unfold sz; rw [cn_wi_ne (Or.inl (by omega))]
  exact ⟨h1, ⟨by rw [cn_wi_ne (Or.inl (by omega))]; exact h2, by rw [cn_wi_ne (Or.inl (by omega))]; exact h3, by rw [cn_wi_ne (Or.inl (by omega))]; exact h4⟩, by rw [e]; exact h5⟩
theorem cs_aside {T : cm_T} {M M1 : cm_M} {x L : Nat} (hC : CMG T M x L) (h : Fr M M1 (x + 138) 161) (G : MgG T M1 (x + 138)) (b : M1.1 (x + 138) 2 = tb false) (lv : ∀ i : Nat, i < 16 → TrG T M1 (x + 155 + 8 * i)) (t1 : TrG T M1 (x + 283)) (t2 : TrG T M1 (x + 291)) : CMG T M1 x L ∧ cst M1 x = cst M x ∧ FrC M M1 x L := by
  obtain ⟨s1, ⟨s2, s3, s4⟩, s5, s6, s7, s8, s9⟩ := hC.2.2.2.2.1
  exact cs_scr hC (h.wide (by omega) (by omega)) ⟨⟨G, b⟩, ⟨s2, s3, fun i hi => ⟨by rw [h.2]; exact (s4 i hi).1, lv i hi⟩⟩, ⟨t1, t2⟩, by rw [h.2]; exact s6, by rw [h.1 _ (by omega)]; exact s7, by rw [h.2]; exact s8, by rw [h.1 _ (by omega)]; exact s9⟩
theorem CMG.com {T : cm_T} {M : cm_M} {x L : Nat} (hC : CMG T M x L) : COM T M (x + 3) (x + 138) := by
  obtain ⟨s1, s2, -⟩ := hC.2.2.2.2.1
  exact ⟨by omega, hC.2.2.1, s1, s2⟩
theorem tb_ok {tn : Bool} : (tb tn = 0 ∨ tb tn = 1) = True := by cases tn <;> exact eq_true (by decide)
def SX6_mergeAside : cm_CT := fun as T M Φ => match as with
  | [.ref x, .ref t, .int a, .int b, .int u] => ∃ (L : Nat) (tn : Bool), CMG T M x L ∧ u = tb tn ∧ tmm t x ∧ ∀ M1, FrC M M1 x L → CMG T M1 x L → cst M1 x = cst M x → (∀ w, tmm w x → w ≠ t → trv M1 w = trv M w) → (∀ X, (mgA (bkv M (x + 3)) tn a.toInt b.toInt).2 = some X → trv M1 t = X ∧ TvG X) → Φ (some (.int (mgA (bkv M (x + 3)) tn a.toInt b.toInt).1)) T M1
  | _ => False
def JX6_mergeAside : cm_J := (6, false, 1, [(185, 3, 7, 0, 0, SX6_isPair), (252, 3, 1, 0, 0, SX0_isAncestor), (317, 5, 4, 0, 0, SX3_mergeTrees)], [(188, 5, 0, 0, 0, SX6_commonOf)], [])
theorem jX6_mergeAside : JX6_mergeAside.1 = 6 ∧ JX6_mergeAside.2.1 = false ∧ JX6_mergeAside.2.2.1 = 1 ∧ cm_gv JX6_mergeAside 185 = some (3, 7, 0, 0, SX6_isPair) ∧ cm_gv JX6_mergeAside 252 = some (3, 1, 0, 0, SX0_isAncestor) ∧ cm_gv JX6_mergeAside 317 = some (5, 4, 0, 0, SX3_mergeTrees) ∧ cm_gs JX6_mergeAside 188 = some (5, 0, 0, 0, SX6_commonOf) := ⟨rfl, rfl, rfl, rfl, rfl, rfl, rfl⟩
theorem eX6_mergeAside (d : Nat) (hd : 22 ≤ d) : cm_Cok d JX6_mergeAside := ⟨(List.forall_mem_cons.mpr ⟨q6_185 (mX6_isPair (d - 1) (by omega)) (by omega), (List.forall_mem_cons.mpr ⟨q6_252 (mX0_isAncestor (d - 1) (by omega)) (by omega), (List.forall_mem_cons.mpr ⟨q6_317 (mX3_mergeTrees (d - 1) (by omega)) (by omega), (fun q h => by cases h)⟩)⟩)⟩), (List.forall_mem_cons.mpr ⟨q6_188 (mX6_commonOf (d - 1) (by omega)) (by omega), (fun q h => by cases h)⟩), (fun q h => by cases h)⟩
set_option maxHeartbeats 4000000 in
theorem mX6_mergeAside (d : Nat) (hd : 22 ≤ d) : cm_Met d yX6_mergeAside cX6_mergeAside 7 (some .int) 0 0 SX6_mergeAside := by
  refine cm_meets (J := JX6_mergeAside) (by decide) rfl (fun h => by cases h) trivial ?_
  intro as T M Φ hS
  match as, hS with
  | [.ref x, .ref t, .int a, .int b, .int u], ⟨L, tn, hC, hu, htm, hS⟩ =>
    refine ⟨Nat.le_of_ble_eq_true rfl, ?_⟩
    subst hu
    obtain ⟨k0, ⟨r0, r1, r2, r3, r4, r5, r6, r7, r8, r13⟩, ⟨k1, k2, k137, k305⟩, ⟨l1, l2, l137, l305⟩, hr, ht⟩ := id hC.2.1
    have hB := hC.2.2.1
    obtain ⟨⟨K0, ⟨R1, R2, R3, R4, R5⟩, ⟨KK1, K2, K3, K4, K5⟩, ⟨L1, L2, L3, L4, L5⟩, RV⟩, HZ, HT, HW, HA⟩ := id hB
    obtain ⟨hn, hn16⟩ := hB.n
    have hz0 : M.1 (x + 3) 0 = w3 ((bkv M (x + 3)).1 : Int) := i3_of hn
    have hS0 := hS M FrC.rf hC rfl (fun _ _ _ => rfl)
    have hne := i3_ne (x := a) (y := b)
    by_cases hP : (0 ≤ a.toInt ∧ a.toInt < ((bkv M (x + 3)).1 : Int)) ∧ (0 ≤ b.toInt ∧ b.toInt < ((bkv M (x + 3)).1 : Int)) ∧ ¬ a = b
    · have hP2 : isP (bkv M (x + 3)) a.toInt b.toInt := ⟨hP.1, hP.2.1, by rw [← hne]; exact hP.2.2⟩
      have p1 := eq_true hP.1
      have p2 := eq_true hP.2.1
      have p3 := eq_false hP.2.2
      have ea0 : w3 a.toInt = a := w3_self a
      have eb0 : w3 b.toInt = b := w3_self b
      by_cases hA1 : hb (anc (bkv M (x + 3)) b.toInt.toNat) a
      · have q1 := eq_true hA1
        rw [mgA_a hP2 (Or.inl (by rw [ea0]; exact hA1))] at hS0
        refine cm_go hX6_mergeAside 200 oX6_mergeAside (eX6_mergeAside d hd) lX6_mergeAside_0 ?_
        simp only [jX6_mergeAside, kX6_mergeAside_0, kX6_mergeAside_1, fl_6_21, fl_6_32, fl_6_313, fl_6_154, SX6_isPair, SX0_isAncestor, hs, w3_self, hn, hB, p1, p2, p3, q1, k0, r0, r1, r2, r3, r4, r5, r6, r7, r8, r13, k1, k2, k137, k305, l1, l2, l137, l305, K0, R1, R2, R3, R4, R5, KK1, K2, K3, K4, K5, L1, L2, L3, L4, L5, w3_00, w3_10, cn_iconst, cn_lconst0, cn_lconst1, cn_null, cn_iload, cn_aload, cn_lload, cn_lo1, cn_loa1, cn_loa2, cn_lol1, cn_get0, cn_gets, cn_put0, cn_puts, cn_istore, cn_astore, cn_astoreN, cn_lstore, cn_iinc, cn_in1, cn_iadd, cn_isub, cn_imul, cn_iand, cn_ior, cn_ixor, cn_ishl, cn_ishr, cn_iushr, cn_idiv, cn_irem, cn_ladd, cn_lmul, cn_ldiv, cn_lrem, cn_i2l, cn_l2i, cn_i2b, cn_lcmp, cn_dupi, cn_dupr, cn_dup2, cn_popi, cn_popr, cn_goto, cn_if_eq, cn_if_ne, cn_if_lt, cn_if_ge, cn_if_gt, cn_if_le, cn_ic_eq, cn_ic_ne, cn_ic_lt, cn_ic_ge, cn_ic_gt, cn_ic_le, cn_ifnullN, cn_ifnullR, cn_ifnonnullN, cn_ifnonnullR, cn_tswS, cn_tsw0, cn_tsw1, cn_lswS, cn_lsw0, cn_lsw1, cn_alen, cn_iaload, cn_laload, cn_rr1, cn_rr0, cn_aaload, cn_iastore, cn_lastore, cn_aastore, cn_getfield, cn_gf0, cn_gf1, cn_gf2, cn_gf3, cn_putfield, cn_pf0f, cn_pf1f, cn_pf2f, cn_pf3f, cn_pf0t, cn_pf1t, cn_pf2t, cn_pf3t, cn_new, cn_nw1, cn_newi, cn_newl, cn_anew, cn_an1, cn_inv_v, cn_inv_s, cn_inv_p, cn_ca1, cn_cb1, cn_pop0, cn_pops, cn_rk0, cn_rk1, cn_kcn, cn_kcs, cn_ireturn, cn_lreturn, cn_areturn, cn_return, cn_re0, cn_re1, cn_re2, cn_re3, cn_re4, cn_re5, cn_wp0, cn_wps, cn_m0, cn_m1, cn_e0, cn_en, cn_ei, cn_er, cn_eu, cn_el, cn_nl0, cn_nls, cn_nb0, cn_nb1, cn_nb2, cn_nb3, cn_bd0, cn_bds, cn_cwi, cn_cwr, cn_cwl, cn_cwn, cn_wi2, cn_wl1, cn_wl3, cn_wr1, cn_wr2, cn_wi_eq, cn_wl_eq, cb_0, cb_n0, cb_b, cm_okb0, cm_okb1, Classical.not_not, true_and, and_true, Nat.reduceAdd, Nat.reduceSub, Nat.reduceLT, Nat.reduceLeDiff, Int.reduceToNat, Int.reduceNatCast', Nat.zero_le, Nat.reduceEqDiff, false_or, or_false, or_true, true_or, Int.reduceNeg, reduceCtorEq, false_implies, implies_true, forall_const, true_implies, not_true_eq_false, not_false_eq_true, Nat.le_refl, ne_eq, if_true, if_false, ite_true, ite_false, List.cons_append, List.nil_append]
        exact hS0 (fun X h => by cases h)
      · have q1 := eq_false hA1
        by_cases hA2 : hb (anc (bkv M (x + 3)) a.toInt.toNat) b
        · have q2 := eq_true hA2
          rw [mgA_a hP2 (Or.inr (by rw [eb0]; exact hA2))] at hS0
          refine cm_go hX6_mergeAside 200 oX6_mergeAside (eX6_mergeAside d hd) lX6_mergeAside_0 ?_
          simp only [jX6_mergeAside, kX6_mergeAside_0, kX6_mergeAside_1, fl_6_21, fl_6_32, fl_6_313, fl_6_154, SX6_isPair, SX0_isAncestor, hs, w3_self, hn, hB, p1, p2, p3, q1, q2, k0, r0, r1, r2, r3, r4, r5, r6, r7, r8, r13, k1, k2, k137, k305, l1, l2, l137, l305, K0, R1, R2, R3, R4, R5, KK1, K2, K3, K4, K5, L1, L2, L3, L4, L5, w3_00, w3_10, cn_iconst, cn_lconst0, cn_lconst1, cn_null, cn_iload, cn_aload, cn_lload, cn_lo1, cn_loa1, cn_loa2, cn_lol1, cn_get0, cn_gets, cn_put0, cn_puts, cn_istore, cn_astore, cn_astoreN, cn_lstore, cn_iinc, cn_in1, cn_iadd, cn_isub, cn_imul, cn_iand, cn_ior, cn_ixor, cn_ishl, cn_ishr, cn_iushr, cn_idiv, cn_irem, cn_ladd, cn_lmul, cn_ldiv, cn_lrem, cn_i2l, cn_l2i, cn_i2b, cn_lcmp, cn_dupi, cn_dupr, cn_dup2, cn_popi, cn_popr, cn_goto, cn_if_eq, cn_if_ne, cn_if_lt, cn_if_ge, cn_if_gt, cn_if_le, cn_ic_eq, cn_ic_ne, cn_ic_lt, cn_ic_ge, cn_ic_gt, cn_ic_le, cn_ifnullN, cn_ifnullR, cn_ifnonnullN, cn_ifnonnullR, cn_tswS, cn_tsw0, cn_tsw1, cn_lswS, cn_lsw0, cn_lsw1, cn_alen, cn_iaload, cn_laload, cn_rr1, cn_rr0, cn_aaload, cn_iastore, cn_lastore, cn_aastore, cn_getfield, cn_gf0, cn_gf1, cn_gf2, cn_gf3, cn_putfield, cn_pf0f, cn_pf1f, cn_pf2f, cn_pf3f, cn_pf0t, cn_pf1t, cn_pf2t, cn_pf3t, cn_new, cn_nw1, cn_newi, cn_newl, cn_anew, cn_an1, cn_inv_v, cn_inv_s, cn_inv_p, cn_ca1, cn_cb1, cn_pop0, cn_pops, cn_rk0, cn_rk1, cn_kcn, cn_kcs, cn_ireturn, cn_lreturn, cn_areturn, cn_return, cn_re0, cn_re1, cn_re2, cn_re3, cn_re4, cn_re5, cn_wp0, cn_wps, cn_m0, cn_m1, cn_e0, cn_en, cn_ei, cn_er, cn_eu, cn_el, cn_nl0, cn_nls, cn_nb0, cn_nb1, cn_nb2, cn_nb3, cn_bd0, cn_bds, cn_cwi, cn_cwr, cn_cwl, cn_cwn, cn_wi2, cn_wl1, cn_wl3, cn_wr1, cn_wr2, cn_wi_eq, cn_wl_eq, cb_0, cb_n0, cb_b, cm_okb0, cm_okb1, Classical.not_not, true_and, and_true, Nat.reduceAdd, Nat.reduceSub, Nat.reduceLT, Nat.reduceLeDiff, Int.reduceToNat, Int.reduceNatCast', Nat.zero_le, Nat.reduceEqDiff, false_or, or_false, or_true, true_or, Int.reduceNeg, reduceCtorEq, false_implies, implies_true, forall_const, true_implies, not_true_eq_false, not_false_eq_true, Nat.le_refl, ne_eq, if_true, if_false, ite_true, ite_false, List.cons_append, List.nil_append]
          exact hS0 (fun X h => by cases h)
        · have q2 := eq_false hA2
          have hnA : ¬ anP (bkv M (x + 3)) a.toInt b.toInt := by
            unfold anP
            rw [ea0, eb0]
            exact fun w => w.elim hA1 hA2
          rw [mgA_x hP2 hnA] at hS
          have hv1 := hP.1
          have hv2 := hP.2.1
          obtain ⟨α, ea, hα⟩ : ∃ ν : Nat, a.toInt = (ν : Int) ∧ ν < (bkv M (x + 3)).1 := ⟨a.toInt.toNat, by omega, by omega⟩
          have tGa := HT α (by omega)
          have rva := RV α (by omega)
          have ixa : cm_ix a 16 := ⟨by omega, by show a.toInt < ((16 : Nat) : Int); omega⟩
          have u1a := tGa.1.1
          have u2a := tGa.1.2.1
          have u3a := tGa.1.2.2.1
          have u4a := tGa.1.2.2.2.1
          have ena : ((α : Int)).toNat = α := by omega
          obtain ⟨γ, eb, hγ⟩ : ∃ ν : Nat, b.toInt = (ν : Int) ∧ ν < (bkv M (x + 3)).1 := ⟨b.toInt.toNat, by omega, by omega⟩
          have tGb := HT γ (by omega)
          have rvb := RV γ (by omega)
          have ixb : cm_ix b 16 := ⟨by omega, by show b.toInt < ((16 : Nat) : Int); omega⟩
          have u1b := tGb.1.1
          have u2b := tGb.1.2.1
          have u3b := tGb.1.2.2.1
          have u4b := tGb.1.2.2.2.1
          have enb : ((γ : Int)).toNat = γ := by omega
          have eta : trv M (x + 3 + 6 + 8 * α) = ((bkv M (x + 3)).2 α).1 := by rw [bkv_lt hα]
          have etb : trv M (x + 3 + 6 + 8 * γ) = ((bkv M (x + 3)).2 γ).1 := by rw [bkv_lt hγ]
          have gta := (HW.2.1 α hα).1
          have gtb := (HW.2.1 γ hγ).1
          have kg := hC.com.2.2.1.1.1.1
          have htm1 : tmm t x := htm
          unfold tmm at htm1
          unfold mgX at hS
          rw [ea, eb] at hP2
          refine cm_go hX6_mergeAside 200 oX6_mergeAside (eX6_mergeAside d hd) lX6_mergeAside_0 ?_
          simp only [jX6_mergeAside, kX6_mergeAside_0, kX6_mergeAside_1, fl_6_21, fl_6_32, fl_6_313, fl_6_154, SX6_isPair, SX0_isAncestor, hs, w3_self, hn, hB, p1, p2, p3, q1, q2, k0, r0, r1, r2, r3, r4, r5, r6, r7, r8, r13, k1, k2, k137, k305, l1, l2, l137, l305, K0, R1, R2, R3, R4, R5, KK1, K2, K3, K4, K5, L1, L2, L3, L4, L5, w3_00, w3_10, cn_iconst, cn_lconst0, cn_lconst1, cn_null, cn_iload, cn_aload, cn_lload, cn_lo1, cn_loa1, cn_loa2, cn_lol1, cn_get0, cn_gets, cn_put0, cn_puts, cn_istore, cn_astore, cn_astoreN, cn_lstore, cn_iinc, cn_in1, cn_iadd, cn_isub, cn_imul, cn_iand, cn_ior, cn_ixor, cn_ishl, cn_ishr, cn_iushr, cn_idiv, cn_irem, cn_ladd, cn_lmul, cn_ldiv, cn_lrem, cn_i2l, cn_l2i, cn_i2b, cn_lcmp, cn_dupi, cn_dupr, cn_dup2, cn_popi, cn_popr, cn_goto, cn_if_eq, cn_if_ne, cn_if_lt, cn_if_ge, cn_if_gt, cn_if_le, cn_ic_eq, cn_ic_ne, cn_ic_lt, cn_ic_ge, cn_ic_gt, cn_ic_le, cn_ifnullN, cn_ifnullR, cn_ifnonnullN, cn_ifnonnullR, cn_tswS, cn_tsw0, cn_tsw1, cn_lswS, cn_lsw0, cn_lsw1, cn_alen, cn_iaload, cn_laload, cn_rr1, cn_rr0, cn_aaload, cn_iastore, cn_lastore, cn_aastore, cn_getfield, cn_gf0, cn_gf1, cn_gf2, cn_gf3, cn_putfield, cn_pf0f, cn_pf1f, cn_pf2f, cn_pf3f, cn_pf0t, cn_pf1t, cn_pf2t, cn_pf3t, cn_new, cn_nw1, cn_newi, cn_newl, cn_anew, cn_an1, cn_inv_v, cn_inv_s, cn_inv_p, cn_ca1, cn_cb1, cn_pop0, cn_pops, cn_rk0, cn_rk1, cn_kcn, cn_kcs, cn_ireturn, cn_lreturn, cn_areturn, cn_return, cn_re0, cn_re1, cn_re2, cn_re3, cn_re4, cn_re5, cn_wp0, cn_wps, cn_m0, cn_m1, cn_e0, cn_en, cn_ei, cn_er, cn_eu, cn_el, cn_nl0, cn_nls, cn_nb0, cn_nb1, cn_nb2, cn_nb3, cn_bd0, cn_bds, cn_cwi, cn_cwr, cn_cwl, cn_cwn, cn_wi2, cn_wl1, cn_wl3, cn_wr1, cn_wr2, cn_wi_eq, cn_wl_eq, cb_0, cb_n0, cb_b, cm_okb0, cm_okb1, Classical.not_not, true_and, and_true, Nat.reduceAdd, Nat.reduceSub, Nat.reduceLT, Nat.reduceLeDiff, Int.reduceToNat, Int.reduceNatCast', Nat.zero_le, Nat.reduceEqDiff, false_or, or_false, or_true, true_or, Int.reduceNeg, reduceCtorEq, false_implies, implies_true, forall_const, true_implies, not_true_eq_false, not_false_eq_true, Nat.le_refl, ne_eq, if_true, if_false, ite_true, ite_false, List.cons_append, List.nil_append]
          refine ⟨Nat.le_refl _, hC.com, rfl, fun M1 F1 C1 l1 => ⟨fun hnn => ?_, fun Z t' hZ hv' ht' hg' _ hlo => ?_⟩⟩
          · have e1 := F1.2
            rw [hnn] at hS
            simp only [jX6_mergeAside, kX6_mergeAside_0, kX6_mergeAside_1, fl_6_21, fl_6_32, fl_6_313, fl_6_154, e1, kg, tb_ok, p1, p2, p3, q1, q2, k0, r0, r1, r2, r3, r4, r5, r6, r7, r8, r13, k1, k2, k137, k305, l1, l2, l137, l305, K0, R1, R2, R3, R4, R5, KK1, K2, K3, K4, K5, L1, L2, L3, L4, L5, w3_00, w3_10, cn_iconst, cn_lconst0, cn_lconst1, cn_null, cn_iload, cn_aload, cn_lload, cn_lo1, cn_loa1, cn_loa2, cn_lol1, cn_get0, cn_gets, cn_put0, cn_puts, cn_istore, cn_astore, cn_astoreN, cn_lstore, cn_iinc, cn_in1, cn_iadd, cn_isub, cn_imul, cn_iand, cn_ior, cn_ixor, cn_ishl, cn_ishr, cn_iushr, cn_idiv, cn_irem, cn_ladd, cn_lmul, cn_ldiv, cn_lrem, cn_i2l, cn_l2i, cn_i2b, cn_lcmp, cn_dupi, cn_dupr, cn_dup2, cn_popi, cn_popr, cn_goto, cn_if_eq, cn_if_ne, cn_if_lt, cn_if_ge, cn_if_gt, cn_if_le, cn_ic_eq, cn_ic_ne, cn_ic_lt, cn_ic_ge, cn_ic_gt, cn_ic_le, cn_ifnullN, cn_ifnullR, cn_ifnonnullN, cn_ifnonnullR, cn_tswS, cn_tsw0, cn_tsw1, cn_lswS, cn_lsw0, cn_lsw1, cn_alen, cn_iaload, cn_laload, cn_rr1, cn_rr0, cn_aaload, cn_iastore, cn_lastore, cn_aastore, cn_getfield, cn_gf0, cn_gf1, cn_gf2, cn_gf3, cn_putfield, cn_pf0f, cn_pf1f, cn_pf2f, cn_pf3f, cn_pf0t, cn_pf1t, cn_pf2t, cn_pf3t, cn_new, cn_nw1, cn_newi, cn_newl, cn_anew, cn_an1, cn_inv_v, cn_inv_s, cn_inv_p, cn_ca1, cn_cb1, cn_pop0, cn_pops, cn_rk0, cn_rk1, cn_kcn, cn_kcs, cn_ireturn, cn_lreturn, cn_areturn, cn_return, cn_re0, cn_re1, cn_re2, cn_re3, cn_re4, cn_re5, cn_wp0, cn_wps, cn_m0, cn_m1, cn_e0, cn_en, cn_ei, cn_er, cn_eu, cn_el, cn_nl0, cn_nls, cn_nb0, cn_nb1, cn_nb2, cn_nb3, cn_bd0, cn_bds, cn_cwi, cn_cwr, cn_cwl, cn_cwn, cn_wi2, cn_wl1, cn_wl3, cn_wr1, cn_wr2, cn_wi_eq, cn_wl_eq, cb_0, cb_n0, cb_b, cm_okb0, cm_okb1, Classical.not_not, true_and, and_true, Nat.reduceAdd, Nat.reduceSub, Nat.reduceLT, Nat.reduceLeDiff, Int.reduceToNat, Int.reduceNatCast', Nat.zero_le, Nat.reduceEqDiff, false_or, or_false, or_true, true_or, Int.reduceNeg, reduceCtorEq, false_implies, implies_true, forall_const, true_implies, not_true_eq_false, not_false_eq_true, Nat.le_refl, ne_eq, if_true, if_false, ite_true, ite_false, List.cons_append, List.nil_append]
            have F2 : Fr M1 (cm_wi (cm_wi M1 (x + 138) 2 (tb tn)) (x + 138) 2 (w3 0)) (x + 138) 1 := (Fr.wi (by omega) (by omega)).trans (Fr.wi (by omega) (by omega))
            have tr1 : ∀ u : Nat, tmm u x → TrG T M1 u ∧ trv M1 u = trv M u := by
              intro u hu
              unfold tmm at hu
              have : TrG T M u := by
                rcases hu with rfl | rfl
                · exact hC.2.2.2.2.1.2.2.1.1
                · exact hC.2.2.2.2.1.2.2.1.2
              exact ⟨F1.trq (by omega) this, F1.tvq (by omega) this⟩
            have tr2 : ∀ u : Nat, tmm u x → TrG T (cm_wi (cm_wi M1 (x + 138) 2 (tb tn)) (x + 138) 2 (w3 0)) u ∧ trv (cm_wi (cm_wi M1 (x + 138) 2 (tb tn)) (x + 138) 2 (w3 0)) u = trv M u := by
              intro u hu
              obtain ⟨z1, z2⟩ := tr1 u hu
              unfold tmm at hu
              exact ⟨F2.trq (by omega) z1, (F2.tvq (by omega) z1).trans z2⟩
            obtain ⟨c1, c2, c3⟩ := cs_aside hC ((F1.wide (by omega) (by omega)).trans (F2.wide (by omega) (by omega))) C1.2.2.1.1.tn.tn cn_wi_eq (fun i hi => F2.trq (by omega) (C1.2.2.2.2.2 i hi).2) (tr2 _ (Or.inl rfl)).1 (tr2 _ (Or.inr rfl)).1
            exact hS _ c3 c1 c2 (fun w hw _ => (tr2 w hw).2) (fun X h => by cases h)
          · have e1 := F1.2
            rw [hZ] at hS
            have ktp : T.1 t' = 6 := ht'.1.1
            simp only [jX6_mergeAside, kX6_mergeAside_0, kX6_mergeAside_1, fl_6_21, fl_6_32, fl_6_313, fl_6_154, e1, kg, tb_ok, ktp, p1, p2, p3, q1, q2, ea, ixa, rva, u1a, u2a, u3a, u4a, eb, ixb, rvb, u1b, u2b, u3b, u4b, k0, r0, r1, r2, r3, r4, r5, r6, r7, r8, r13, k1, k2, k137, k305, l1, l2, l137, l305, K0, R1, R2, R3, R4, R5, KK1, K2, K3, K4, K5, L1, L2, L3, L4, L5, w3_00, w3_10, cn_iconst, cn_lconst0, cn_lconst1, cn_null, cn_iload, cn_aload, cn_lload, cn_lo1, cn_loa1, cn_loa2, cn_lol1, cn_get0, cn_gets, cn_put0, cn_puts, cn_istore, cn_astore, cn_astoreN, cn_lstore, cn_iinc, cn_in1, cn_iadd, cn_isub, cn_imul, cn_iand, cn_ior, cn_ixor, cn_ishl, cn_ishr, cn_iushr, cn_idiv, cn_irem, cn_ladd, cn_lmul, cn_ldiv, cn_lrem, cn_i2l, cn_l2i, cn_i2b, cn_lcmp, cn_dupi, cn_dupr, cn_dup2, cn_popi, cn_popr, cn_goto, cn_if_eq, cn_if_ne, cn_if_lt, cn_if_ge, cn_if_gt, cn_if_le, cn_ic_eq, cn_ic_ne, cn_ic_lt, cn_ic_ge, cn_ic_gt, cn_ic_le, cn_ifnullN, cn_ifnullR, cn_ifnonnullN, cn_ifnonnullR, cn_tswS, cn_tsw0, cn_tsw1, cn_lswS, cn_lsw0, cn_lsw1, cn_alen, cn_iaload, cn_laload, cn_rr1, cn_rr0, cn_aaload, cn_iastore, cn_lastore, cn_aastore, cn_getfield, cn_gf0, cn_gf1, cn_gf2, cn_gf3, cn_putfield, cn_pf0f, cn_pf1f, cn_pf2f, cn_pf3f, cn_pf0t, cn_pf1t, cn_pf2t, cn_pf3t, cn_new, cn_nw1, cn_newi, cn_newl, cn_anew, cn_an1, cn_inv_v, cn_inv_s, cn_inv_p, cn_ca1, cn_cb1, cn_pop0, cn_pops, cn_rk0, cn_rk1, cn_kcn, cn_kcs, cn_ireturn, cn_lreturn, cn_areturn, cn_return, cn_re0, cn_re1, cn_re2, cn_re3, cn_re4, cn_re5, cn_wp0, cn_wps, cn_m0, cn_m1, cn_e0, cn_en, cn_ei, cn_er, cn_eu, cn_el, cn_nl0, cn_nls, cn_nb0, cn_nb1, cn_nb2, cn_nb3, cn_bd0, cn_bds, cn_cwi, cn_cwr, cn_cwl, cn_cwn, cn_wi2, cn_wl1, cn_wl3, cn_wr1, cn_wr2, cn_wi_eq, cn_wl_eq, cb_0, cb_n0, cb_b, cm_okb0, cm_okb1, Classical.not_not, true_and, and_true, Nat.reduceAdd, Nat.reduceSub, Nat.reduceLT, Nat.reduceLeDiff, Int.reduceToNat, Int.reduceNatCast', Nat.zero_le, Nat.reduceEqDiff, false_or, or_false, or_true, true_or, Int.reduceNeg, reduceCtorEq, false_implies, implies_true, forall_const, true_implies, not_true_eq_false, not_false_eq_true, Nat.le_refl, ne_eq, if_true, if_false, ite_true, ite_false, List.cons_append, List.nil_append]
            have F2 : Fr M1 (cm_wi M1 (x + 138) 2 (tb tn)) (x + 138) 1 := Fr.wi (by omega) (by omega)
            have l17 : o17 t' (x + 138) := cLo_o17 hlo (by omega) hn16
            have ldj : ∀ u : Nat, tmm u x → dj u t' := by
              intro u hu
              unfold tmm at hu
              unfold dj
              rcases hlo with ⟨w, w1, w2⟩ | w2 <;> omega
            have tr0 : ∀ u : Nat, tmm u x → TrG T M u := by
              intro u hu
              unfold tmm at hu
              rcases hu with rfl | rfl
              · exact hC.2.2.2.2.1.2.2.1.1
              · exact hC.2.2.2.2.1.2.2.1.2
            have tr2 : ∀ u : Nat, tmm u x → TrG T (cm_wi M1 (x + 138) 2 (tb tn)) u ∧ trv (cm_wi M1 (x + 138) 2 (tb tn)) u = trv M u := by
              intro u hu
              have z0 := tr0 u hu
              unfold tmm at hu
              have z1 := F1.trq (by omega) z0
              exact ⟨F2.trq (by omega) z1, (F2.tvq (by omega) z1).trans (F1.tvq (by omega) z0)⟩
            have bk2 : ∀ w : Nat, w < (bkv M (x + 3)).1 → TrG T (cm_wi M1 (x + 138) 2 (tb tn)) (x + 3 + 6 + 8 * w) ∧ trv (cm_wi M1 (x + 138) 2 (tb tn)) (x + 3 + 6 + 8 * w) = ((bkv M (x + 3)).2 w).1 := by
              intro w hw
              have z0 := HT w (by omega)
              have z1 := F1.trq (by omega) z0
              refine ⟨F2.trq (by omega) z1, ((F2.tvq (by omega) z1).trans (F1.tvq (by omega) z0)).trans ?_⟩
              rw [bkv_lt hw]
            have htb : TrG T (cm_wi M1 (x + 138) 2 (tb tn)) t' ∧ trv (cm_wi M1 (x + 138) 2 (tb tn)) t' = Z := by
              have l17' := l17
              unfold o17 at l17'
              exact ⟨F2.trq (by omega) ht', (F2.tvq (by omega) ht').trans hv'⟩
            have vo : ∀ w : Nat, w < (bkv M (x + 3)).1 → o17 (x + 3 + 6 + 8 * w) (x + 138) ∧ ∀ u : Nat, tmm u x → dj u (x + 3 + 6 + 8 * w) := by
              intro w hw
              refine ⟨Or.inl (by omega), fun u hu => ?_⟩
              unfold tmm at hu
              unfold dj
              omega
            refine ⟨tn, C1.2.2.1.1.tn, cn_wi_eq, ⟨(bk2 α hα).1, (bk2 γ hγ).1, htb.1, (tr2 t htm).1⟩, ⟨(vo α hα).1, (vo γ hγ).1, l17, Or.inr (by omega)⟩, ⟨Or.inr ((vo α hα).2 t htm), (vo γ hγ).2 t htm, ldj t htm⟩, ⟨TvG.balT (by rw [(bk2 α hα).2]; exact gta), TvG.balT (by rw [(bk2 γ hγ).2]; exact gtb), TvG.balT (by rw [htb.2]; exact hg')⟩, fun M3 F3 b3 G3 w3t r3 => ?_⟩
            rw [(bk2 α hα).2, (bk2 γ hγ).2, htb.2] at r3 ⊢
            have e3 : M3.2 = M.2 := F3.2.trans e1
            simp only [jX6_mergeAside, kX6_mergeAside_0, kX6_mergeAside_1, fl_6_21, fl_6_32, fl_6_313, fl_6_154, e3, kg, tb_ok, ktp, p1, p2, p3, q1, q2, ea, ixa, rva, u1a, u2a, u3a, u4a, eb, ixb, rvb, u1b, u2b, u3b, u4b, k0, r0, r1, r2, r3, r4, r5, r6, r7, r8, r13, k1, k2, k137, k305, l1, l2, l137, l305, K0, R1, R2, R3, R4, R5, KK1, K2, K3, K4, K5, L1, L2, L3, L4, L5, w3_00, w3_10, cn_iconst, cn_lconst0, cn_lconst1, cn_null, cn_iload, cn_aload, cn_lload, cn_lo1, cn_loa1, cn_loa2, cn_lol1, cn_get0, cn_gets, cn_put0, cn_puts, cn_istore, cn_astore, cn_astoreN, cn_lstore, cn_iinc, cn_in1, cn_iadd, cn_isub, cn_imul, cn_iand, cn_ior, cn_ixor, cn_ishl, cn_ishr, cn_iushr, cn_idiv, cn_irem, cn_ladd, cn_lmul, cn_ldiv, cn_lrem, cn_i2l, cn_l2i, cn_i2b, cn_lcmp, cn_dupi, cn_dupr, cn_dup2, cn_popi, cn_popr, cn_goto, cn_if_eq, cn_if_ne, cn_if_lt, cn_if_ge, cn_if_gt, cn_if_le, cn_ic_eq, cn_ic_ne, cn_ic_lt, cn_ic_ge, cn_ic_gt, cn_ic_le, cn_ifnullN, cn_ifnullR, cn_ifnonnullN, cn_ifnonnullR, cn_tswS, cn_tsw0, cn_tsw1, cn_lswS, cn_lsw0, cn_lsw1, cn_alen, cn_iaload, cn_laload, cn_rr1, cn_rr0, cn_aaload, cn_iastore, cn_lastore, cn_aastore, cn_getfield, cn_gf0, cn_gf1, cn_gf2, cn_gf3, cn_putfield, cn_pf0f, cn_pf1f, cn_pf2f, cn_pf3f, cn_pf0t, cn_pf1t, cn_pf2t, cn_pf3t, cn_new, cn_nw1, cn_newi, cn_newl, cn_anew, cn_an1, cn_inv_v, cn_inv_s, cn_inv_p, cn_ca1, cn_cb1, cn_pop0, cn_pops, cn_rk0, cn_rk1, cn_kcn, cn_kcs, cn_ireturn, cn_lreturn, cn_areturn, cn_return, cn_re0, cn_re1, cn_re2, cn_re3, cn_re4, cn_re5, cn_wp0, cn_wps, cn_m0, cn_m1, cn_e0, cn_en, cn_ei, cn_er, cn_eu, cn_el, cn_nl0, cn_nls, cn_nb0, cn_nb1, cn_nb2, cn_nb3, cn_bd0, cn_bds, cn_cwi, cn_cwr, cn_cwl, cn_cwn, cn_wi2, cn_wl1, cn_wl3, cn_wr1, cn_wr2, cn_wi_eq, cn_wl_eq, cb_0, cb_n0, cb_b, cm_okb0, cm_okb1, Classical.not_not, true_and, and_true, Nat.reduceAdd, Nat.reduceSub, Nat.reduceLT, Nat.reduceLeDiff, Int.reduceToNat, Int.reduceNatCast', Nat.zero_le, Nat.reduceEqDiff, false_or, or_false, or_true, true_or, Int.reduceNeg, reduceCtorEq, false_implies, implies_true, forall_const, true_implies, not_true_eq_false, not_false_eq_true, Nat.le_refl, ne_eq, if_true, if_false, ite_true, ite_false, List.cons_append, List.nil_append]
            have F4 : Fr M3 (cm_wi M3 (x + 138) 2 (w3 0)) (x + 138) 1 := Fr.wi (by omega) (by omega)
            have F3' : Fr (cm_wi M1 (x + 138) 2 (tb tn)) M3 (x + 138) 161 := ⟨fun q hq => F3.1 q (by omega) (by omega), F3.2⟩
            have FF : Fr M (cm_wi M3 (x + 138) 2 (w3 0)) (x + 138) 161 := (((F1.wide (by omega) (by omega)).trans (F2.wide (by omega) (by omega))).trans F3').trans (F4.wide (by omega) (by omega))
            have tr4 : ∀ u : Nat, tmm u x → TrG T (cm_wi M3 (x + 138) 2 (w3 0)) u ∧ (u ≠ t → trv (cm_wi M3 (x + 138) 2 (w3 0)) u = trv M u) := by
              intro u hu
              obtain ⟨z1, z2⟩ := tr2 u hu
              by_cases q : u = t
              · rw [q]
                exact ⟨F4.trq (by omega) w3t, fun h => absurd rfl h⟩
              · unfold tmm at hu
                have d1 : dj t u := by unfold dj; omega
                have z3 := F3.trq z1 (Or.inr (by omega)) d1
                exact ⟨F4.trq (by omega) z3, fun _ => (F4.tvq (by omega) z3).trans ((F3.tvq z1 (Or.inr (by omega)) d1).trans z2)⟩
            have lv4 : ∀ i : Nat, i < 16 → TrG T (cm_wi M3 (x + 138) 2 (w3 0)) (x + 155 + 8 * i) := by
              intro i hi
              have z1 : TrG T M1 (x + 155 + 8 * i) := (C1.2.2.2.2.2 i hi).2
              have z2 := F2.trq (by omega) z1
              have d1 : dj t (x + 155 + 8 * i) := by unfold dj; omega
              exact F4.trq (by omega) (F3.trq z2 (Or.inr (by omega)) d1)
            have tw4 : trv (cm_wi M3 (x + 138) 2 (w3 0)) t = trv M3 t := F4.tvq (by omega) w3t
            obtain ⟨c1, c2, c3⟩ := cs_aside hC FF G3.tn cn_wi_eq lv4 (tr4 _ (Or.inl rfl)).1 (tr4 _ (Or.inr rfl)).1
            have hS1 := hS _ c3 c1 c2 (fun w hw hwt => (tr4 w hw).2 hwt)
            simp only [ea, eb, ena, enb] at hS1
            refine ⟨fun hm => ?_, fun hm => ?_⟩
            · have hm2 : mgT tn ((bkv M (x + 3)).2 α).1 ((bkv M (x + 3)).2 γ).1 Z = none := hm
              rw [hm2] at hS1
              exact hS1 (fun Y hY => by cases hY)
            · cases hX : mgT tn ((bkv M (x + 3)).2 α).1 ((bkv M (x + 3)).2 γ).1 Z with
              | none => exact absurd hX hm
              | some X =>
                rw [hX] at hS1
                exact hS1 (fun Y hY => by cases hY; exact ⟨tw4.trans (r3 _ hX), mgT_g gta gtb hg' hX⟩)
    · have pf := eq_false hP
      rw [mgA_n (fun w => hP ⟨w.1, w.2.1, by have := w.2.2; rw [← hne] at this; exact this⟩)] at hS0
      refine cm_go hX6_mergeAside 200 oX6_mergeAside (eX6_mergeAside d hd) lX6_mergeAside_0 ?_
      simp only [jX6_mergeAside, kX6_mergeAside_0, kX6_mergeAside_1, fl_6_21, fl_6_32, fl_6_313, fl_6_154, SX6_isPair, SX0_isAncestor, hs, w3_self, hn, hB, pf, k0, r0, r1, r2, r3, r4, r5, r6, r7, r8, r13, k1, k2, k137, k305, l1, l2, l137, l305, K0, R1, R2, R3, R4, R5, KK1, K2, K3, K4, K5, L1, L2, L3, L4, L5, w3_00, w3_10, cn_iconst, cn_lconst0, cn_lconst1, cn_null, cn_iload, cn_aload, cn_lload, cn_lo1, cn_loa1, cn_loa2, cn_lol1, cn_get0, cn_gets, cn_put0, cn_puts, cn_istore, cn_astore, cn_astoreN, cn_lstore, cn_iinc, cn_in1, cn_iadd, cn_isub, cn_imul, cn_iand, cn_ior, cn_ixor, cn_ishl, cn_ishr, cn_iushr, cn_idiv, cn_irem, cn_ladd, cn_lmul, cn_ldiv, cn_lrem, cn_i2l, cn_l2i, cn_i2b, cn_lcmp, cn_dupi, cn_dupr, cn_dup2, cn_popi, cn_popr, cn_goto, cn_if_eq, cn_if_ne, cn_if_lt, cn_if_ge, cn_if_gt, cn_if_le, cn_ic_eq, cn_ic_ne, cn_ic_lt, cn_ic_ge, cn_ic_gt, cn_ic_le, cn_ifnullN, cn_ifnullR, cn_ifnonnullN, cn_ifnonnullR, cn_tswS, cn_tsw0, cn_tsw1, cn_lswS, cn_lsw0, cn_lsw1, cn_alen, cn_iaload, cn_laload, cn_rr1, cn_rr0, cn_aaload, cn_iastore, cn_lastore, cn_aastore, cn_getfield, cn_gf0, cn_gf1, cn_gf2, cn_gf3, cn_putfield, cn_pf0f, cn_pf1f, cn_pf2f, cn_pf3f, cn_pf0t, cn_pf1t, cn_pf2t, cn_pf3t, cn_new, cn_nw1, cn_newi, cn_newl, cn_anew, cn_an1, cn_inv_v, cn_inv_s, cn_inv_p, cn_ca1, cn_cb1, cn_pop0, cn_pops, cn_rk0, cn_rk1, cn_kcn, cn_kcs, cn_ireturn, cn_lreturn, cn_areturn, cn_return, cn_re0, cn_re1, cn_re2, cn_re3, cn_re4, cn_re5, cn_wp0, cn_wps, cn_m0, cn_m1, cn_e0, cn_en, cn_ei, cn_er, cn_eu, cn_el, cn_nl0, cn_nls, cn_nb0, cn_nb1, cn_nb2, cn_nb3, cn_bd0, cn_bds, cn_cwi, cn_cwr, cn_cwl, cn_cwn, cn_wi2, cn_wl1, cn_wl3, cn_wr1, cn_wr2, cn_wi_eq, cn_wl_eq, cb_0, cb_n0, cb_b, cm_okb0, cm_okb1, Classical.not_not, true_and, and_true, Nat.reduceAdd, Nat.reduceSub, Nat.reduceLT, Nat.reduceLeDiff, Int.reduceToNat, Int.reduceNatCast', Nat.zero_le, Nat.reduceEqDiff, false_or, or_false, or_true, true_or, Int.reduceNeg, reduceCtorEq, false_implies, implies_true, forall_const, true_implies, not_true_eq_false, not_false_eq_true, Nat.le_refl, ne_eq, if_true, if_false, ite_true, ite_false, List.cons_append, List.nil_append]
      exact hS0 (fun X h => by cases h)

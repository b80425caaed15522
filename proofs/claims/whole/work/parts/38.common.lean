/-- the common of the nearest below v: none: too long; else what it has come to, and the last of them -/
noncomputable def cmL (B : Bk) (re : Int → Int → Option Tv) (nea : Int32) : Nat → Option (Option Tv × Int)
  | 0 => some (none, -9)
  | v + 1 => match cmL B re nea v with
    | none => none
    | some (c, la) => if nea >>> (w3 (v : Int) &&& 31) &&& w3 1 = 0 then some (c, la) else match c with
      | none => some (some (B.2 v).1, (v : Int))
      | some t => match re la (v : Int) with
        | none => none
        | some b => match mgT false t (B.2 v).1 b with
          | none => none
          | some X => some (some X, (v : Int))
noncomputable def cmn (B : Bk) : Nat → Int → Int → Option Tv
  | 0, _, _ => none
  | k + 1, a, b => match cmL B (cmn B k) (nrB B a b) 16 with
    | some (some X, _) => some X
    | _ => none
/-- a book and a merger behind it -/
def COM (T : cm_T) (M : cm_M) (β g : Nat) : Prop := β + 134 ≤ g ∧ BkG T M β ∧ (MgG T M g ∧ M.1 g 2 = tb false) ∧ (T.1 (g + 3) = 27 ∧ T.2.1 (g + 3) = 16 ∧ ∀ i : Nat, i < 16 → M.2.2 (g + 3) (i : Int) = some (g + 17 + 8 * i) ∧ TrG T M (g + 17 + 8 * i))
/-- where a common may lie -/
def cLo (β g n e t : Nat) : Prop := (∃ v, v < n ∧ t = β + 6 + 8 * v) ∨ t = g + 17 + 8 * e
def SC (k : Nat) : cm_CT := fun as T M Φ => match as with
  | [.ref β, .ref g, .int a, .int b, .int e] => k ≤ 16 ∧ COM T M β g ∧ e = w3 (16 - (k : Int)) ∧ (∀ M1, Fr M M1 g 145 → COM T M1 β g → (∀ i : Nat, i < 16 - k → trv M1 (g + 17 + 8 * i) = trv M (g + 17 + 8 * i)) → (cmn (bkv M β) k a.toInt b.toInt = none → Φ (some .null) T M1) ∧ (∀ X t, cmn (bkv M β) k a.toInt b.toInt = some X → trv M1 t = X → TrG T M1 t → TvG X → k ≠ 0 → cLo β g (bkv M β).1 (16 - k) t → Φ (some (.ref t)) T M1))
  | _ => False
def SF0 : cm_CT := fun _ _ _ _ => False
def JC (S : cm_CT) : cm_J := (6, false, 4, [(167, 3, 1, 0, 0, SX0_nearestOf), (317, 5, 4, 0, 0, SX3_mergeTrees)], [(188, 5, 0, 0, 0, S)], [])
theorem jC {S : cm_CT} : (JC S).1 = 6 ∧ (JC S).2.1 = false ∧ (JC S).2.2.1 = 4 ∧ cm_gv (JC S) 167 = some (3, 1, 0, 0, SX0_nearestOf) ∧ cm_gv (JC S) 317 = some (5, 4, 0, 0, SX3_mergeTrees) ∧ cm_gs (JC S) 188 = some (5, 0, 0, 0, S) := ⟨rfl, rfl, rfl, rfl, rfl, rfl⟩
theorem eC {S : cm_CT} (d : Nat) (hd : 5 ≤ d) (hM : cm_Met (d - 1) yX6_commonOf cX6_commonOf 10 (some (.object "CrissMerger$Tree")) 0 0 S) : cm_Cok d (JC S) := ⟨(List.forall_mem_cons.mpr ⟨q6_167 (mX0_nearestOf (d - 1) (by omega)) (by omega), (List.forall_mem_cons.mpr ⟨q6_317 (mX3_mergeTrees (d - 1) (by omega)) (by omega), (fun q h => by cases h)⟩)⟩), (List.forall_mem_cons.mpr ⟨q6_188 hM (by omega), (fun q h => by cases h)⟩), (fun q h => by cases h)⟩
theorem mSF0 (d : Nat) : cm_Met d yX6_commonOf cX6_commonOf 10 (some (.object "CrissMerger$Tree")) 0 0 SF0 := cm_meets (J := JC SF0) (by decide) rfl (fun h => by cases h) trivial (fun as T M Φ h => absurd h (fun q => q))
theorem cmL_0 {B : Bk} {re : Int → Int → Option Tv} {nea : Int32} {v : Nat} {c : Option Tv} {la : Int} (h : cmL B re nea v = some (c, la)) (hb : nea >>> (w3 (v : Int) &&& 31) &&& w3 1 = 0) : cmL B re nea (v + 1) = some (c, la) := by
  unfold cmL
  rw [h]
  exact if_pos hb
theorem cmL_1 {B : Bk} {re : Int → Int → Option Tv} {nea : Int32} {v : Nat} {la : Int} (h : cmL B re nea v = some (none, la)) (hb : ¬ nea >>> (w3 (v : Int) &&& 31) &&& w3 1 = 0) : cmL B re nea (v + 1) = some (some (B.2 v).1, (v : Int)) := by
  unfold cmL
  rw [h]
  exact if_neg hb
theorem cmL_2 {B : Bk} {re : Int → Int → Option Tv} {nea : Int32} {v : Nat} {la : Int} {t : Tv} (h : cmL B re nea v = some (some t, la)) (hb : ¬ nea >>> (w3 (v : Int) &&& 31) &&& w3 1 = 0) : cmL B re nea (v + 1) = (match re la (v : Int) with
        | none => none
        | some b => match mgT false t (B.2 v).1 b with
          | none => none
          | some X => some (some X, (v : Int))) := by
  conv => lhs; unfold cmL
  rw [h]
  exact if_neg hb
theorem cmL_n {B : Bk} {re : Int → Int → Option Tv} {nea : Int32} {v : Nat} (h : cmL B re nea v = none) : ∀ j, cmL B re nea (v + j) = none
  | 0 => h
  | j + 1 => by
    have := cmL_n h j
    show cmL B re nea (v + j + 1) = none
    unfold cmL
    rw [this]
theorem COM.lvl {T : cm_T} {M M1 : cm_M} {β g e : Nat} (h : COM T M β g) (he : e < 16) (hF : FrW M M1 g (g + 17 + 8 * e)) (hG : MgG T M1 g) (ht : M1.1 g 2 = tb false) (hw : TrG T M1 (g + 17 + 8 * e)) : COM T M1 β g ∧ Fr M M1 g 145 ∧ ∀ i : Nat, i < 16 → i ≠ e → trv M1 (g + 17 + 8 * i) = trv M (g + 17 + 8 * i) := by
  have F : Fr M M1 g 145 := ⟨fun q hq => hF.1 q (by omega) (by omega), hF.2⟩
  obtain ⟨h1, h2, h3, h4, h5, h6⟩ := h
  refine ⟨⟨h1, (F.bkq (by omega) h2).1, ⟨hG, ht⟩, h4, h5, fun i hi => ⟨by rw [hF.2]; exact (h6 i hi).1, ?_⟩⟩, F, fun i hi hne => ?_⟩
  · by_cases q : i = e
    · rw [q]; exact hw
    · exact hF.trq (h6 i hi).2 (Or.inr (by omega)) (by unfold dj; omega)
  · exact hF.tvq (h6 i hi).2 (Or.inr (by omega)) (by unfold dj; omega)
theorem cLo_o17 {β g n e t : Nat} (h : cLo β g n e t) (hb : β + 134 ≤ g) (hn : n ≤ 16) : o17 t g := by
  rcases h with ⟨v, a, b⟩ | b
  · exact Or.inl (by omega)
  · exact Or.inr (by omega)
theorem cLo_dj {β g n e t i : Nat} (h : cLo β g n e t) (hb : β + 134 ≤ g) (hn : n ≤ 16) (hi : i ≠ e) : dj (g + 17 + 8 * i) t := by
  unfold dj
  rcases h with ⟨v, a, b⟩ | b <;> omega
theorem cLo_wor {β g n e t : Nat} (h : cLo β g n e t) (hb : β + 134 ≤ g) (hn : n ≤ 16) : wor (g + 17 + 8 * e) t := by
  rcases h with ⟨v, a, b⟩ | b
  · exact Or.inr (by unfold dj; omega)
  · exact Or.inl b.symm
theorem COM.fr {T : cm_T} {M M1 : cm_M} {β g : Nat} (h : COM T M β g) (hF : Fr M M1 g 145) : BkG T M1 β ∧ bkv M1 β = bkv M β := hF.bkq (by have := h.1; omega) h.2.1
set_option maxHeartbeats 8000000 in
theorem lC (k d : Nat) (hk : k + 1 ≤ 16) {S : cm_CT} (hE : cm_Cok d (JC S)) (hSk : S = SC k) {T : cm_T} {M : cm_M} {Φ : Option Value → cm_T → cm_M → Prop} {β g : Nat} {a b nea : Int32} (hC : COM T M β g) (hne : ∀ v : Nat, (bkv M β).1 ≤ v → v < 16 → nea >>> (w3 (v : Int) &&& 31) &&& w3 1 = 0)
    (hS : ∀ M1, Fr M M1 g 145 → COM T M1 β g → (∀ i : Nat, i < 16 - (k + 1) → trv M1 (g + 17 + 8 * i) = trv M (g + 17 + 8 * i)) → ((∀ c la, cmL (bkv M β) (cmn (bkv M β) k) nea 16 = some (some c, la) → ∀ t, trv M1 t = c → TrG T M1 t → TvG c → cLo β g (bkv M β).1 (16 - (k + 1)) t → Φ (some (.ref t)) T M1) ∧ ((∀ c la, cmL (bkv M β) (cmn (bkv M β) k) nea 16 ≠ some (some c, la)) → Φ (some .null) T M1))) :
    ∀ (n v : Nat) (M1 : cm_M) (la : Int32) (V : Value) (o9 : Option Value) (c : Option Tv), n + v = 16 → Fr M M1 g 145 → COM T M1 β g → (∀ i : Nat, i < 16 - (k + 1) → trv M1 (g + 17 + 8 * i) = trv M (g + 17 + 8 * i)) → cmL (bkv M β) (cmn (bkv M β) k) nea v = some (c, la.toInt) → (c = none → V = .null) → (∀ X, c = some X → ∃ t, V = .ref t ∧ trv M1 t = X ∧ TrG T M1 t ∧ TvG X ∧ cLo β g (bkv M β).1 (16 - (k + 1)) t) → cm_Go d cX6_commonOf 10 0 0 (JC S) Φ 32 [some (.ref β), some (.ref g), some (.int a), some (.int b), some (.int (w3 (16 - ((k + 1 : Nat) : Int)))), some (.int nea), some V, some (.int la), some (.int (w3 v)), o9] [] (0, 0) T M1 := by
  subst hSk
  intro n
  induction n with
  | zero =>
    intro v M1 la V o9 c hv hF hC1 hlv hcm hc1 hc2
    have hv16 : v = 16 := by omega
    subst hv16
    obtain ⟨s1, s2⟩ := hS M1 hF hC1 hlv
    cases c with
    | none =>
      have hV := hc1 rfl
      subst hV
      refine cm_go hX6_commonOf 300 oX6_commonOf hE lX6_commonOf_32 ?_
      simp only [jC, kX6_commonOf_0, kX6_commonOf_1, fl_6_154, fl_6_321, cn_iconst, cn_lconst0, cn_lconst1, cn_null, cn_iload, cn_aload, cn_lload, cn_lo1, cn_loa1, cn_loa2, cn_lol1, cn_get0, cn_gets, cn_put0, cn_puts, cn_istore, cn_astore, cn_astoreN, cn_lstore, cn_iinc, cn_in1, cn_iadd, cn_isub, cn_imul, cn_iand, cn_ior, cn_ixor, cn_ishl, cn_ishr, cn_iushr, cn_idiv, cn_irem, cn_ladd, cn_lmul, cn_ldiv, cn_lrem, cn_i2l, cn_l2i, cn_i2b, cn_lcmp, cn_dupi, cn_dupr, cn_dup2, cn_popi, cn_popr, cn_goto, cn_if_eq, cn_if_ne, cn_if_lt, cn_if_ge, cn_if_gt, cn_if_le, cn_ic_eq, cn_ic_ne, cn_ic_lt, cn_ic_ge, cn_ic_gt, cn_ic_le, cn_ifnullN, cn_ifnullR, cn_ifnonnullN, cn_ifnonnullR, cn_tswS, cn_tsw0, cn_tsw1, cn_lswS, cn_lsw0, cn_lsw1, cn_alen, cn_iaload, cn_laload, cn_rr1, cn_rr0, cn_aaload, cn_iastore, cn_lastore, cn_aastore, cn_getfield, cn_gf0, cn_gf1, cn_gf2, cn_gf3, cn_putfield, cn_pf0f, cn_pf1f, cn_pf2f, cn_pf3f, cn_pf0t, cn_pf1t, cn_pf2t, cn_pf3t, cn_new, cn_nw1, cn_newi, cn_newl, cn_anew, cn_an1, cn_inv_v, cn_inv_s, cn_inv_p, cn_ca1, cn_cb1, cn_pop0, cn_pops, cn_rk0, cn_rk1, cn_kcn, cn_kcs, cn_ireturn, cn_lreturn, cn_areturn, cn_return, cn_re0, cn_re1, cn_re2, cn_re3, cn_re4, cn_re5, cn_wp0, cn_wps, cn_m0, cn_m1, cn_e0, cn_en, cn_ei, cn_er, cn_eu, cn_el, cn_nl0, cn_nls, cn_nb0, cn_nb1, cn_nb2, cn_nb3, cn_bd0, cn_bds, cn_cwi, cn_cwr, cn_cwl, cn_cwn, cn_wi2, cn_wl1, cn_wl3, cn_wr1, cn_wr2, cn_wi_eq, cn_wl_eq, cb_0, cb_n0, cb_b, cm_okb0, cm_okb1, Classical.not_not, true_and, and_true, Nat.reduceAdd, Nat.reduceSub, Nat.reduceLT, Nat.reduceLeDiff, Int.reduceToNat, Int.reduceNatCast', Nat.zero_le, Nat.reduceEqDiff, false_or, or_false, or_true, true_or, Int.reduceNeg, reduceCtorEq, false_implies, implies_true, forall_const, true_implies, not_true_eq_false, not_false_eq_true, Nat.le_refl, ne_eq, if_true, if_false, ite_true, ite_false, List.cons_append, List.nil_append]
      simp (disch := omega) only [w3_le, w3_lt, w3_eq, w3_ix, w3_add, w3_sub, w3_mul, w3_toInt, w3_z, Int.reduceEq, Int.reduceLT, Int.reduceLE, Int.reduceAdd, Int.reduceSub, Int.reduceMul, Int.le_refl, Int.lt_irrefl, not_true_eq_false, not_false_eq_true, true_implies, false_implies, implies_true, and_true, true_and, and_self, ne_eq, Classical.not_not]
      refine s2 (fun c la h => ?_)
      have h2 := hcm.symm.trans h
      cases h2
    | some X =>
      obtain ⟨t, hV, t1, t2, t3, t4⟩ := hc2 X rfl
      subst hV
      refine cm_go hX6_commonOf 300 oX6_commonOf hE lX6_commonOf_32 ?_
      simp only [jC, kX6_commonOf_0, kX6_commonOf_1, fl_6_154, fl_6_321, cn_iconst, cn_lconst0, cn_lconst1, cn_null, cn_iload, cn_aload, cn_lload, cn_lo1, cn_loa1, cn_loa2, cn_lol1, cn_get0, cn_gets, cn_put0, cn_puts, cn_istore, cn_astore, cn_astoreN, cn_lstore, cn_iinc, cn_in1, cn_iadd, cn_isub, cn_imul, cn_iand, cn_ior, cn_ixor, cn_ishl, cn_ishr, cn_iushr, cn_idiv, cn_irem, cn_ladd, cn_lmul, cn_ldiv, cn_lrem, cn_i2l, cn_l2i, cn_i2b, cn_lcmp, cn_dupi, cn_dupr, cn_dup2, cn_popi, cn_popr, cn_goto, cn_if_eq, cn_if_ne, cn_if_lt, cn_if_ge, cn_if_gt, cn_if_le, cn_ic_eq, cn_ic_ne, cn_ic_lt, cn_ic_ge, cn_ic_gt, cn_ic_le, cn_ifnullN, cn_ifnullR, cn_ifnonnullN, cn_ifnonnullR, cn_tswS, cn_tsw0, cn_tsw1, cn_lswS, cn_lsw0, cn_lsw1, cn_alen, cn_iaload, cn_laload, cn_rr1, cn_rr0, cn_aaload, cn_iastore, cn_lastore, cn_aastore, cn_getfield, cn_gf0, cn_gf1, cn_gf2, cn_gf3, cn_putfield, cn_pf0f, cn_pf1f, cn_pf2f, cn_pf3f, cn_pf0t, cn_pf1t, cn_pf2t, cn_pf3t, cn_new, cn_nw1, cn_newi, cn_newl, cn_anew, cn_an1, cn_inv_v, cn_inv_s, cn_inv_p, cn_ca1, cn_cb1, cn_pop0, cn_pops, cn_rk0, cn_rk1, cn_kcn, cn_kcs, cn_ireturn, cn_lreturn, cn_areturn, cn_return, cn_re0, cn_re1, cn_re2, cn_re3, cn_re4, cn_re5, cn_wp0, cn_wps, cn_m0, cn_m1, cn_e0, cn_en, cn_ei, cn_er, cn_eu, cn_el, cn_nl0, cn_nls, cn_nb0, cn_nb1, cn_nb2, cn_nb3, cn_bd0, cn_bds, cn_cwi, cn_cwr, cn_cwl, cn_cwn, cn_wi2, cn_wl1, cn_wl3, cn_wr1, cn_wr2, cn_wi_eq, cn_wl_eq, cb_0, cb_n0, cb_b, cm_okb0, cm_okb1, Classical.not_not, true_and, and_true, Nat.reduceAdd, Nat.reduceSub, Nat.reduceLT, Nat.reduceLeDiff, Int.reduceToNat, Int.reduceNatCast', Nat.zero_le, Nat.reduceEqDiff, false_or, or_false, or_true, true_or, Int.reduceNeg, reduceCtorEq, false_implies, implies_true, forall_const, true_implies, not_true_eq_false, not_false_eq_true, Nat.le_refl, ne_eq, if_true, if_false, ite_true, ite_false, List.cons_append, List.nil_append]
      simp (disch := omega) only [w3_le, w3_lt, w3_eq, w3_ix, w3_add, w3_sub, w3_mul, w3_toInt, w3_z, Int.reduceEq, Int.reduceLT, Int.reduceLE, Int.reduceAdd, Int.reduceSub, Int.reduceMul, Int.le_refl, Int.lt_irrefl, not_true_eq_false, not_false_eq_true, true_implies, false_implies, implies_true, and_true, true_and, and_self, ne_eq, Classical.not_not]
      exact s1 X _ hcm t t1 t2 t3 t4
  | succ n ih =>
    intro v M1 la V o9 c hv hF hC1 hlv hcm hc1 hc2
    have v16 : v < 16 := by omega
    obtain ⟨hbg, hB1, ⟨hG1, htn1⟩, ⟨y1, y2, y3⟩⟩ := id hC1
    obtain ⟨⟨K0, ⟨R1, R2, R3, R4, R5⟩, ⟨KK1, K2, K3, K4, K5⟩, ⟨L1, L2, L3, L4, L5⟩, RV⟩, HZ, HT, HW, HA⟩ := id hB1
    have eb : bkv M1 β = bkv M β := (hC.fr hF).2
    have rvv := RV v v16
    have kt := (HT v v16).1.1
    have ev : (w3 (v : Int)).toInt = (v : Int) := w3_toInt (by omega) (by omega)
    have ixv : cm_ix (w3 (v : Int)) 16 := by rw [w3_ix (by omega) (by omega)]; exact ⟨by omega, by omega⟩
    have ee : (w3 (16 - ((k + 1 : Nat) : Int))).toInt = ((16 - (k + 1) : Nat) : Int) := by rw [w3_toInt (by omega) (by omega)]; omega
    have ixe : cm_ix (w3 (16 - ((k + 1 : Nat) : Int))) 16 := by rw [w3_ix (by omega) (by omega)]; exact ⟨by omega, by omega⟩
    have gk := hG1.1.1
    have g1 := hG1.1.2.1.2.1
    have lvv := (y3 (16 - (k + 1)) (by omega)).1
    have klv := (y3 (16 - (k + 1)) (by omega)).2.1.1
    have tvv : ∀ h : ¬ nea >>> (w3 (v : Int) &&& 31) &&& w3 1 = 0, v < (bkv M β).1 ∧ ((bkv M β).2 v).1 = trv M1 (β + 6 + 8 * v) ∧ TvG (trv M1 (β + 6 + 8 * v)) := by
      intro h
      have hvn : v < (bkv M β).1 := Nat.lt_of_not_le (fun q => h (hne v q v16))
      have e : ((bkv M β).2 v).1 = trv M1 (β + 6 + 8 * v) := by rw [← eb, bkv_lt (by rw [eb]; exact hvn)]
      refine ⟨hvn, e, ?_⟩
      rw [← e, ← eb]
      exact (HW.2.1 v (by rw [eb]; exact hvn)).1
    cases c with
    | none =>
      have hV := hc1 rfl
      subst hV
      refine cm_go hX6_commonOf 300 oX6_commonOf hE lX6_commonOf_32 ?_
      simp only [jC, kX6_commonOf_0, kX6_commonOf_1, fl_6_154, fl_6_321, K0, KK1, L1, R1, ev, ixv, rvv, kt, cn_iconst, cn_lconst0, cn_lconst1, cn_null, cn_iload, cn_aload, cn_lload, cn_lo1, cn_loa1, cn_loa2, cn_lol1, cn_get0, cn_gets, cn_put0, cn_puts, cn_istore, cn_astore, cn_astoreN, cn_lstore, cn_iinc, cn_in1, cn_iadd, cn_isub, cn_imul, cn_iand, cn_ior, cn_ixor, cn_ishl, cn_ishr, cn_iushr, cn_idiv, cn_irem, cn_ladd, cn_lmul, cn_ldiv, cn_lrem, cn_i2l, cn_l2i, cn_i2b, cn_lcmp, cn_dupi, cn_dupr, cn_dup2, cn_popi, cn_popr, cn_goto, cn_if_eq, cn_if_ne, cn_if_lt, cn_if_ge, cn_if_gt, cn_if_le, cn_ic_eq, cn_ic_ne, cn_ic_lt, cn_ic_ge, cn_ic_gt, cn_ic_le, cn_ifnullN, cn_ifnullR, cn_ifnonnullN, cn_ifnonnullR, cn_tswS, cn_tsw0, cn_tsw1, cn_lswS, cn_lsw0, cn_lsw1, cn_alen, cn_iaload, cn_laload, cn_rr1, cn_rr0, cn_aaload, cn_iastore, cn_lastore, cn_aastore, cn_getfield, cn_gf0, cn_gf1, cn_gf2, cn_gf3, cn_putfield, cn_pf0f, cn_pf1f, cn_pf2f, cn_pf3f, cn_pf0t, cn_pf1t, cn_pf2t, cn_pf3t, cn_new, cn_nw1, cn_newi, cn_newl, cn_anew, cn_an1, cn_inv_v, cn_inv_s, cn_inv_p, cn_ca1, cn_cb1, cn_pop0, cn_pops, cn_rk0, cn_rk1, cn_kcn, cn_kcs, cn_ireturn, cn_lreturn, cn_areturn, cn_return, cn_re0, cn_re1, cn_re2, cn_re3, cn_re4, cn_re5, cn_wp0, cn_wps, cn_m0, cn_m1, cn_e0, cn_en, cn_ei, cn_er, cn_eu, cn_el, cn_nl0, cn_nls, cn_nb0, cn_nb1, cn_nb2, cn_nb3, cn_bd0, cn_bds, cn_cwi, cn_cwr, cn_cwl, cn_cwn, cn_wi2, cn_wl1, cn_wl3, cn_wr1, cn_wr2, cn_wi_eq, cn_wl_eq, cb_0, cb_n0, cb_b, cm_okb0, cm_okb1, Classical.not_not, true_and, and_true, Nat.reduceAdd, Nat.reduceSub, Nat.reduceLT, Nat.reduceLeDiff, Int.reduceToNat, Int.reduceNatCast', Nat.zero_le, Nat.reduceEqDiff, false_or, or_false, or_true, true_or, Int.reduceNeg, reduceCtorEq, false_implies, implies_true, forall_const, true_implies, not_true_eq_false, not_false_eq_true, Nat.le_refl, ne_eq, if_true, if_false, ite_true, ite_false, List.cons_append, List.nil_append]
      simp (disch := omega) only [w3_le, w3_lt, w3_eq, w3_ix, w3_add, w3_sub, w3_mul, w3_toInt, w3_z, Int.reduceEq, Int.reduceLT, Int.reduceLE, Int.reduceAdd, Int.reduceSub, Int.reduceMul, Int.le_refl, Int.lt_irrefl, not_true_eq_false, not_false_eq_true, true_implies, false_implies, implies_true, and_true, true_and, and_self, ne_eq, Classical.not_not]
      refine ⟨fun q => by omega, fun _ => ⟨fun hbit => ?_, fun hbit => ?_⟩⟩
      · obtain ⟨n1, n2, n3⟩ := tvv hbit
        exact ih (v + 1) M1 (w3 (v : Int)) _ o9 (some ((bkv M β).2 v).1) (by omega) hF hC1 hlv (by rw [ev]; exact cmL_1 hcm hbit) (fun h => by cases h) (fun X hX => ⟨β + 6 + 8 * v, rfl, by cases hX; exact n2.symm, HT v v16, by cases hX; rw [n2]; exact n3, Or.inl ⟨v, n1, rfl⟩⟩)
      · exact ih (v + 1) M1 la _ o9 none (by omega) hF hC1 hlv (cmL_0 hcm hbit) (fun _ => rfl) (fun X hX => by cases hX)
    | some X =>
      obtain ⟨t, hV, t1, t2, t3, t4⟩ := hc2 X rfl
      subst hV
      refine cm_go hX6_commonOf 300 oX6_commonOf hE lX6_commonOf_32 ?_
      simp only [jC, kX6_commonOf_0, kX6_commonOf_1, fl_6_154, fl_6_321, K0, KK1, L1, R1, ev, ixv, rvv, kt, cn_iconst, cn_lconst0, cn_lconst1, cn_null, cn_iload, cn_aload, cn_lload, cn_lo1, cn_loa1, cn_loa2, cn_lol1, cn_get0, cn_gets, cn_put0, cn_puts, cn_istore, cn_astore, cn_astoreN, cn_lstore, cn_iinc, cn_in1, cn_iadd, cn_isub, cn_imul, cn_iand, cn_ior, cn_ixor, cn_ishl, cn_ishr, cn_iushr, cn_idiv, cn_irem, cn_ladd, cn_lmul, cn_ldiv, cn_lrem, cn_i2l, cn_l2i, cn_i2b, cn_lcmp, cn_dupi, cn_dupr, cn_dup2, cn_popi, cn_popr, cn_goto, cn_if_eq, cn_if_ne, cn_if_lt, cn_if_ge, cn_if_gt, cn_if_le, cn_ic_eq, cn_ic_ne, cn_ic_lt, cn_ic_ge, cn_ic_gt, cn_ic_le, cn_ifnullN, cn_ifnullR, cn_ifnonnullN, cn_ifnonnullR, cn_tswS, cn_tsw0, cn_tsw1, cn_lswS, cn_lsw0, cn_lsw1, cn_alen, cn_iaload, cn_laload, cn_rr1, cn_rr0, cn_aaload, cn_iastore, cn_lastore, cn_aastore, cn_getfield, cn_gf0, cn_gf1, cn_gf2, cn_gf3, cn_putfield, cn_pf0f, cn_pf1f, cn_pf2f, cn_pf3f, cn_pf0t, cn_pf1t, cn_pf2t, cn_pf3t, cn_new, cn_nw1, cn_newi, cn_newl, cn_anew, cn_an1, cn_inv_v, cn_inv_s, cn_inv_p, cn_ca1, cn_cb1, cn_pop0, cn_pops, cn_rk0, cn_rk1, cn_kcn, cn_kcs, cn_ireturn, cn_lreturn, cn_areturn, cn_return, cn_re0, cn_re1, cn_re2, cn_re3, cn_re4, cn_re5, cn_wp0, cn_wps, cn_m0, cn_m1, cn_e0, cn_en, cn_ei, cn_er, cn_eu, cn_el, cn_nl0, cn_nls, cn_nb0, cn_nb1, cn_nb2, cn_nb3, cn_bd0, cn_bds, cn_cwi, cn_cwr, cn_cwl, cn_cwn, cn_wi2, cn_wl1, cn_wl3, cn_wr1, cn_wr2, cn_wi_eq, cn_wl_eq, cb_0, cb_n0, cb_b, cm_okb0, cm_okb1, Classical.not_not, true_and, and_true, Nat.reduceAdd, Nat.reduceSub, Nat.reduceLT, Nat.reduceLeDiff, Int.reduceToNat, Int.reduceNatCast', Nat.zero_le, Nat.reduceEqDiff, false_or, or_false, or_true, true_or, Int.reduceNeg, reduceCtorEq, false_implies, implies_true, forall_const, true_implies, not_true_eq_false, not_false_eq_true, Nat.le_refl, ne_eq, if_true, if_false, ite_true, ite_false, List.cons_append, List.nil_append]
      simp (disch := omega) only [w3_le, w3_lt, w3_eq, w3_ix, w3_add, w3_sub, w3_mul, w3_toInt, w3_z, Int.reduceEq, Int.reduceLT, Int.reduceLE, Int.reduceAdd, Int.reduceSub, Int.reduceMul, Int.le_refl, Int.lt_irrefl, not_true_eq_false, not_false_eq_true, true_implies, false_implies, implies_true, and_true, true_and, and_self, ne_eq, Classical.not_not]
      refine ⟨fun q => by omega, fun _ => ⟨fun hbit => ?_, fun hbit => ?_⟩⟩
      · obtain ⟨n1, n2, n3⟩ := tvv hbit
        refine ⟨by omega, hC1, by rw [show (16 : Int) - ((k + 1 : Nat) : Int) + 1 = 16 - (k : Int) by omega], fun M2 F2 C2 l2 => ⟨fun hn => ?_, fun Y t' hY hv' ht' hg' k0 hlo => ?_⟩⟩
        · rw [eb, ev] at hn
          have hN : cmL (bkv M β) (cmn (bkv M β) k) nea 16 = none := by
            have := cmL_n (v := v + 1) (by rw [cmL_2 hcm hbit, hn]) (16 - (v + 1))
            rw [show v + 1 + (16 - (v + 1)) = 16 by omega] at this
            exact this
          simp only [jC, kX6_commonOf_0, kX6_commonOf_1, fl_6_154, fl_6_321, K0, KK1, L1, R1, ev, ixv, rvv, kt, ee, ixe, gk, g1, lvv, klv, y1, y2, cn_iconst, cn_lconst0, cn_lconst1, cn_null, cn_iload, cn_aload, cn_lload, cn_lo1, cn_loa1, cn_loa2, cn_lol1, cn_get0, cn_gets, cn_put0, cn_puts, cn_istore, cn_astore, cn_astoreN, cn_lstore, cn_iinc, cn_in1, cn_iadd, cn_isub, cn_imul, cn_iand, cn_ior, cn_ixor, cn_ishl, cn_ishr, cn_iushr, cn_idiv, cn_irem, cn_ladd, cn_lmul, cn_ldiv, cn_lrem, cn_i2l, cn_l2i, cn_i2b, cn_lcmp, cn_dupi, cn_dupr, cn_dup2, cn_popi, cn_popr, cn_goto, cn_if_eq, cn_if_ne, cn_if_lt, cn_if_ge, cn_if_gt, cn_if_le, cn_ic_eq, cn_ic_ne, cn_ic_lt, cn_ic_ge, cn_ic_gt, cn_ic_le, cn_ifnullN, cn_ifnullR, cn_ifnonnullN, cn_ifnonnullR, cn_tswS, cn_tsw0, cn_tsw1, cn_lswS, cn_lsw0, cn_lsw1, cn_alen, cn_iaload, cn_laload, cn_rr1, cn_rr0, cn_aaload, cn_iastore, cn_lastore, cn_aastore, cn_getfield, cn_gf0, cn_gf1, cn_gf2, cn_gf3, cn_putfield, cn_pf0f, cn_pf1f, cn_pf2f, cn_pf3f, cn_pf0t, cn_pf1t, cn_pf2t, cn_pf3t, cn_new, cn_nw1, cn_newi, cn_newl, cn_anew, cn_an1, cn_inv_v, cn_inv_s, cn_inv_p, cn_ca1, cn_cb1, cn_pop0, cn_pops, cn_rk0, cn_rk1, cn_kcn, cn_kcs, cn_ireturn, cn_lreturn, cn_areturn, cn_return, cn_re0, cn_re1, cn_re2, cn_re3, cn_re4, cn_re5, cn_wp0, cn_wps, cn_m0, cn_m1, cn_e0, cn_en, cn_ei, cn_er, cn_eu, cn_el, cn_nl0, cn_nls, cn_nb0, cn_nb1, cn_nb2, cn_nb3, cn_bd0, cn_bds, cn_cwi, cn_cwr, cn_cwl, cn_cwn, cn_wi2, cn_wl1, cn_wl3, cn_wr1, cn_wr2, cn_wi_eq, cn_wl_eq, cb_0, cb_n0, cb_b, cm_okb0, cm_okb1, Classical.not_not, true_and, and_true, Nat.reduceAdd, Nat.reduceSub, Nat.reduceLT, Nat.reduceLeDiff, Int.reduceToNat, Int.reduceNatCast', Nat.zero_le, Nat.reduceEqDiff, false_or, or_false, or_true, true_or, Int.reduceNeg, reduceCtorEq, false_implies, implies_true, forall_const, true_implies, not_true_eq_false, not_false_eq_true, Nat.le_refl, ne_eq, if_true, if_false, ite_true, ite_false, List.cons_append, List.nil_append]
          exact (hS M2 (hF.trans F2) C2 (fun i hi => (l2 i (by omega)).trans (hlv i hi))).2 (fun c la h => by rw [hN] at h; cases h)
        · rw [eb, ev] at hY
          rw [eb] at hlo
          have hn16 := HW.1
          rw [eb] at hn16
          have e2 := F2.2
          have ktp : T.1 t' = 6 := ht'.1.1
          have ktt : T.1 t = 6 := t2.1.1
          simp only [jC, kX6_commonOf_0, kX6_commonOf_1, fl_6_154, fl_6_321, K0, KK1, L1, R1, ev, ixv, rvv, kt, ee, ixe, gk, g1, lvv, klv, y1, y2, e2, ktp, ktt, cn_iconst, cn_lconst0, cn_lconst1, cn_null, cn_iload, cn_aload, cn_lload, cn_lo1, cn_loa1, cn_loa2, cn_lol1, cn_get0, cn_gets, cn_put0, cn_puts, cn_istore, cn_astore, cn_astoreN, cn_lstore, cn_iinc, cn_in1, cn_iadd, cn_isub, cn_imul, cn_iand, cn_ior, cn_ixor, cn_ishl, cn_ishr, cn_iushr, cn_idiv, cn_irem, cn_ladd, cn_lmul, cn_ldiv, cn_lrem, cn_i2l, cn_l2i, cn_i2b, cn_lcmp, cn_dupi, cn_dupr, cn_dup2, cn_popi, cn_popr, cn_goto, cn_if_eq, cn_if_ne, cn_if_lt, cn_if_ge, cn_if_gt, cn_if_le, cn_ic_eq, cn_ic_ne, cn_ic_lt, cn_ic_ge, cn_ic_gt, cn_ic_le, cn_ifnullN, cn_ifnullR, cn_ifnonnullN, cn_ifnonnullR, cn_tswS, cn_tsw0, cn_tsw1, cn_lswS, cn_lsw0, cn_lsw1, cn_alen, cn_iaload, cn_laload, cn_rr1, cn_rr0, cn_aaload, cn_iastore, cn_lastore, cn_aastore, cn_getfield, cn_gf0, cn_gf1, cn_gf2, cn_gf3, cn_putfield, cn_pf0f, cn_pf1f, cn_pf2f, cn_pf3f, cn_pf0t, cn_pf1t, cn_pf2t, cn_pf3t, cn_new, cn_nw1, cn_newi, cn_newl, cn_anew, cn_an1, cn_inv_v, cn_inv_s, cn_inv_p, cn_ca1, cn_cb1, cn_pop0, cn_pops, cn_rk0, cn_rk1, cn_kcn, cn_kcs, cn_ireturn, cn_lreturn, cn_areturn, cn_return, cn_re0, cn_re1, cn_re2, cn_re3, cn_re4, cn_re5, cn_wp0, cn_wps, cn_m0, cn_m1, cn_e0, cn_en, cn_ei, cn_er, cn_eu, cn_el, cn_nl0, cn_nls, cn_nb0, cn_nb1, cn_nb2, cn_nb3, cn_bd0, cn_bds, cn_cwi, cn_cwr, cn_cwl, cn_cwn, cn_wi2, cn_wl1, cn_wl3, cn_wr1, cn_wr2, cn_wi_eq, cn_wl_eq, cb_0, cb_n0, cb_b, cm_okb0, cm_okb1, Classical.not_not, true_and, and_true, Nat.reduceAdd, Nat.reduceSub, Nat.reduceLT, Nat.reduceLeDiff, Int.reduceToNat, Int.reduceNatCast', Nat.zero_le, Nat.reduceEqDiff, false_or, or_false, or_true, true_or, Int.reduceNeg, reduceCtorEq, false_implies, implies_true, forall_const, true_implies, not_true_eq_false, not_false_eq_true, Nat.le_refl, ne_eq, if_true, if_false, ite_true, ite_false, List.cons_append, List.nil_append]
          have T2t : TrG T M2 t ∧ trv M2 t = X := by
            rcases t4 with ⟨u, u1, u2⟩ | u2
            · subst u2
              exact ⟨F2.trq (by omega) t2, (F2.tvq (by omega) t2).trans t1⟩
            · subst u2
              exact ⟨(C2.2.2.2.2.2 _ (by omega)).2, (l2 _ (by omega)).trans t1⟩
          have T2v : TrG T M2 (β + 6 + 8 * v) ∧ trv M2 (β + 6 + 8 * v) = ((bkv M β).2 v).1 := ⟨F2.trq (by omega) (HT v v16), (F2.tvq (by omega) (HT v v16)).trans n2.symm⟩
          have vlo : cLo β g (bkv M β).1 (16 - (k + 1)) (β + 6 + 8 * v) := Or.inl ⟨v, n1, rfl⟩
          refine ⟨false, C2.2.2.1.1, C2.2.2.1.2, ⟨T2t.1, T2v.1, ht', (C2.2.2.2.2.2 _ (by omega)).2⟩, ⟨cLo_o17 t4 hbg hn16, cLo_o17 vlo hbg hn16, cLo_o17 hlo hbg hn16, Or.inr (by omega)⟩, ⟨cLo_wor t4 hbg hn16, by unfold dj; omega, cLo_dj hlo hbg hn16 (by omega)⟩, ⟨TvG.balT (by rw [T2t.2]; exact t3), TvG.balT (by rw [T2v.2, n2]; exact n3), TvG.balT (by rw [hv']; exact hg')⟩, fun M3 F3 b3 G3 w3t r3 => ?_⟩
          rw [T2t.2, T2v.2, hv'] at r3 ⊢
          obtain ⟨C3, F3', l3⟩ := C2.lvl (by omega) F3 G3 b3 w3t
          have FF := (hF.trans F2).trans F3'
          have ll : ∀ i : Nat, i < 16 - (k + 1) → trv M3 (g + 17 + 8 * i) = trv M (g + 17 + 8 * i) := fun i hi => (l3 i (by omega) (by omega)).trans ((l2 i (by omega)).trans (hlv i hi))
          have e3 : M3.2 = M1.2 := F3'.2.trans e2
          have c22 := cmL_2 hcm hbit
          rw [hY] at c22
          simp only [jC, kX6_commonOf_0, kX6_commonOf_1, fl_6_154, fl_6_321, K0, KK1, L1, R1, ev, ixv, rvv, kt, ee, ixe, gk, g1, lvv, klv, y1, y2, e3, cn_iconst, cn_lconst0, cn_lconst1, cn_null, cn_iload, cn_aload, cn_lload, cn_lo1, cn_loa1, cn_loa2, cn_lol1, cn_get0, cn_gets, cn_put0, cn_puts, cn_istore, cn_astore, cn_astoreN, cn_lstore, cn_iinc, cn_in1, cn_iadd, cn_isub, cn_imul, cn_iand, cn_ior, cn_ixor, cn_ishl, cn_ishr, cn_iushr, cn_idiv, cn_irem, cn_ladd, cn_lmul, cn_ldiv, cn_lrem, cn_i2l, cn_l2i, cn_i2b, cn_lcmp, cn_dupi, cn_dupr, cn_dup2, cn_popi, cn_popr, cn_goto, cn_if_eq, cn_if_ne, cn_if_lt, cn_if_ge, cn_if_gt, cn_if_le, cn_ic_eq, cn_ic_ne, cn_ic_lt, cn_ic_ge, cn_ic_gt, cn_ic_le, cn_ifnullN, cn_ifnullR, cn_ifnonnullN, cn_ifnonnullR, cn_tswS, cn_tsw0, cn_tsw1, cn_lswS, cn_lsw0, cn_lsw1, cn_alen, cn_iaload, cn_laload, cn_rr1, cn_rr0, cn_aaload, cn_iastore, cn_lastore, cn_aastore, cn_getfield, cn_gf0, cn_gf1, cn_gf2, cn_gf3, cn_putfield, cn_pf0f, cn_pf1f, cn_pf2f, cn_pf3f, cn_pf0t, cn_pf1t, cn_pf2t, cn_pf3t, cn_new, cn_nw1, cn_newi, cn_newl, cn_anew, cn_an1, cn_inv_v, cn_inv_s, cn_inv_p, cn_ca1, cn_cb1, cn_pop0, cn_pops, cn_rk0, cn_rk1, cn_kcn, cn_kcs, cn_ireturn, cn_lreturn, cn_areturn, cn_return, cn_re0, cn_re1, cn_re2, cn_re3, cn_re4, cn_re5, cn_wp0, cn_wps, cn_m0, cn_m1, cn_e0, cn_en, cn_ei, cn_er, cn_eu, cn_el, cn_nl0, cn_nls, cn_nb0, cn_nb1, cn_nb2, cn_nb3, cn_bd0, cn_bds, cn_cwi, cn_cwr, cn_cwl, cn_cwn, cn_wi2, cn_wl1, cn_wl3, cn_wr1, cn_wr2, cn_wi_eq, cn_wl_eq, cb_0, cb_n0, cb_b, cm_okb0, cm_okb1, Classical.not_not, true_and, and_true, Nat.reduceAdd, Nat.reduceSub, Nat.reduceLT, Nat.reduceLeDiff, Int.reduceToNat, Int.reduceNatCast', Nat.zero_le, Nat.reduceEqDiff, false_or, or_false, or_true, true_or, Int.reduceNeg, reduceCtorEq, false_implies, implies_true, forall_const, true_implies, not_true_eq_false, not_false_eq_true, Nat.le_refl, ne_eq, if_true, if_false, ite_true, ite_false, List.cons_append, List.nil_append]
          refine ⟨fun hm => ?_, fun hm => ?_⟩
          · cases hX2 : mgT false X ((bkv M β).2 v).1 Y with
            | none => exact absurd hX2 hm
            | some X2 =>
              simp only [hX2] at c22
              rw [w3_add]
              have gX2 := mgT_g t3 (by rw [n2]; exact n3) hg' hX2
              exact ih (v + 1) M3 (w3 (v : Int)) _ _ (some X2) (by omega) FF C3 ll (by rw [ev]; exact c22) (fun h => by cases h) (fun X' hX' => ⟨_, rfl, by cases hX'; exact r3 _ hX2, w3t, by cases hX'; exact gX2, Or.inr rfl⟩)
          · simp only [hm] at c22
            have hN : cmL (bkv M β) (cmn (bkv M β) k) nea 16 = none := by
              have := cmL_n (v := v + 1) c22 (16 - (v + 1))
              rw [show v + 1 + (16 - (v + 1)) = 16 by omega] at this
              exact this
            exact (hS M3 FF C3 ll).2 (fun c la h => by rw [hN] at h; cases h)
      · exact ih (v + 1) M1 la _ o9 (some X) (by omega) hF hC1 hlv (cmL_0 hcm hbit) (fun h => by cases h) (fun X' hX => ⟨t, rfl, by cases hX; exact t1, t2, by cases hX; exact t3, t4⟩)

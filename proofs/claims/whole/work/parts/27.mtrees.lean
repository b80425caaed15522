/-- a tree: its torn bits, its three files -/
abbrev Tv : Type := Int32 × Fl × Fl × Fl
def pk (x : Tv) (f : Nat) : Fl := if f = 0 then x.2.1 else if f = 1 then x.2.2.1 else x.2.2.2
theorem pk_tr {M : cm_M} {t f : Nat} (h : f < 3) : pk (trv M t) f = fl M (t + 2 + 2 * f) := by
  match f, h with
  | 0, _ => rfl
  | 1, _ => rfl
  | 2, _ => rfl
/-- what comes of a file that both made another one: whether it is torn anew, and the file; none: too long -/
noncomputable def mgB (tn : Bool) (a b c : Fl) : Option (Bool × Fl) :=
  if a ≠ none ∧ b ≠ none then (if (mgL tn (cnt a) (cnt c) (cnt b)).length ≤ 40 then some (false, some (mgL tn (cnt a) (cnt c) (cnt b))) else none) else if a ≠ none then some (true, a) else some (true, b)
noncomputable def mgF (tn : Bool) (a b c : Fl) : Option (Bool × Fl) :=
  if a = b then some (false, a) else if a = c then some (false, b) else if b = c then some (false, a) else mgB tn a b c
def bt (k : Nat) : Int32 := w3 1 <<< (w3 (k : Int) &&& 31)
def tr1 (b : Bool) (k : Nat) (t : Int32) : Int32 := if b then t ||| bt k else t
noncomputable def tr2 (x : Int32) (r : Fl) (k : Nat) (t : Int32) : Int32 := if r = none then t else t ||| (x &&& bt k)
/-- the torn bits after k files -/
noncomputable def tor (tn : Bool) (x y z : Tv) : Nat → Int32
  | 0 => w3 0
  | k + 1 => match mgF tn (pk x k) (pk y k) (pk z k) with
    | none => tor tn x y z k
    | some (b, r) => tr2 (x.1 ||| y.1) r k (tr1 b k (tor tn x y z k))
noncomputable def mgT (tn : Bool) (x y z : Tv) : Option Tv :=
  match mgF tn (pk x 0) (pk y 0) (pk z 0), mgF tn (pk x 1) (pk y 1) (pk z 1), mgF tn (pk x 2) (pk y 2) (pk z 2) with
  | some (_, a), some (_, b), some (_, c) => some (tor tn x y z 3, a, b, c)
  | _, _, _ => none
theorem mgT_none {tn : Bool} {x y z : Tv} {k : Nat} (hk : k < 3) (h : mgF tn (pk x k) (pk y k) (pk z k) = none) : mgT tn x y z = none := by
  match k, hk with
  | 0, _ => unfold mgT; rw [h]
  | 1, _ => unfold mgT; rw [h]; split <;> simp_all
  | 2, _ => unfold mgT; rw [h]; split <;> simp_all
theorem mgT_some {tn : Bool} {x y z : Tv} {a b c : Fl} {i j k : Bool} (h0 : mgF tn (pk x 0) (pk y 0) (pk z 0) = some (i, a)) (h1 : mgF tn (pk x 1) (pk y 1) (pk z 1) = some (j, b)) (h2 : mgF tn (pk x 2) (pk y 2) (pk z 2) = some (k, c)) : mgT tn x y z = some (tor tn x y z 3, a, b, c) := by
  unfold mgT; rw [h0, h1, h2]
theorem tr_f {T : cm_T} {M : cm_M} {t f : Nat} (hg : TrG T M t) (h : f < 3) : M.2.2 (t + 1) (f : Int) = some (t + 2 + 2 * f) ∧ T.1 (t + 2 + 2 * f) = 5 ∧ Sg T M (t + 2 + 2 * f) ∧ pl M (t + 2 + 2 * f) = t + 3 + 2 * f ∧ szb M (t + 2 + 2 * f) ∧ T.2.1 (t + 3 + 2 * f) = 40 := by
  obtain ⟨⟨h1, h2, h3, h4, ⟨a1, a2, a3⟩, ⟨b1, b2, b3⟩, ⟨c1, c2, c3⟩, ⟨d1, d2, d3⟩, e1, e2, e3⟩, s1, s2, s3⟩ := id hg
  obtain ⟨⟨g1, p1⟩, ⟨g2, p2⟩, ⟨g3, p3⟩⟩ := hg.sg
  match f, h with
  | 0, _ => exact ⟨a1, b1, g1, p1, s1, e1⟩
  | 1, _ => exact ⟨a2, b2, g2, p2, s2, e2⟩
  | 2, _ => exact ⟨a3, b3, g3, p3, s3, e3⟩
/-- nothing but the merger's and the tree's cells have changed -/
def FrW (M M1 : cm_M) (g w : Nat) : Prop := (∀ q : Nat, (q < g ∨ g + 17 ≤ q) → (q < w ∨ w + 8 ≤ q) → M1.1 q = M.1 q) ∧ M1.2 = M.2
theorem FrW.rf {M : cm_M} {g w : Nat} : FrW M M g w := ⟨fun _ _ _ => rfl, rfl⟩
theorem FrW.trans {M M1 M2 : cm_M} {g w : Nat} (h : FrW M M1 g w) (k : FrW M1 M2 g w) : FrW M M2 g w := ⟨fun q a b => (k.1 q a b).trans (h.1 q a b), k.2.trans h.2⟩
theorem Fr.w1 {M M1 : cm_M} {g w : Nat} (h : Fr M M1 g 17) : FrW M M1 g w := ⟨fun q a _ => h.1 q a, h.2⟩
theorem Fr.w2 {M M1 : cm_M} {g w lo n : Nat} (h : Fr M M1 lo n) (h1 : w ≤ lo) (h2 : lo + n ≤ w + 8) : FrW M M1 g w := ⟨fun q _ a => h.1 q (by omega), h.2⟩
/-- a tree that lies apart from a merger -/
def o17 (t g : Nat) : Prop := t + 8 ≤ g ∨ g + 17 ≤ t
theorem FrW.flq {T : cm_T} {M M1 : cm_M} {g w t f : Nat} (h : FrW M M1 g w) (ht : TrG T M t) (h1 : o17 t g) (h2 : dj w t) (hf : f < 3) : fl M1 (t + 2 + 2 * f) = fl M (t + 2 + 2 * f) := by
  have hp := (tr_f ht hf).2.2.2.1
  unfold o17 at h1
  unfold dj at h2
  exact fl_keep (by rw [h.2]) (by rw [h.1 _ (by omega) (by omega)]) (by rw [hp]; exact h.1 _ (by omega) (by omega))
theorem FrW.trq {T : cm_T} {M M1 : cm_M} {g w t : Nat} (h : FrW M M1 g w) (ht : TrG T M t) (h1 : o17 t g) (h2 : dj w t) : TrG T M1 t := by
  obtain ⟨k1, s1, s2, s3⟩ := ht
  unfold o17 at h1
  unfold dj at h2
  refine ⟨by rw [h.2]; exact k1, ?_, ?_, ?_⟩
  · unfold szb sz; rw [h.1 _ (by omega) (by omega)]; exact s1
  · unfold szb sz; rw [h.1 _ (by omega) (by omega)]; exact s2
  · unfold szb sz; rw [h.1 _ (by omega) (by omega)]; exact s3
theorem FrW.tvq {T : cm_T} {M M1 : cm_M} {g w t : Nat} (h : FrW M M1 g w) (ht : TrG T M t) (h1 : o17 t g) (h2 : dj w t) : trv M1 t = trv M t := by
  have e : M1.1 t = M.1 t := h.1 _ (by unfold o17 at h1; omega) (by unfold dj at h2; omega)
  unfold trv
  rw [e]
  have a := h.flq ht h1 h2 (f := 0) (by omega)
  have b := h.flq ht h1 h2 (f := 1) (by omega)
  have c := h.flq ht h1 h2 (f := 2) (by omega)
  rw [show fl M1 (t + 2) = fl M (t + 2) from a, show fl M1 (t + 4) = fl M (t + 4) from b, show fl M1 (t + 6) = fl M (t + 6) from c]
def wor (w o : Nat) : Prop := w = o ∨ dj w o
theorem fl_th {M : cm_M} {a : Nat} : (0 ≤ (M.1 a 1).toInt) = (fl M a ≠ none) := by
  have : (fl M a ≠ none) = (0 ≤ sz M a) := by
    have := b1f_sz (M := M) (a := a)
    cases h : fl M a with
    | none =>
      rw [h] at this
      simp only [b1f] at this
      split at this
      · omega
      · simp_all
    | some L =>
      rw [h] at this
      simp only [b1f] at this
      split at this
      · simp_all
      · omega
  rw [this]
  rfl
def SX3_mergeTrees : cm_CT := fun as T M Φ => match as with
  | [.ref g, .ref o, .ref t, .ref v, .ref w] => ∃ tn : Bool, MgG T M g ∧ M.1 g 2 = tb tn ∧ (TrG T M o ∧ TrG T M t ∧ TrG T M v ∧ TrG T M w) ∧ (o17 o g ∧ o17 t g ∧ o17 v g ∧ o17 w g) ∧ (wor w o ∧ dj w t ∧ dj w v) ∧ (BalT M o ∧ BalT M t ∧ BalT M v) ∧ ∀ M1, FrW M M1 g w → M1.1 g 2 = tb tn → MgG T M1 g → TrG T M1 w → (∀ X, mgT tn (trv M o) (trv M t) (trv M v) = some X → trv M1 w = X) → Φ (some (.int (cb (mgT tn (trv M o) (trv M t) (trv M v) ≠ none)))) T M1
  | _ => False
def JX3_mergeTrees : cm_J := (3, false, 2, [(69, 1, 5, 0, 0, SX4_isThere), (73, 4, 4, 0, 0, SX3_mergeLines), (81, 2, 5, 0, 0, SX4_become)], [(65, 3, 0, 0, 0, SX3_undisputed)], [])
theorem jX3_mergeTrees : JX3_mergeTrees.1 = 3 ∧ JX3_mergeTrees.2.1 = false ∧ JX3_mergeTrees.2.2.1 = 2 ∧ cm_gv JX3_mergeTrees 69 = some (1, 5, 0, 0, SX4_isThere) ∧ cm_gv JX3_mergeTrees 73 = some (4, 4, 0, 0, SX3_mergeLines) ∧ cm_gv JX3_mergeTrees 81 = some (2, 5, 0, 0, SX4_become) ∧ cm_gs JX3_mergeTrees 65 = some (3, 0, 0, 0, SX3_undisputed) := ⟨rfl, rfl, rfl, rfl, rfl, rfl, rfl⟩
theorem eX3_mergeTrees (d : Nat) (hd : 4 ≤ d) : cm_Cok d JX3_mergeTrees := ⟨(List.forall_mem_cons.mpr ⟨q3_69 (mX4_isThere (d - 1) (by omega)) (by omega), (List.forall_mem_cons.mpr ⟨q3_73 (mX3_mergeLines (d - 1) (by omega)) (by omega), (List.forall_mem_cons.mpr ⟨q3_81 (mX4_become (d - 1) (by omega)) (by omega), (fun q h => by cases h)⟩)⟩)⟩), (List.forall_mem_cons.mpr ⟨q3_65 (mX3_undisputed (d - 1) (by omega)) (by omega), (fun q h => by cases h)⟩), (fun q h => by cases h)⟩
theorem BalT.at {M : cm_M} {t f : Nat} (h : BalT M t) (hf : f < 3) : Bal (cnt (fl M (t + 2 + 2 * f))) := by
  match f, hf with
  | 0, _ => exact h.1
  | 1, _ => exact h.2.1
  | 2, _ => exact h.2.2
set_option maxHeartbeats 8000000 in
theorem lX3_mergeTrees (d : Nat) (hd : 4 ≤ d) {T : cm_T} {M : cm_M} {Φ : Option Value → cm_T → cm_M → Prop} {g o t v w : Nat} {tn : Bool} (ho : TrG T M o) (ht : TrG T M t) (hv : TrG T M v) (oo : o17 o g) (ot : o17 t g) (ov : o17 v g) (ow : o17 w g) (wo : wor w o) (wt : dj w t) (wv : dj w v) (bo : BalT M o) (bt0 : BalT M t) (bv : BalT M v)
    (hS : ∀ M1, FrW M M1 g w → M1.1 g 2 = tb tn → MgG T M1 g → TrG T M1 w → (∀ X, mgT tn (trv M o) (trv M t) (trv M v) = some X → trv M1 w = X) → Φ (some (.int (cb (mgT tn (trv M o) (trv M t) (trv M v) ≠ none)))) T M1) :
    ∀ (n k : Nat) (M1 : cm_M) (o7 : Option Value), n + k = 3 → FrW M M1 g w → M1.1 g 2 = tb tn → MgG T M1 g → TrG T M1 w → M1.1 w 1 = M.1 w 1 → (∀ f, f < 3 → k ≤ f → fl M1 (w + 2 + 2 * f) = fl M (w + 2 + 2 * f)) → (∀ f, f < k → ∃ b, mgF tn (pk (trv M o) f) (pk (trv M t) f) (pk (trv M v) f) = some (b, fl M1 (w + 2 + 2 * f))) → cm_Go d cX3_mergeTrees 8 0 0 JX3_mergeTrees Φ 6 [some (.ref g), some (.ref o), some (.ref t), some (.ref v), some (.ref w), some (.int (tor tn (trv M o) (trv M t) (trv M v) k)), some (.int (w3 k)), o7] [] (0, 0) T M1 := by
  intro n
  induction n with
  | zero =>
    intro k M1 o7 hk hF htn hG hw hw1 hr hl
    have hk3 : k = 3 := by omega
    subst hk3
    have w1 := hw.1.1
    refine cm_go hX3_mergeTrees 300 oX3_mergeTrees (eX3_mergeTrees d hd) lX3_mergeTrees_6 ?_
    simp only [jX3_mergeTrees, kX3_mergeTrees_0, kX3_mergeTrees_1, fl_3_61, fl_3_53, fl_3_77, w1, cn_iconst, cn_lconst0, cn_lconst1, cn_null, cn_iload, cn_aload, cn_lload, cn_lo1, cn_loa1, cn_loa2, cn_lol1, cn_get0, cn_gets, cn_put0, cn_puts, cn_istore, cn_astore, cn_astoreN, cn_lstore, cn_iinc, cn_in1, cn_iadd, cn_isub, cn_imul, cn_iand, cn_ior, cn_ixor, cn_ishl, cn_ishr, cn_iushr, cn_idiv, cn_irem, cn_ladd, cn_lmul, cn_ldiv, cn_lrem, cn_i2l, cn_l2i, cn_i2b, cn_lcmp, cn_dupi, cn_dupr, cn_dup2, cn_popi, cn_popr, cn_goto, cn_if_eq, cn_if_ne, cn_if_lt, cn_if_ge, cn_if_gt, cn_if_le, cn_ic_eq, cn_ic_ne, cn_ic_lt, cn_ic_ge, cn_ic_gt, cn_ic_le, cn_ifnullN, cn_ifnullR, cn_ifnonnullN, cn_ifnonnullR, cn_tswS, cn_tsw0, cn_tsw1, cn_lswS, cn_lsw0, cn_lsw1, cn_alen, cn_iaload, cn_laload, cn_rr1, cn_rr0, cn_aaload, cn_iastore, cn_lastore, cn_aastore, cn_getfield, cn_gf0, cn_gf1, cn_gf2, cn_gf3, cn_putfield, cn_pf0f, cn_pf1f, cn_pf2f, cn_pf3f, cn_pf0t, cn_pf1t, cn_pf2t, cn_pf3t, cn_new, cn_nw1, cn_newi, cn_newl, cn_anew, cn_an1, cn_inv_v, cn_inv_s, cn_inv_p, cn_ca1, cn_cb1, cn_pop0, cn_pops, cn_rk0, cn_rk1, cn_kcn, cn_kcs, cn_ireturn, cn_lreturn, cn_areturn, cn_return, cn_re0, cn_re1, cn_re2, cn_re3, cn_re4, cn_re5, cn_wp0, cn_wps, cn_m0, cn_m1, cn_e0, cn_en, cn_ei, cn_er, cn_eu, cn_el, cn_nl0, cn_nls, cn_nb0, cn_nb1, cn_nb2, cn_nb3, cn_bd0, cn_bds, cn_cwi, cn_cwr, cn_cwl, cn_cwn, cn_wi2, cn_wl1, cn_wl3, cn_wr1, cn_wr2, cn_wi_eq, cn_wl_eq, cb_0, cb_n0, cb_b, cm_okb0, cm_okb1, Classical.not_not, true_and, and_true, Nat.reduceAdd, Nat.reduceSub, Nat.reduceLT, Nat.reduceLeDiff, Int.reduceToNat, Int.reduceNatCast', Nat.zero_le, Nat.reduceEqDiff, false_or, or_false, or_true, true_or, Int.reduceNeg, reduceCtorEq, false_implies, implies_true, forall_const, true_implies, not_true_eq_false, not_false_eq_true, Nat.le_refl, ne_eq, if_true, if_false, ite_true, ite_false, List.cons_append, List.nil_append]
    simp (disch := omega) only [w3_le, w3_lt, w3_eq, w3_ix, w3_add, w3_sub, w3_mul, w3_toInt, w3_z, Int.reduceEq, Int.reduceLT, Int.reduceLE, Int.reduceAdd, Int.reduceSub, Int.reduceMul, Int.le_refl, Int.lt_irrefl, not_true_eq_false, not_false_eq_true, true_implies, false_implies, implies_true, and_true, true_and, and_self, ne_eq, Classical.not_not]
    obtain ⟨b0, h0⟩ := hl 0 (by omega)
    obtain ⟨b1, h1⟩ := hl 1 (by omega)
    obtain ⟨b2, h2⟩ := hl 2 (by omega)
    have hm := mgT_some h0 h1 h2
    obtain ⟨T1, T2, T3⟩ := tr_torn (v := tor tn (trv M o) (trv M t) (trv M v) 3) hw
    have ow' : o17 w g := ow
    unfold o17 at ow'
    have mg : MgG T (cm_wi M1 w 1 (tor tn (trv M o) (trv M t) (trv M v) 3)) g := by
      obtain ⟨m1, ⟨m2, m3, m4⟩, m5, m6⟩ := hG
      refine ⟨m1, ⟨?_, ?_, ?_⟩, ?_⟩
      · rw [T2.1 (g + 6) (by omega)]; exact m2
      · rw [T2.1 (g + 9) (by omega)]; exact m3
      · rw [T2.1 (g + 12) (by omega)]; exact m4
      · rw [T2.szq (by omega)]; exact ⟨m5, m6⟩
    have hh := hS _ (hF.trans (T2.w2 (by omega) (by omega))) (by rw [T2.1 g (by omega)]; exact htn) mg T1 (by
      intro X hX
      rw [hm] at hX
      cases hX
      obtain ⟨⟨-, p1⟩, ⟨-, p2⟩, ⟨-, p3⟩⟩ := hw.sg
      refine Prod.ext T3 (Prod.ext (T2.flq (by omega) (by rw [p1]; omega)) (Prod.ext (T2.flq (by omega) (by rw [p2]; omega)) (T2.flq (by omega) (by rw [p3]; omega)))))
    rw [cb_t (by rw [hm]; simp)] at hh
    exact hh
  | succ n ih =>
    intro k M1 o7 hk hF htn hG hw hw1 hr hl
    have k3 : k < 3 := by omega
    have ek : (w3 (k : Int)).toInt = (k : Int) := w3_toInt (by omega) (by omega)
    have gm := hG.1.1
    have e2 := hF.2
    have ho1 : TrG T M1 o := by
      rcases wo with rfl | wo
      · exact hw
      · exact hF.trq ho oo wo
    have ht1 := hF.trq ht ot wt
    have hv1 := hF.trq hv ov wv
    obtain ⟨a1, a2, a3, a4, a5, a6⟩ := tr_f ho1 k3
    obtain ⟨b1, b2, b3, b4, b5, b6⟩ := tr_f ht1 k3
    obtain ⟨c1, c2, c3, c4, c5, c6⟩ := tr_f hv1 k3
    obtain ⟨d1, d2, d3, d4, d5, d6⟩ := tr_f hw k3
    have fo : fl M1 (o + 2 + 2 * k) = fl M (o + 2 + 2 * k) := by
      rcases wo with rfl | wo
      · exact hr k k3 (Nat.le_refl _)
      · exact hF.flq ho oo wo k3
    have ft := hF.flq ht ot wt k3
    have fv := hF.flq hv ov wv k3
    have x1 := ho1.1.1
    have x2 := ht1.1.1
    have x3 := hv1.1.1
    have x4 := hw.1.1
    have y1 := ho1.1.2.1
    have y2 := ht1.1.2.1
    have y3 := hv1.1.2.1
    have y4 := hw.1.2.1
    have z1 := ho1.1.2.2.1
    have z2 := ht1.1.2.2.1
    have z3 := hv1.1.2.2.1
    have z4 := hw.1.2.2.1
    have q1 := ho1.1.2.2.2.1
    have q2 := ht1.1.2.2.2.1
    have q3 := hv1.1.2.2.2.1
    have q4 := hw.1.2.2.2.1
    have cI : (0 ≤ (k : Int) ∧ (k : Int) < ((3 : Nat) : Int)) := ⟨by omega, by omega⟩
    refine cm_go hX3_mergeTrees 300 oX3_mergeTrees (eX3_mergeTrees d hd) lX3_mergeTrees_6 ?_
    simp only [jX3_mergeTrees, kX3_mergeTrees_0, kX3_mergeTrees_1, fl_3_61, fl_3_53, fl_3_77, SX3_undisputed, gm, x1, x2, x3, x4, y1, y2, y3, y4, z1, z2, z3, z4, q1, q2, q3, q4, a1, a2, b1, b2, c1, c2, d1, d2, ek, cI, cn_iconst, cn_lconst0, cn_lconst1, cn_null, cn_iload, cn_aload, cn_lload, cn_lo1, cn_loa1, cn_loa2, cn_lol1, cn_get0, cn_gets, cn_put0, cn_puts, cn_istore, cn_astore, cn_astoreN, cn_lstore, cn_iinc, cn_in1, cn_iadd, cn_isub, cn_imul, cn_iand, cn_ior, cn_ixor, cn_ishl, cn_ishr, cn_iushr, cn_idiv, cn_irem, cn_ladd, cn_lmul, cn_ldiv, cn_lrem, cn_i2l, cn_l2i, cn_i2b, cn_lcmp, cn_dupi, cn_dupr, cn_dup2, cn_popi, cn_popr, cn_goto, cn_if_eq, cn_if_ne, cn_if_lt, cn_if_ge, cn_if_gt, cn_if_le, cn_ic_eq, cn_ic_ne, cn_ic_lt, cn_ic_ge, cn_ic_gt, cn_ic_le, cn_ifnullN, cn_ifnullR, cn_ifnonnullN, cn_ifnonnullR, cn_tswS, cn_tsw0, cn_tsw1, cn_lswS, cn_lsw0, cn_lsw1, cn_alen, cn_iaload, cn_laload, cn_rr1, cn_rr0, cn_aaload, cn_iastore, cn_lastore, cn_aastore, cn_getfield, cn_gf0, cn_gf1, cn_gf2, cn_gf3, cn_putfield, cn_pf0f, cn_pf1f, cn_pf2f, cn_pf3f, cn_pf0t, cn_pf1t, cn_pf2t, cn_pf3t, cn_new, cn_nw1, cn_newi, cn_newl, cn_anew, cn_an1, cn_inv_v, cn_inv_s, cn_inv_p, cn_ca1, cn_cb1, cn_pop0, cn_pops, cn_rk0, cn_rk1, cn_kcn, cn_kcs, cn_ireturn, cn_lreturn, cn_areturn, cn_return, cn_re0, cn_re1, cn_re2, cn_re3, cn_re4, cn_re5, cn_wp0, cn_wps, cn_m0, cn_m1, cn_e0, cn_en, cn_ei, cn_er, cn_eu, cn_el, cn_nl0, cn_nls, cn_nb0, cn_nb1, cn_nb2, cn_nb3, cn_bd0, cn_bds, cn_cwi, cn_cwr, cn_cwl, cn_cwn, cn_wi2, cn_wl1, cn_wl3, cn_wr1, cn_wr2, cn_wi_eq, cn_wl_eq, cb_0, cb_n0, cb_b, cm_okb0, cm_okb1, Classical.not_not, true_and, and_true, Nat.reduceAdd, Nat.reduceSub, Nat.reduceLT, Nat.reduceLeDiff, Int.reduceToNat, Int.reduceNatCast', Nat.zero_le, Nat.reduceEqDiff, false_or, or_false, or_true, true_or, Int.reduceNeg, reduceCtorEq, false_implies, implies_true, forall_const, true_implies, not_true_eq_false, not_false_eq_true, Nat.le_refl, ne_eq, if_true, if_false, ite_true, ite_false, List.cons_append, List.nil_append]
    simp (disch := omega) only [w3_le, w3_lt, w3_eq, w3_ix, w3_add, w3_sub, w3_mul, w3_toInt, w3_z, Int.reduceEq, Int.reduceLT, Int.reduceLE, Int.reduceAdd, Int.reduceSub, Int.reduceMul, Int.le_refl, Int.lt_irrefl, not_true_eq_false, not_false_eq_true, true_implies, false_implies, implies_true, and_true, true_and, and_self, ne_eq, Classical.not_not]
    have fin : ∀ (M2 : cm_M) (s : Nat) (b : Bool), FrW M M2 g w → M2.1 g 2 = tb tn → MgG T M2 g → TrG T M2 w → M2.1 w 1 = M.1 w 1 → (∀ f, f < 3 → fl M2 (w + 2 + 2 * f) = fl M1 (w + 2 + 2 * f)) → Sg T M2 s → szb M2 s → mgF tn (fl M1 (o + 2 + 2 * k)) (fl M1 (t + 2 + 2 * k)) (fl M1 (v + 2 + 2 * k)) = some (b, fl M2 s) →
        Sg T M2 (w + 2 + 2 * k) ∧ Sg T M2 s ∧ sz M2 s ≤ (T.2.1 (pl M2 (w + 2 + 2 * k)) : Int) ∧ cm_Go d cX3_mergeTrees 8 0 0 JX3_mergeTrees Φ 6 [some (.ref g), some (.ref o), some (.ref t), some (.ref v), some (.ref w), some (.int (tr2 ((trv M o).1 ||| (trv M t).1) (fl M2 s) k (tr1 b k (tor tn (trv M o) (trv M t) (trv M v) k)))), some (.int (w3 ((k : Int) + 1))), some (.ref s)] [] (0, 0) T (mRow M2 (w + 2 + 2 * k) (sz M2 s) (M2.1 (pl M2 s))) := by
      intro M2 s b f2 n2 m2 t2 w2 l2 g2 s2 hm
      obtain ⟨D1, D2, D3, D4, D5, D6⟩ := tr_f t2 k3
      refine ⟨D3, g2, by rw [D4, D6]; exact s2.2, ?_⟩
      obtain ⟨Q1, Q2, Q3⟩ := tr_row (f := k) (z := sz M2 s) (g := M2.1 (pl M2 s)) t2 (by omega) s2.1 s2.2
      have ow' : o17 w g := ow
      unfold o17 at ow'
      have hm0 : mgF tn (pk (trv M o) k) (pk (trv M t) k) (pk (trv M v) k) = some (b, fl M2 s) := by rw [pk_tr k3, pk_tr k3, pk_tr k3, ← fo, ← ft, ← fv]; exact hm
      have ht : tor tn (trv M o) (trv M t) (trv M v) (k + 1) = tr2 ((trv M o).1 ||| (trv M t).1) (fl M2 s) k (tr1 b k (tor tn (trv M o) (trv M t) (trv M v) k)) := by
        show (match mgF tn (pk (trv M o) k) (pk (trv M t) k) (pk (trv M v) k) with | none => tor tn (trv M o) (trv M t) (trv M v) k | some (b, r) => tr2 ((trv M o).1 ||| (trv M t).1) r k (tr1 b k (tor tn (trv M o) (trv M t) (trv M v) k))) = _
        rw [hm0]
      rw [← ht]
      have keepf : ∀ f, f < 3 → f ≠ k → fl (mRow M2 (w + 2 + 2 * k) (sz M2 s) (M2.1 (pl M2 s))) (w + 2 + 2 * f) = fl M1 (w + 2 + 2 * f) := by
        intro f hf hne
        rw [Q2.flq (by omega) (by rw [(tr_f t2 hf).2.2.2.1]; omega)]
        exact l2 f hf
      refine ih (k + 1) _ _ (by omega) (f2.trans (Q2.w2 (by omega) (by omega))) (by rw [Q2.1 g (by omega)]; exact n2) ?_ Q1 (by rw [Q2.1 w (by omega)]; exact w2) ?_ ?_
      · obtain ⟨m1, ⟨m2, m3, m4⟩, m5, m6⟩ := m2
        refine ⟨m1, ⟨?_, ?_, ?_⟩, ?_⟩
        · rw [Q2.1 (g + 6) (by omega)]; exact m2
        · rw [Q2.1 (g + 9) (by omega)]; exact m3
        · rw [Q2.1 (g + 12) (by omega)]; exact m4
        · rw [Q2.szq (by omega)]; exact ⟨m5, m6⟩
      · intro f hf hkf
        rw [keepf f hf (by omega)]
        exact hr f hf (by omega)
      · intro f hf
        by_cases e : f = k
        · subst e
          exact ⟨b, by rw [hm0, Q3]; rfl⟩
        · rw [keepf f (by omega) e]
          exact hl f (by omega)
    have to1 : M1.1 o 1 = (trv M o).1 := by
      rcases wo with rfl | wo
      · exact hw1
      · exact congrFun (hF.1 o (by unfold o17 at oo; omega) (by unfold dj at wo; omega)) 1
    have tt1 : M1.1 t 1 = (trv M t).1 := congrFun (hF.1 t (by unfold o17 at ot; omega) (by unfold dj at wt; omega)) 1
    refine ⟨fun q => by omega, fun _ => ⟨cI, cI, cI, a3, b3, c3, fun n1 => ?_, fun n1 => ⟨fun n2 => ?_, fun n2 => ⟨fun n3 => ?_, fun n3 => ⟨cI, ?_⟩⟩⟩⟩⟩
    · simp only [jX3_mergeTrees, kX3_mergeTrees_0, kX3_mergeTrees_1, fl_3_61, fl_3_53, fl_3_77, gm, x1, x2, x3, x4, y1, y2, y3, y4, z1, z2, z3, z4, q1, q2, q3, q4, a1, a2, b1, b2, c1, c2, d1, d2, ek, cI, SX4_isThere, SX4_become, fl_th, cn_iconst, cn_lconst0, cn_lconst1, cn_null, cn_iload, cn_aload, cn_lload, cn_lo1, cn_loa1, cn_loa2, cn_lol1, cn_get0, cn_gets, cn_put0, cn_puts, cn_istore, cn_astore, cn_astoreN, cn_lstore, cn_iinc, cn_in1, cn_iadd, cn_isub, cn_imul, cn_iand, cn_ior, cn_ixor, cn_ishl, cn_ishr, cn_iushr, cn_idiv, cn_irem, cn_ladd, cn_lmul, cn_ldiv, cn_lrem, cn_i2l, cn_l2i, cn_i2b, cn_lcmp, cn_dupi, cn_dupr, cn_dup2, cn_popi, cn_popr, cn_goto, cn_if_eq, cn_if_ne, cn_if_lt, cn_if_ge, cn_if_gt, cn_if_le, cn_ic_eq, cn_ic_ne, cn_ic_lt, cn_ic_ge, cn_ic_gt, cn_ic_le, cn_ifnullN, cn_ifnullR, cn_ifnonnullN, cn_ifnonnullR, cn_tswS, cn_tsw0, cn_tsw1, cn_lswS, cn_lsw0, cn_lsw1, cn_alen, cn_iaload, cn_laload, cn_rr1, cn_rr0, cn_aaload, cn_iastore, cn_lastore, cn_aastore, cn_getfield, cn_gf0, cn_gf1, cn_gf2, cn_gf3, cn_putfield, cn_pf0f, cn_pf1f, cn_pf2f, cn_pf3f, cn_pf0t, cn_pf1t, cn_pf2t, cn_pf3t, cn_new, cn_nw1, cn_newi, cn_newl, cn_anew, cn_an1, cn_inv_v, cn_inv_s, cn_inv_p, cn_ca1, cn_cb1, cn_pop0, cn_pops, cn_rk0, cn_rk1, cn_kcn, cn_kcs, cn_ireturn, cn_lreturn, cn_areturn, cn_return, cn_re0, cn_re1, cn_re2, cn_re3, cn_re4, cn_re5, cn_wp0, cn_wps, cn_m0, cn_m1, cn_e0, cn_en, cn_ei, cn_er, cn_eu, cn_el, cn_nl0, cn_nls, cn_nb0, cn_nb1, cn_nb2, cn_nb3, cn_bd0, cn_bds, cn_cwi, cn_cwr, cn_cwl, cn_cwn, cn_wi2, cn_wl1, cn_wl3, cn_wr1, cn_wr2, cn_wi_eq, cn_wl_eq, cb_0, cb_n0, cb_b, cm_okb0, cm_okb1, Classical.not_not, true_and, and_true, Nat.reduceAdd, Nat.reduceSub, Nat.reduceLT, Nat.reduceLeDiff, Int.reduceToNat, Int.reduceNatCast', Nat.zero_le, Nat.reduceEqDiff, false_or, or_false, or_true, true_or, Int.reduceNeg, reduceCtorEq, false_implies, implies_true, forall_const, true_implies, not_true_eq_false, not_false_eq_true, Nat.le_refl, ne_eq, if_true, if_false, ite_true, ite_false, List.cons_append, List.nil_append]
      simp (disch := omega) only [w3_le, w3_lt, w3_eq, w3_ix, w3_add, w3_sub, w3_mul, w3_toInt, w3_z, Int.reduceEq, Int.reduceLT, Int.reduceLE, Int.reduceAdd, Int.reduceSub, Int.reduceMul, Int.le_refl, Int.lt_irrefl, not_true_eq_false, not_false_eq_true, true_implies, false_implies, implies_true, and_true, true_and, and_self, ne_eq, Classical.not_not]
      refine ⟨fun h => ?_, fun h => ?_⟩
      · have z := fin M1 (o + 2 + 2 * k) false hF htn hG hw hw1 (fun _ _ => rfl) a3 a5 (by unfold mgF; rw [if_pos n1])
        simp only [tr2, tr1, bt, if_true, if_false, Bool.false_eq_true, if_pos h] at z
        try rw [← to1, ← tt1] at z
        exact ⟨cI, z⟩
      · have z := fin M1 (o + 2 + 2 * k) false hF htn hG hw hw1 (fun _ _ => rfl) a3 a5 (by unfold mgF; rw [if_pos n1])
        simp only [tr2, tr1, bt, if_true, if_false, Bool.false_eq_true, if_neg h] at z
        try rw [← to1, ← tt1] at z
        exact ⟨cI, z⟩
    · simp only [jX3_mergeTrees, kX3_mergeTrees_0, kX3_mergeTrees_1, fl_3_61, fl_3_53, fl_3_77, gm, x1, x2, x3, x4, y1, y2, y3, y4, z1, z2, z3, z4, q1, q2, q3, q4, a1, a2, b1, b2, c1, c2, d1, d2, ek, cI, SX4_isThere, SX4_become, fl_th, cn_iconst, cn_lconst0, cn_lconst1, cn_null, cn_iload, cn_aload, cn_lload, cn_lo1, cn_loa1, cn_loa2, cn_lol1, cn_get0, cn_gets, cn_put0, cn_puts, cn_istore, cn_astore, cn_astoreN, cn_lstore, cn_iinc, cn_in1, cn_iadd, cn_isub, cn_imul, cn_iand, cn_ior, cn_ixor, cn_ishl, cn_ishr, cn_iushr, cn_idiv, cn_irem, cn_ladd, cn_lmul, cn_ldiv, cn_lrem, cn_i2l, cn_l2i, cn_i2b, cn_lcmp, cn_dupi, cn_dupr, cn_dup2, cn_popi, cn_popr, cn_goto, cn_if_eq, cn_if_ne, cn_if_lt, cn_if_ge, cn_if_gt, cn_if_le, cn_ic_eq, cn_ic_ne, cn_ic_lt, cn_ic_ge, cn_ic_gt, cn_ic_le, cn_ifnullN, cn_ifnullR, cn_ifnonnullN, cn_ifnonnullR, cn_tswS, cn_tsw0, cn_tsw1, cn_lswS, cn_lsw0, cn_lsw1, cn_alen, cn_iaload, cn_laload, cn_rr1, cn_rr0, cn_aaload, cn_iastore, cn_lastore, cn_aastore, cn_getfield, cn_gf0, cn_gf1, cn_gf2, cn_gf3, cn_putfield, cn_pf0f, cn_pf1f, cn_pf2f, cn_pf3f, cn_pf0t, cn_pf1t, cn_pf2t, cn_pf3t, cn_new, cn_nw1, cn_newi, cn_newl, cn_anew, cn_an1, cn_inv_v, cn_inv_s, cn_inv_p, cn_ca1, cn_cb1, cn_pop0, cn_pops, cn_rk0, cn_rk1, cn_kcn, cn_kcs, cn_ireturn, cn_lreturn, cn_areturn, cn_return, cn_re0, cn_re1, cn_re2, cn_re3, cn_re4, cn_re5, cn_wp0, cn_wps, cn_m0, cn_m1, cn_e0, cn_en, cn_ei, cn_er, cn_eu, cn_el, cn_nl0, cn_nls, cn_nb0, cn_nb1, cn_nb2, cn_nb3, cn_bd0, cn_bds, cn_cwi, cn_cwr, cn_cwl, cn_cwn, cn_wi2, cn_wl1, cn_wl3, cn_wr1, cn_wr2, cn_wi_eq, cn_wl_eq, cb_0, cb_n0, cb_b, cm_okb0, cm_okb1, Classical.not_not, true_and, and_true, Nat.reduceAdd, Nat.reduceSub, Nat.reduceLT, Nat.reduceLeDiff, Int.reduceToNat, Int.reduceNatCast', Nat.zero_le, Nat.reduceEqDiff, false_or, or_false, or_true, true_or, Int.reduceNeg, reduceCtorEq, false_implies, implies_true, forall_const, true_implies, not_true_eq_false, not_false_eq_true, Nat.le_refl, ne_eq, if_true, if_false, ite_true, ite_false, List.cons_append, List.nil_append]
      simp (disch := omega) only [w3_le, w3_lt, w3_eq, w3_ix, w3_add, w3_sub, w3_mul, w3_toInt, w3_z, Int.reduceEq, Int.reduceLT, Int.reduceLE, Int.reduceAdd, Int.reduceSub, Int.reduceMul, Int.le_refl, Int.lt_irrefl, not_true_eq_false, not_false_eq_true, true_implies, false_implies, implies_true, and_true, true_and, and_self, ne_eq, Classical.not_not]
      refine ⟨fun h => ?_, fun h => ?_⟩
      · have z := fin M1 (t + 2 + 2 * k) false hF htn hG hw hw1 (fun _ _ => rfl) b3 b5 (by unfold mgF; rw [if_neg n1, if_pos n2])
        simp only [tr2, tr1, bt, if_true, if_false, Bool.false_eq_true, if_pos h] at z
        try rw [← to1, ← tt1] at z
        exact ⟨cI, z⟩
      · have z := fin M1 (t + 2 + 2 * k) false hF htn hG hw hw1 (fun _ _ => rfl) b3 b5 (by unfold mgF; rw [if_neg n1, if_pos n2])
        simp only [tr2, tr1, bt, if_true, if_false, Bool.false_eq_true, if_neg h] at z
        try rw [← to1, ← tt1] at z
        exact ⟨cI, z⟩
    · simp only [jX3_mergeTrees, kX3_mergeTrees_0, kX3_mergeTrees_1, fl_3_61, fl_3_53, fl_3_77, gm, x1, x2, x3, x4, y1, y2, y3, y4, z1, z2, z3, z4, q1, q2, q3, q4, a1, a2, b1, b2, c1, c2, d1, d2, ek, cI, SX4_isThere, SX4_become, fl_th, cn_iconst, cn_lconst0, cn_lconst1, cn_null, cn_iload, cn_aload, cn_lload, cn_lo1, cn_loa1, cn_loa2, cn_lol1, cn_get0, cn_gets, cn_put0, cn_puts, cn_istore, cn_astore, cn_astoreN, cn_lstore, cn_iinc, cn_in1, cn_iadd, cn_isub, cn_imul, cn_iand, cn_ior, cn_ixor, cn_ishl, cn_ishr, cn_iushr, cn_idiv, cn_irem, cn_ladd, cn_lmul, cn_ldiv, cn_lrem, cn_i2l, cn_l2i, cn_i2b, cn_lcmp, cn_dupi, cn_dupr, cn_dup2, cn_popi, cn_popr, cn_goto, cn_if_eq, cn_if_ne, cn_if_lt, cn_if_ge, cn_if_gt, cn_if_le, cn_ic_eq, cn_ic_ne, cn_ic_lt, cn_ic_ge, cn_ic_gt, cn_ic_le, cn_ifnullN, cn_ifnullR, cn_ifnonnullN, cn_ifnonnullR, cn_tswS, cn_tsw0, cn_tsw1, cn_lswS, cn_lsw0, cn_lsw1, cn_alen, cn_iaload, cn_laload, cn_rr1, cn_rr0, cn_aaload, cn_iastore, cn_lastore, cn_aastore, cn_getfield, cn_gf0, cn_gf1, cn_gf2, cn_gf3, cn_putfield, cn_pf0f, cn_pf1f, cn_pf2f, cn_pf3f, cn_pf0t, cn_pf1t, cn_pf2t, cn_pf3t, cn_new, cn_nw1, cn_newi, cn_newl, cn_anew, cn_an1, cn_inv_v, cn_inv_s, cn_inv_p, cn_ca1, cn_cb1, cn_pop0, cn_pops, cn_rk0, cn_rk1, cn_kcn, cn_kcs, cn_ireturn, cn_lreturn, cn_areturn, cn_return, cn_re0, cn_re1, cn_re2, cn_re3, cn_re4, cn_re5, cn_wp0, cn_wps, cn_m0, cn_m1, cn_e0, cn_en, cn_ei, cn_er, cn_eu, cn_el, cn_nl0, cn_nls, cn_nb0, cn_nb1, cn_nb2, cn_nb3, cn_bd0, cn_bds, cn_cwi, cn_cwr, cn_cwl, cn_cwn, cn_wi2, cn_wl1, cn_wl3, cn_wr1, cn_wr2, cn_wi_eq, cn_wl_eq, cb_0, cb_n0, cb_b, cm_okb0, cm_okb1, Classical.not_not, true_and, and_true, Nat.reduceAdd, Nat.reduceSub, Nat.reduceLT, Nat.reduceLeDiff, Int.reduceToNat, Int.reduceNatCast', Nat.zero_le, Nat.reduceEqDiff, false_or, or_false, or_true, true_or, Int.reduceNeg, reduceCtorEq, false_implies, implies_true, forall_const, true_implies, not_true_eq_false, not_false_eq_true, Nat.le_refl, ne_eq, if_true, if_false, ite_true, ite_false, List.cons_append, List.nil_append]
      simp (disch := omega) only [w3_le, w3_lt, w3_eq, w3_ix, w3_add, w3_sub, w3_mul, w3_toInt, w3_z, Int.reduceEq, Int.reduceLT, Int.reduceLE, Int.reduceAdd, Int.reduceSub, Int.reduceMul, Int.le_refl, Int.lt_irrefl, not_true_eq_false, not_false_eq_true, true_implies, false_implies, implies_true, and_true, true_and, and_self, ne_eq, Classical.not_not]
      refine ⟨fun h => ?_, fun h => ?_⟩
      · have z := fin M1 (o + 2 + 2 * k) false hF htn hG hw hw1 (fun _ _ => rfl) a3 a5 (by unfold mgF; rw [if_neg n1, if_neg n2, if_pos n3])
        simp only [tr2, tr1, bt, if_true, if_false, Bool.false_eq_true, if_pos h] at z
        try rw [← to1, ← tt1] at z
        exact ⟨cI, z⟩
      · have z := fin M1 (o + 2 + 2 * k) false hF htn hG hw hw1 (fun _ _ => rfl) a3 a5 (by unfold mgF; rw [if_neg n1, if_neg n2, if_pos n3])
        simp only [tr2, tr1, bt, if_true, if_false, Bool.false_eq_true, if_neg h] at z
        try rw [← to1, ← tt1] at z
        exact ⟨cI, z⟩
    · have hB : mgF tn (fl M1 (o + 2 + 2 * k)) (fl M1 (t + 2 + 2 * k)) (fl M1 (v + 2 + 2 * k)) = mgB tn (fl M1 (o + 2 + 2 * k)) (fl M1 (t + 2 + 2 * k)) (fl M1 (v + 2 + 2 * k)) := by unfold mgF; rw [if_neg n1, if_neg n2, if_neg n3]
      have g8 : M1.2.2 g 8 = some (g + 15) := hG.1.2.1.2.2.2.2.2.2.2
      simp only [jX3_mergeTrees, kX3_mergeTrees_0, kX3_mergeTrees_1, fl_3_61, fl_3_53, fl_3_77, gm, x1, x2, x3, x4, y1, y2, y3, y4, z1, z2, z3, z4, q1, q2, q3, q4, a1, a2, b1, b2, c1, c2, d1, d2, ek, cI, SX4_isThere, SX4_become, fl_th, g8, cn_iconst, cn_lconst0, cn_lconst1, cn_null, cn_iload, cn_aload, cn_lload, cn_lo1, cn_loa1, cn_loa2, cn_lol1, cn_get0, cn_gets, cn_put0, cn_puts, cn_istore, cn_astore, cn_astoreN, cn_lstore, cn_iinc, cn_in1, cn_iadd, cn_isub, cn_imul, cn_iand, cn_ior, cn_ixor, cn_ishl, cn_ishr, cn_iushr, cn_idiv, cn_irem, cn_ladd, cn_lmul, cn_ldiv, cn_lrem, cn_i2l, cn_l2i, cn_i2b, cn_lcmp, cn_dupi, cn_dupr, cn_dup2, cn_popi, cn_popr, cn_goto, cn_if_eq, cn_if_ne, cn_if_lt, cn_if_ge, cn_if_gt, cn_if_le, cn_ic_eq, cn_ic_ne, cn_ic_lt, cn_ic_ge, cn_ic_gt, cn_ic_le, cn_ifnullN, cn_ifnullR, cn_ifnonnullN, cn_ifnonnullR, cn_tswS, cn_tsw0, cn_tsw1, cn_lswS, cn_lsw0, cn_lsw1, cn_alen, cn_iaload, cn_laload, cn_rr1, cn_rr0, cn_aaload, cn_iastore, cn_lastore, cn_aastore, cn_getfield, cn_gf0, cn_gf1, cn_gf2, cn_gf3, cn_putfield, cn_pf0f, cn_pf1f, cn_pf2f, cn_pf3f, cn_pf0t, cn_pf1t, cn_pf2t, cn_pf3t, cn_new, cn_nw1, cn_newi, cn_newl, cn_anew, cn_an1, cn_inv_v, cn_inv_s, cn_inv_p, cn_ca1, cn_cb1, cn_pop0, cn_pops, cn_rk0, cn_rk1, cn_kcn, cn_kcs, cn_ireturn, cn_lreturn, cn_areturn, cn_return, cn_re0, cn_re1, cn_re2, cn_re3, cn_re4, cn_re5, cn_wp0, cn_wps, cn_m0, cn_m1, cn_e0, cn_en, cn_ei, cn_er, cn_eu, cn_el, cn_nl0, cn_nls, cn_nb0, cn_nb1, cn_nb2, cn_nb3, cn_bd0, cn_bds, cn_cwi, cn_cwr, cn_cwl, cn_cwn, cn_wi2, cn_wl1, cn_wl3, cn_wr1, cn_wr2, cn_wi_eq, cn_wl_eq, cb_0, cb_n0, cb_b, cm_okb0, cm_okb1, Classical.not_not, true_and, and_true, Nat.reduceAdd, Nat.reduceSub, Nat.reduceLT, Nat.reduceLeDiff, Int.reduceToNat, Int.reduceNatCast', Nat.zero_le, Nat.reduceEqDiff, false_or, or_false, or_true, true_or, Int.reduceNeg, reduceCtorEq, false_implies, implies_true, forall_const, true_implies, not_true_eq_false, not_false_eq_true, Nat.le_refl, ne_eq, if_true, if_false, ite_true, ite_false, List.cons_append, List.nil_append]
      simp (disch := omega) only [w3_le, w3_lt, w3_eq, w3_ix, w3_add, w3_sub, w3_mul, w3_toInt, w3_z, Int.reduceEq, Int.reduceLT, Int.reduceLE, Int.reduceAdd, Int.reduceSub, Int.reduceMul, Int.le_refl, Int.lt_irrefl, not_true_eq_false, not_false_eq_true, true_implies, false_implies, implies_true, and_true, true_and, and_self, ne_eq, Classical.not_not]
      refine ⟨fun h1 => ⟨cI, fun _ => ⟨cI, fun h => ?_, fun h => ?_⟩, fun h2 => absurd h1 h2⟩, fun h1 => ⟨cI, fun h2 => ⟨cI, fun h => absurd h h1, fun _ => ⟨cI, fun h => ?_, fun h => ?_⟩⟩, fun h2 => ?_⟩⟩
      · have z := fin M1 (t + 2 + 2 * k) true hF htn hG hw hw1 (fun _ _ => rfl) b3 b5 (by rw [hB]; unfold mgB; rw [if_neg (fun q => q.1 h1), if_neg (fun q => q h1)])
        simp only [tr2, tr1, bt, if_true, if_false, Bool.false_eq_true, if_pos h] at z
        try rw [← to1, ← tt1] at z
        exact ⟨cI, z⟩
      · have z := fin M1 (t + 2 + 2 * k) true hF htn hG hw hw1 (fun _ _ => rfl) b3 b5 (by rw [hB]; unfold mgB; rw [if_neg (fun q => q.1 h1), if_neg (fun q => q h1)])
        simp only [tr2, tr1, bt, if_true, if_false, Bool.false_eq_true, if_neg h] at z
        try rw [← to1, ← tt1] at z
        exact ⟨cI, z⟩
      · have z := fin M1 (o + 2 + 2 * k) true hF htn hG hw hw1 (fun _ _ => rfl) a3 a5 (by rw [hB]; unfold mgB; rw [if_neg (fun q => q.2 h2), if_pos h1])
        simp only [tr2, tr1, bt, if_true, if_false, Bool.false_eq_true, if_pos h] at z
        try rw [← to1, ← tt1] at z
        exact ⟨cI, z⟩
      · have z := fin M1 (o + 2 + 2 * k) true hF htn hG hw hw1 (fun _ _ => rfl) a3 a5 (by rw [hB]; unfold mgB; rw [if_neg (fun q => q.2 h2), if_pos h1])
        simp only [tr2, tr1, bt, if_true, if_false, Bool.false_eq_true, if_neg h] at z
        try rw [← to1, ← tt1] at z
        exact ⟨cI, z⟩
      · have hw17 : w + 8 ≤ g ∨ g + 17 ≤ w := ow
        have ho17 : o + 8 ≤ g ∨ g + 17 ≤ o := oo
        have ht17 : t + 8 ≤ g ∨ g + 17 ≤ t := ot
        have hv17 : v + 8 ≤ g ∨ g + 17 ≤ v := ov
        refine ⟨cI, cI, cI, tn, hG, htn, ⟨a3, b3, c3⟩, ⟨a5.2, b5.2, c5.2⟩, ⟨⟨by omega, by rw [a4]; omega⟩, ⟨by omega, by rw [b4]; omega⟩, ⟨by omega, by rw [c4]; omega⟩⟩, ⟨by rw [fo]; exact bo.at k3, by rw [ft]; exact bt0.at k3, by rw [fv]; exact bv.at k3⟩, fun M2 f2 n2 G2 O2 => ?_⟩
        have F2 : FrW M M2 g w := hF.trans f2.w1
        have w2 : TrG T M2 w := f2.trq (by omega) hw
        have l2 : ∀ f, f < 3 → fl M2 (w + 2 + 2 * f) = fl M1 (w + 2 + 2 * f) := fun f hf => f2.flq (by omega) (by rw [(tr_f hw hf).2.2.2.1]; omega)
        have m2 : M2.1 w 1 = M.1 w 1 := by rw [f2.1 w (by omega)]; exact hw1
        have to2 : M2.1 o 1 = (trv M o).1 := by rw [f2.1 o (by omega)]; exact to1
        have tt2 : M2.1 t 1 = (trv M t).1 := by rw [f2.1 t (by omega)]; exact tt1
        have e3 : M2.2 = M1.2 := f2.2
        have u1 := G2.1.2.2.2.2.2.1
        have u2 := G2.1.2.2.2.2.2.2.1
        have u3 := G2.1.2.2.2.2.2.2.2.1
        have u4 := G2.1.2.2.2.2.2.2.2.2
        have hpl : pl M2 (g + 15) = g + 16 := pl_eq u2
        simp only [jX3_mergeTrees, kX3_mergeTrees_0, kX3_mergeTrees_1, fl_3_61, fl_3_53, fl_3_77, gm, x1, x2, x3, x4, y1, y2, y3, y4, z1, z2, z3, z4, q1, q2, q3, q4, a1, a2, b1, b2, c1, c2, d1, d2, ek, cI, SX4_isThere, SX4_become, fl_th, g8, e3, u1, cn_iconst, cn_lconst0, cn_lconst1, cn_null, cn_iload, cn_aload, cn_lload, cn_lo1, cn_loa1, cn_loa2, cn_lol1, cn_get0, cn_gets, cn_put0, cn_puts, cn_istore, cn_astore, cn_astoreN, cn_lstore, cn_iinc, cn_in1, cn_iadd, cn_isub, cn_imul, cn_iand, cn_ior, cn_ixor, cn_ishl, cn_ishr, cn_iushr, cn_idiv, cn_irem, cn_ladd, cn_lmul, cn_ldiv, cn_lrem, cn_i2l, cn_l2i, cn_i2b, cn_lcmp, cn_dupi, cn_dupr, cn_dup2, cn_popi, cn_popr, cn_goto, cn_if_eq, cn_if_ne, cn_if_lt, cn_if_ge, cn_if_gt, cn_if_le, cn_ic_eq, cn_ic_ne, cn_ic_lt, cn_ic_ge, cn_ic_gt, cn_ic_le, cn_ifnullN, cn_ifnullR, cn_ifnonnullN, cn_ifnonnullR, cn_tswS, cn_tsw0, cn_tsw1, cn_lswS, cn_lsw0, cn_lsw1, cn_alen, cn_iaload, cn_laload, cn_rr1, cn_rr0, cn_aaload, cn_iastore, cn_lastore, cn_aastore, cn_getfield, cn_gf0, cn_gf1, cn_gf2, cn_gf3, cn_putfield, cn_pf0f, cn_pf1f, cn_pf2f, cn_pf3f, cn_pf0t, cn_pf1t, cn_pf2t, cn_pf3t, cn_new, cn_nw1, cn_newi, cn_newl, cn_anew, cn_an1, cn_inv_v, cn_inv_s, cn_inv_p, cn_ca1, cn_cb1, cn_pop0, cn_pops, cn_rk0, cn_rk1, cn_kcn, cn_kcs, cn_ireturn, cn_lreturn, cn_areturn, cn_return, cn_re0, cn_re1, cn_re2, cn_re3, cn_re4, cn_re5, cn_wp0, cn_wps, cn_m0, cn_m1, cn_e0, cn_en, cn_ei, cn_er, cn_eu, cn_el, cn_nl0, cn_nls, cn_nb0, cn_nb1, cn_nb2, cn_nb3, cn_bd0, cn_bds, cn_cwi, cn_cwr, cn_cwl, cn_cwn, cn_wi2, cn_wl1, cn_wl3, cn_wr1, cn_wr2, cn_wi_eq, cn_wl_eq, cb_0, cb_n0, cb_b, cm_okb0, cm_okb1, Classical.not_not, true_and, and_true, Nat.reduceAdd, Nat.reduceSub, Nat.reduceLT, Nat.reduceLeDiff, Int.reduceToNat, Int.reduceNatCast', Nat.zero_le, Nat.reduceEqDiff, false_or, or_false, or_true, true_or, Int.reduceNeg, reduceCtorEq, false_implies, implies_true, forall_const, true_implies, not_true_eq_false, not_false_eq_true, Nat.le_refl, ne_eq, if_true, if_false, ite_true, ite_false, List.cons_append, List.nil_append]
        simp (disch := omega) only [w3_le, w3_lt, w3_eq, w3_ix, w3_add, w3_sub, w3_mul, w3_toInt, w3_z, Int.reduceEq, Int.reduceLT, Int.reduceLE, Int.reduceAdd, Int.reduceSub, Int.reduceMul, Int.le_refl, Int.lt_irrefl, not_true_eq_false, not_false_eq_true, true_implies, false_implies, implies_true, and_true, true_and, and_self, ne_eq, Classical.not_not]
        have hB2 : mgB tn (fl M1 (o + 2 + 2 * k)) (fl M1 (t + 2 + 2 * k)) (fl M1 (v + 2 + 2 * k)) = (if (mgL tn (cnt (fl M1 (o + 2 + 2 * k))) (cnt (fl M1 (v + 2 + 2 * k))) (cnt (fl M1 (t + 2 + 2 * k)))).length ≤ 40 then some (false, some (mgL tn (cnt (fl M1 (o + 2 + 2 * k))) (cnt (fl M1 (v + 2 + 2 * k))) (cnt (fl M1 (t + 2 + 2 * k))))) else none) := by
          unfold mgB
          rw [if_pos ⟨h1, h2⟩]
        generalize hLL : mgL tn (cnt (fl M1 (o + 2 + 2 * k))) (cnt (fl M1 (v + 2 + 2 * k))) (cnt (fl M1 (t + 2 + 2 * k))) = LL at hB2 O2 ⊢
        refine ⟨fun h3 => ?_, fun h3 => ?_⟩
        · have hfl : fl M2 (g + 15) = some LL := by
            rcases O2 with ⟨y1, -, y2, y3⟩ | ⟨y1, -, -, -⟩
            · refine flm_mk ?_ (fun j hj => ?_)
              · unfold sz; rw [y2]; exact w3_toInt (by omega) (by omega)
              · rw [hpl, Int.zero_add]; exact y3 j hj
            · omega
          have so : szb M2 (g + 15) := ⟨G2.2.2.1, G2.2.2.2⟩
          have sg : Sg T M2 (g + 15) := ⟨u1, by rw [hpl]; exact u2, by rw [hpl]; exact u3, so.1, by rw [hpl, u4]; exact so.2, by rw [hpl, u4]; decide⟩
          refine ⟨fun h => (by rw [hfl] at h; cases h), fun h => ?_⟩
          have z := fin M2 (g + 15) false F2 n2 G2 w2 m2 l2 sg so (by rw [hB, hB2, if_pos h3, hfl])
          simp only [tr2, tr1, bt, if_true, if_false, Bool.false_eq_true, if_neg h] at z
          rw [← to2, ← tt2] at z
          exact ⟨cI, z⟩
        · have hN : mgT tn (trv M o) (trv M t) (trv M v) = none := mgT_none k3 (by rw [pk_tr k3, pk_tr k3, pk_tr k3, ← fo, ← ft, ← fv, hB, hB2, if_neg h3])
          have hh := hS M2 F2 n2 G2 w2 (fun X hX => by rw [hN] at hX; cases hX)
          rw [cb_f (by rw [hN]; simp)] at hh
          exact hh
set_option maxHeartbeats 4000000 in
theorem mX3_mergeTrees (d : Nat) (hd : 4 ≤ d) : cm_Met d yX3_mergeTrees cX3_mergeTrees 8 (some .boolean) 0 0 SX3_mergeTrees := by
  refine cm_meets (J := JX3_mergeTrees) (by decide) rfl (fun h => by cases h) trivial ?_
  intro as T M Φ hS
  match as, hS with
  | [.ref g, .ref o, .ref t, .ref v, .ref w], ⟨tn, hG, htn, ⟨ho, ht, hv, hw⟩, ⟨oo, ot, ov, ow⟩, ⟨wo, wt, wv⟩, ⟨bo, bt0, bv⟩, hS⟩ =>
    refine ⟨Nat.le_of_ble_eq_true rfl, ?_⟩
    refine cm_go hX3_mergeTrees 200 oX3_mergeTrees (eX3_mergeTrees d hd) lX3_mergeTrees_0 ?_
    simp only [jX3_mergeTrees, kX3_mergeTrees_0, kX3_mergeTrees_1, fl_3_61, fl_3_53, fl_3_77, cn_iconst, cn_lconst0, cn_lconst1, cn_null, cn_iload, cn_aload, cn_lload, cn_lo1, cn_loa1, cn_loa2, cn_lol1, cn_get0, cn_gets, cn_put0, cn_puts, cn_istore, cn_astore, cn_astoreN, cn_lstore, cn_iinc, cn_in1, cn_iadd, cn_isub, cn_imul, cn_iand, cn_ior, cn_ixor, cn_ishl, cn_ishr, cn_iushr, cn_idiv, cn_irem, cn_ladd, cn_lmul, cn_ldiv, cn_lrem, cn_i2l, cn_l2i, cn_i2b, cn_lcmp, cn_dupi, cn_dupr, cn_dup2, cn_popi, cn_popr, cn_goto, cn_if_eq, cn_if_ne, cn_if_lt, cn_if_ge, cn_if_gt, cn_if_le, cn_ic_eq, cn_ic_ne, cn_ic_lt, cn_ic_ge, cn_ic_gt, cn_ic_le, cn_ifnullN, cn_ifnullR, cn_ifnonnullN, cn_ifnonnullR, cn_tswS, cn_tsw0, cn_tsw1, cn_lswS, cn_lsw0, cn_lsw1, cn_alen, cn_iaload, cn_laload, cn_rr1, cn_rr0, cn_aaload, cn_iastore, cn_lastore, cn_aastore, cn_getfield, cn_gf0, cn_gf1, cn_gf2, cn_gf3, cn_putfield, cn_pf0f, cn_pf1f, cn_pf2f, cn_pf3f, cn_pf0t, cn_pf1t, cn_pf2t, cn_pf3t, cn_new, cn_nw1, cn_newi, cn_newl, cn_anew, cn_an1, cn_inv_v, cn_inv_s, cn_inv_p, cn_ca1, cn_cb1, cn_pop0, cn_pops, cn_rk0, cn_rk1, cn_kcn, cn_kcs, cn_ireturn, cn_lreturn, cn_areturn, cn_return, cn_re0, cn_re1, cn_re2, cn_re3, cn_re4, cn_re5, cn_wp0, cn_wps, cn_m0, cn_m1, cn_e0, cn_en, cn_ei, cn_er, cn_eu, cn_el, cn_nl0, cn_nls, cn_nb0, cn_nb1, cn_nb2, cn_nb3, cn_bd0, cn_bds, cn_cwi, cn_cwr, cn_cwl, cn_cwn, cn_wi2, cn_wl1, cn_wl3, cn_wr1, cn_wr2, cn_wi_eq, cn_wl_eq, cb_0, cb_n0, cb_b, cm_okb0, cm_okb1, Classical.not_not, true_and, and_true, Nat.reduceAdd, Nat.reduceSub, Nat.reduceLT, Nat.reduceLeDiff, Int.reduceToNat, Int.reduceNatCast', Nat.zero_le, Nat.reduceEqDiff, false_or, or_false, or_true, true_or, Int.reduceNeg, reduceCtorEq, false_implies, implies_true, forall_const, true_implies, not_true_eq_false, not_false_eq_true, Nat.le_refl, ne_eq, if_true, if_false, ite_true, ite_false, List.cons_append, List.nil_append]
    exact lX3_mergeTrees d hd ho ht hv oo ot ov ow wo wt wv bo bt0 bv hS 3 0 M none rfl FrW.rf htn hG hw rfl (fun _ _ _ => rfl) (fun f hf => absurd hf (by omega))

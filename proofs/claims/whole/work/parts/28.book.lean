/-- a book: how many versions; each: its tree, its parents -/
abbrev Bk : Type := Nat × (Nat → Tv × Int × Int)
def bkr0 : Tv × Int × Int := ((w3 0, none, none, none), -9, -9)
def bsz (M : cm_M) (β : Nat) : Int := (M.1 β 0).toInt
/-- what the book at β holds -/
noncomputable def bkv (M : cm_M) (β : Nat) : Bk := ((bsz M β).toNat, fun v => if v < (bsz M β).toNat then (trv M (β + 6 + 8 * v), (M.1 (β + 2) (v : Int)).toInt, (M.1 (β + 3) (v : Int)).toInt) else bkr0)
noncomputable def bAdd (B : Bk) (x : Tv × Int × Int) : Bk := (B.1 + 1, fun v => if v = B.1 then x else B.2 v)
def TBk (T : cm_T) (R : Nat → Int → Option Nat) (β : Nat) : Prop := T.1 β = 1 ∧ (R β 1 = some (β + 1) ∧ R β 2 = some (β + 2) ∧ R β 3 = some (β + 3) ∧ R β 4 = some (β + 4) ∧ R β 5 = some (β + 5)) ∧ (T.1 (β + 1) = 27 ∧ T.1 (β + 2) = 20 ∧ T.1 (β + 3) = 20 ∧ T.1 (β + 4) = 20 ∧ T.1 (β + 5) = 21) ∧ (T.2.1 (β + 1) = 16 ∧ T.2.1 (β + 2) = 16 ∧ T.2.1 (β + 3) = 16 ∧ T.2.1 (β + 4) = 16 ∧ T.2.1 (β + 5) = 16) ∧ ∀ v : Nat, v < 16 → R (β + 1) (v : Int) = some (β + 6 + 8 * v)
/-- a tree's value that is well -/
def TvG (x : Tv) : Prop := (Bal (cnt x.2.1) ∧ Bal (cnt x.2.2.1) ∧ Bal (cnt x.2.2.2)) ∧ 0 ≤ x.1.toInt ∧ x.1.toInt < 8
/-- parents that may be -/
def WP (v : Nat) (f s : Int) : Prop := (v = 0 → f = -9 ∧ s = -9) ∧ (v ≠ 0 → 0 ≤ f ∧ f < (v : Int) ∧ (s = -9 ∨ (0 ≤ s ∧ s < (v : Int))))
def WB (B : Bk) : Prop := B.1 ≤ 16 ∧ (∀ v, v < B.1 → TvG (B.2 v).1 ∧ WP v (B.2 v).2.1 (B.2 v).2.2) ∧ ∀ v, B.1 ≤ v → B.2 v = bkr0
/-- the ancestors, as bits -/
noncomputable def anc (B : Bk) (v : Nat) : Int32 :=
  bt v ||| (if h : 0 ≤ (B.2 v).2.1 ∧ (B.2 v).2.1 < (v : Int) then anc B (B.2 v).2.1.toNat else w3 0) ||| (if h : 0 ≤ (B.2 v).2.2 ∧ (B.2 v).2.2 < (v : Int) then anc B (B.2 v).2.2.toNat else w3 0)
termination_by v
decreasing_by all_goals omega
def BkG (T : cm_T) (M : cm_M) (β : Nat) : Prop := TBk T M.2.2 β ∧ 0 ≤ bsz M β ∧ (∀ v, v < 16 → TrG T M (β + 6 + 8 * v)) ∧ WB (bkv M β) ∧ ∀ v, v < (bkv M β).1 → M.1 (β + 4) (v : Int) = anc (bkv M β) v
def hs (B : Bk) (v : Int) : Prop := 0 ≤ v ∧ v < (B.1 : Int)
theorem BkG.n {T : cm_T} {M : cm_M} {β : Nat} (h : BkG T M β) : bsz M β = ((bkv M β).1 : Int) ∧ (bkv M β).1 ≤ 16 := ⟨(Int.toNat_of_nonneg h.2.1).symm, h.2.2.2.1.1⟩
noncomputable def ancOf (B : Bk) (v : Nat) (f : Int) : Int32 := if 0 ≤ f ∧ f < (v : Int) then anc B f.toNat else w3 0
theorem anc_eq (B : Bk) (v : Nat) : anc B v = bt v ||| ancOf B v (B.2 v).2.1 ||| ancOf B v (B.2 v).2.2 := by
  conv => lhs; rw [anc]
  rfl
theorem anc_cong {B C : Bk} : ∀ (v : Nat), (∀ u, u ≤ v → (B.2 u).2 = (C.2 u).2) → anc B v = anc C v := by
  intro v
  induction v using Nat.strongRecOn with
  | _ v ih =>
    intro h
    have key : ∀ f : Int, ancOf B v f = ancOf C v f := by
      intro f
      unfold ancOf
      by_cases q : 0 ≤ f ∧ f < (v : Int)
      · rw [if_pos q, if_pos q]
        exact ih _ (by omega) (fun u hu => h u (by omega))
      · rw [if_neg q, if_neg q]
    rw [anc_eq B v, anc_eq C v, h v (Nat.le_refl _), key, key]
theorem TBk.sq {T : cm_T} {R : Nat → Int → Option Nat} {β : Nat} (h : TBk T R β) : T.1 β = 1 := h.1
def SX0_has : cm_CT := fun as T M Φ => match as with
  | [.ref β, .int v] => T.1 β = 1 ∧ Φ (some (.int (cb (0 ≤ v.toInt ∧ v.toInt < bsz M β)))) T M
  | _ => False
def JX0_has : cm_J := (0, false, 2, [], [], [])
theorem jX0_has : JX0_has.1 = 0 ∧ JX0_has.2.1 = false ∧ JX0_has.2.2.1 = 2 := ⟨rfl, rfl, rfl⟩
theorem eX0_has (d : Nat) (hd : 0 ≤ d) : cm_Cok d JX0_has := ⟨(fun q h => by cases h), (fun q h => by cases h), (fun q h => by cases h)⟩
set_option maxHeartbeats 4000000 in
theorem mX0_has (d : Nat) (hd : 0 ≤ d) : cm_Met d yX0_has cX0_has 2 (some .boolean) 0 0 SX0_has := by
  refine cm_meets (J := JX0_has) (by decide) rfl (fun h => by cases h) trivial ?_
  intro as T M Φ hS
  match as, hS with
  | [.ref β, .int v], ⟨h1, hS⟩ =>
    refine ⟨Nat.le_of_ble_eq_true rfl, ?_⟩
    refine cm_go hX0_has 200 oX0_has (eX0_has d hd) lX0_has_0 ?_
    simp only [jX0_has, kX0_has_0, fl_0_9, h1, cn_iconst, cn_lconst0, cn_lconst1, cn_null, cn_iload, cn_aload, cn_lload, cn_lo1, cn_loa1, cn_loa2, cn_lol1, cn_get0, cn_gets, cn_put0, cn_puts, cn_istore, cn_astore, cn_astoreN, cn_lstore, cn_iinc, cn_in1, cn_iadd, cn_isub, cn_imul, cn_iand, cn_ior, cn_ixor, cn_ishl, cn_ishr, cn_iushr, cn_idiv, cn_irem, cn_ladd, cn_lmul, cn_ldiv, cn_lrem, cn_i2l, cn_l2i, cn_i2b, cn_lcmp, cn_dupi, cn_dupr, cn_dup2, cn_popi, cn_popr, cn_goto, cn_if_eq, cn_if_ne, cn_if_lt, cn_if_ge, cn_if_gt, cn_if_le, cn_ic_eq, cn_ic_ne, cn_ic_lt, cn_ic_ge, cn_ic_gt, cn_ic_le, cn_ifnullN, cn_ifnullR, cn_ifnonnullN, cn_ifnonnullR, cn_tswS, cn_tsw0, cn_tsw1, cn_lswS, cn_lsw0, cn_lsw1, cn_alen, cn_iaload, cn_laload, cn_rr1, cn_rr0, cn_aaload, cn_iastore, cn_lastore, cn_aastore, cn_getfield, cn_gf0, cn_gf1, cn_gf2, cn_gf3, cn_putfield, cn_pf0f, cn_pf1f, cn_pf2f, cn_pf3f, cn_pf0t, cn_pf1t, cn_pf2t, cn_pf3t, cn_new, cn_nw1, cn_newi, cn_newl, cn_anew, cn_an1, cn_inv_v, cn_inv_s, cn_inv_p, cn_ca1, cn_cb1, cn_pop0, cn_pops, cn_rk0, cn_rk1, cn_kcn, cn_kcs, cn_ireturn, cn_lreturn, cn_areturn, cn_return, cn_re0, cn_re1, cn_re2, cn_re3, cn_re4, cn_re5, cn_wp0, cn_wps, cn_m0, cn_m1, cn_e0, cn_en, cn_ei, cn_er, cn_eu, cn_el, cn_nl0, cn_nls, cn_nb0, cn_nb1, cn_nb2, cn_nb3, cn_bd0, cn_bds, cn_cwi, cn_cwr, cn_cwl, cn_cwn, cn_wi2, cn_wl1, cn_wl3, cn_wr1, cn_wr2, cn_wi_eq, cn_wl_eq, cb_0, cb_n0, cb_b, cm_okb0, cm_okb1, Classical.not_not, true_and, and_true, Nat.reduceAdd, Nat.reduceSub, Nat.reduceLT, Nat.reduceLeDiff, Int.reduceToNat, Int.reduceNatCast', Nat.zero_le, Nat.reduceEqDiff, false_or, or_false, or_true, true_or, Int.reduceNeg, reduceCtorEq, false_implies, implies_true, forall_const, true_implies, not_true_eq_false, not_false_eq_true, Nat.le_refl, ne_eq, if_true, if_false, ite_true, ite_false, List.cons_append, List.nil_append]
    simp only [i3_lt, i3_le, i3_z]
    unfold bsz at hS
    refine ⟨fun h => ?_, fun h => ⟨fun h2 => ?_, fun h2 => ?_⟩⟩
    · rw [cb_f (by omega)] at hS; exact hS
    · rw [cb_f (by omega)] at hS; exact hS
    · rw [cb_t (by omega)] at hS; exact hS
def SX0_isFull : cm_CT := fun as T M Φ => match as with
  | [.ref β] => T.1 β = 1 ∧ Φ (some (.int (cb (16 ≤ bsz M β)))) T M
  | _ => False
def JX0_isFull : cm_J := (0, false, 2, [], [], [])
theorem jX0_isFull : JX0_isFull.1 = 0 ∧ JX0_isFull.2.1 = false ∧ JX0_isFull.2.2.1 = 2 := ⟨rfl, rfl, rfl⟩
theorem eX0_isFull (d : Nat) (hd : 0 ≤ d) : cm_Cok d JX0_isFull := ⟨(fun q h => by cases h), (fun q h => by cases h), (fun q h => by cases h)⟩
set_option maxHeartbeats 4000000 in
theorem mX0_isFull (d : Nat) (hd : 0 ≤ d) : cm_Met d yX0_isFull cX0_isFull 1 (some .boolean) 0 0 SX0_isFull := by
  refine cm_meets (J := JX0_isFull) (by decide) rfl (fun h => by cases h) trivial ?_
  intro as T M Φ hS
  match as, hS with
  | [.ref β], ⟨h1, hS⟩ =>
    refine ⟨Nat.le_of_ble_eq_true rfl, ?_⟩
    refine cm_go hX0_isFull 200 oX0_isFull (eX0_isFull d hd) lX0_isFull_0 ?_
    simp only [jX0_isFull, kX0_isFull_0, fl_0_9, h1, cn_iconst, cn_lconst0, cn_lconst1, cn_null, cn_iload, cn_aload, cn_lload, cn_lo1, cn_loa1, cn_loa2, cn_lol1, cn_get0, cn_gets, cn_put0, cn_puts, cn_istore, cn_astore, cn_astoreN, cn_lstore, cn_iinc, cn_in1, cn_iadd, cn_isub, cn_imul, cn_iand, cn_ior, cn_ixor, cn_ishl, cn_ishr, cn_iushr, cn_idiv, cn_irem, cn_ladd, cn_lmul, cn_ldiv, cn_lrem, cn_i2l, cn_l2i, cn_i2b, cn_lcmp, cn_dupi, cn_dupr, cn_dup2, cn_popi, cn_popr, cn_goto, cn_if_eq, cn_if_ne, cn_if_lt, cn_if_ge, cn_if_gt, cn_if_le, cn_ic_eq, cn_ic_ne, cn_ic_lt, cn_ic_ge, cn_ic_gt, cn_ic_le, cn_ifnullN, cn_ifnullR, cn_ifnonnullN, cn_ifnonnullR, cn_tswS, cn_tsw0, cn_tsw1, cn_lswS, cn_lsw0, cn_lsw1, cn_alen, cn_iaload, cn_laload, cn_rr1, cn_rr0, cn_aaload, cn_iastore, cn_lastore, cn_aastore, cn_getfield, cn_gf0, cn_gf1, cn_gf2, cn_gf3, cn_putfield, cn_pf0f, cn_pf1f, cn_pf2f, cn_pf3f, cn_pf0t, cn_pf1t, cn_pf2t, cn_pf3t, cn_new, cn_nw1, cn_newi, cn_newl, cn_anew, cn_an1, cn_inv_v, cn_inv_s, cn_inv_p, cn_ca1, cn_cb1, cn_pop0, cn_pops, cn_rk0, cn_rk1, cn_kcn, cn_kcs, cn_ireturn, cn_lreturn, cn_areturn, cn_return, cn_re0, cn_re1, cn_re2, cn_re3, cn_re4, cn_re5, cn_wp0, cn_wps, cn_m0, cn_m1, cn_e0, cn_en, cn_ei, cn_er, cn_eu, cn_el, cn_nl0, cn_nls, cn_nb0, cn_nb1, cn_nb2, cn_nb3, cn_bd0, cn_bds, cn_cwi, cn_cwr, cn_cwl, cn_cwn, cn_wi2, cn_wl1, cn_wl3, cn_wr1, cn_wr2, cn_wi_eq, cn_wl_eq, cb_0, cb_n0, cb_b, cm_okb0, cm_okb1, Classical.not_not, true_and, and_true, Nat.reduceAdd, Nat.reduceSub, Nat.reduceLT, Nat.reduceLeDiff, Int.reduceToNat, Int.reduceNatCast', Nat.zero_le, Nat.reduceEqDiff, false_or, or_false, or_true, true_or, Int.reduceNeg, reduceCtorEq, false_implies, implies_true, forall_const, true_implies, not_true_eq_false, not_false_eq_true, Nat.le_refl, ne_eq, if_true, if_false, ite_true, ite_false, List.cons_append, List.nil_append]
    have e : (w3 16).toInt = 16 := by decide
    simp only [i3_lt, e]
    unfold bsz at hS
    refine ⟨fun h => ?_, fun h => ?_⟩
    · rw [cb_f (by omega)] at hS; exact hS
    · rw [cb_t (by omega)] at hS; exact hS
def SX0_ancestorsOf : cm_CT := fun as T M Φ => match as with
  | [.ref β, .int v] => (T.1 β = 1 ∧ M.2.2 β 4 = some (β + 4) ∧ T.1 (β + 4) = 20 ∧ T.2.1 (β + 4) = 16) ∧ bsz M β ≤ 16 ∧ Φ (some (.int (if 0 ≤ v.toInt ∧ v.toInt < bsz M β then M.1 (β + 4) v.toInt else w3 0))) T M
  | _ => False
def JX0_ancestorsOf : cm_J := (0, false, 1, [(48, 2, 1, 0, 0, SX0_has)], [], [])
theorem jX0_ancestorsOf : JX0_ancestorsOf.1 = 0 ∧ JX0_ancestorsOf.2.1 = false ∧ JX0_ancestorsOf.2.2.1 = 1 ∧ cm_gv JX0_ancestorsOf 48 = some (2, 1, 0, 0, SX0_has) := ⟨rfl, rfl, rfl, rfl⟩
theorem eX0_ancestorsOf (d : Nat) (hd : 1 ≤ d) : cm_Cok d JX0_ancestorsOf := ⟨(List.forall_mem_cons.mpr ⟨q0_48 (mX0_has (d - 1) (by omega)) (by omega), (fun q h => by cases h)⟩), (fun q h => by cases h), (fun q h => by cases h)⟩
set_option maxHeartbeats 4000000 in
theorem mX0_ancestorsOf (d : Nat) (hd : 1 ≤ d) : cm_Met d yX0_ancestorsOf cX0_ancestorsOf 2 (some .int) 0 0 SX0_ancestorsOf := by
  refine cm_meets (J := JX0_ancestorsOf) (by decide) rfl (fun h => by cases h) trivial ?_
  intro as T M Φ hS
  match as, hS with
  | [.ref β, .int v], ⟨⟨h1, h2, h3, h4⟩, hb, hS⟩ =>
    refine ⟨Nat.le_of_ble_eq_true rfl, ?_⟩
    refine cm_go hX0_ancestorsOf 200 oX0_ancestorsOf (eX0_ancestorsOf d hd) lX0_ancestorsOf_0 ?_
    simp only [jX0_ancestorsOf, kX0_ancestorsOf_0, fl_0_28, SX0_has, h1, h2, h3, h4, cn_iconst, cn_lconst0, cn_lconst1, cn_null, cn_iload, cn_aload, cn_lload, cn_lo1, cn_loa1, cn_loa2, cn_lol1, cn_get0, cn_gets, cn_put0, cn_puts, cn_istore, cn_astore, cn_astoreN, cn_lstore, cn_iinc, cn_in1, cn_iadd, cn_isub, cn_imul, cn_iand, cn_ior, cn_ixor, cn_ishl, cn_ishr, cn_iushr, cn_idiv, cn_irem, cn_ladd, cn_lmul, cn_ldiv, cn_lrem, cn_i2l, cn_l2i, cn_i2b, cn_lcmp, cn_dupi, cn_dupr, cn_dup2, cn_popi, cn_popr, cn_goto, cn_if_eq, cn_if_ne, cn_if_lt, cn_if_ge, cn_if_gt, cn_if_le, cn_ic_eq, cn_ic_ne, cn_ic_lt, cn_ic_ge, cn_ic_gt, cn_ic_le, cn_ifnullN, cn_ifnullR, cn_ifnonnullN, cn_ifnonnullR, cn_tswS, cn_tsw0, cn_tsw1, cn_lswS, cn_lsw0, cn_lsw1, cn_alen, cn_iaload, cn_laload, cn_rr1, cn_rr0, cn_aaload, cn_iastore, cn_lastore, cn_aastore, cn_getfield, cn_gf0, cn_gf1, cn_gf2, cn_gf3, cn_putfield, cn_pf0f, cn_pf1f, cn_pf2f, cn_pf3f, cn_pf0t, cn_pf1t, cn_pf2t, cn_pf3t, cn_new, cn_nw1, cn_newi, cn_newl, cn_anew, cn_an1, cn_inv_v, cn_inv_s, cn_inv_p, cn_ca1, cn_cb1, cn_pop0, cn_pops, cn_rk0, cn_rk1, cn_kcn, cn_kcs, cn_ireturn, cn_lreturn, cn_areturn, cn_return, cn_re0, cn_re1, cn_re2, cn_re3, cn_re4, cn_re5, cn_wp0, cn_wps, cn_m0, cn_m1, cn_e0, cn_en, cn_ei, cn_er, cn_eu, cn_el, cn_nl0, cn_nls, cn_nb0, cn_nb1, cn_nb2, cn_nb3, cn_bd0, cn_bds, cn_cwi, cn_cwr, cn_cwl, cn_cwn, cn_wi2, cn_wl1, cn_wl3, cn_wr1, cn_wr2, cn_wi_eq, cn_wl_eq, cb_0, cb_n0, cb_b, cm_okb0, cm_okb1, Classical.not_not, true_and, and_true, Nat.reduceAdd, Nat.reduceSub, Nat.reduceLT, Nat.reduceLeDiff, Int.reduceToNat, Int.reduceNatCast', Nat.zero_le, Nat.reduceEqDiff, false_or, or_false, or_true, true_or, Int.reduceNeg, reduceCtorEq, false_implies, implies_true, forall_const, true_implies, not_true_eq_false, not_false_eq_true, Nat.le_refl, ne_eq, if_true, if_false, ite_true, ite_false, List.cons_append, List.nil_append]
    have hb : bsz M β ≤ 16 := hb
    refine ⟨fun h => ?_, fun h => ⟨?_, ?_⟩⟩
    · rw [if_neg h] at hS; exact hS
    · show 0 ≤ v.toInt ∧ v.toInt < ((16 : Nat) : Int)
      omega
    · rw [if_pos h] at hS; exact hS
def dja (t β n : Nat) : Prop := (t + 8 ≤ β ∨ β + 6 ≤ t) ∧ dj (β + 6 + 8 * n) t
theorem bkv_lt {M : cm_M} {β v : Nat} (h : v < (bkv M β).1) : (bkv M β).2 v = (trv M (β + 6 + 8 * v), (M.1 (β + 2) (v : Int)).toInt, (M.1 (β + 3) (v : Int)).toInt) := if_pos h
theorem bkv_ge {M : cm_M} {β v : Nat} (h : ¬ v < (bkv M β).1) : (bkv M β).2 v = bkr0 := if_neg h
theorem bkv_eq {M : cm_M} {β : Nat} {B : Bk} (h1 : bsz M β = (B.1 : Int)) (h2 : ∀ v, v < B.1 → B.2 v = (trv M (β + 6 + 8 * v), (M.1 (β + 2) (v : Int)).toInt, (M.1 (β + 3) (v : Int)).toInt)) (h3 : ∀ v, B.1 ≤ v → B.2 v = bkr0) : bkv M β = B := by
  have e : (bsz M β).toNat = B.1 := by omega
  refine Prod.ext e (funext fun v => ?_)
  by_cases q : v < B.1
  · rw [bkv_lt (by show v < (bsz M β).toNat; omega), h2 v q]
  · rw [bkv_ge (by show ¬ v < (bsz M β).toNat; omega), h3 v (by omega)]
theorem i3_of {x : Int32} {z : Int} (h : x.toInt = z) : x = w3 z := by rw [← h]; exact (w3_self x).symm
theorem bsz_wi {M : cm_M} {a β : Nat} {k : Int} {v : Int32} (h : β ≠ a) : bsz (cm_wi M a k v) β = bsz M β := by unfold bsz; rw [cn_wi_ne (Or.inl h)]
/-- a version is added -/
theorem bk_add {T : cm_T} {M M1 M2 : cm_M} {β t n : Nat} {f s x : Int32} (hG : BkG T M β) (hnn : (bkv M β).1 = n) (h16 : n < 16) (hv : TvG (trv M t)) (hp : WP n f.toInt s.toInt) (F1 : Fr M M1 (β + 6 + 8 * n) 8) (T1 : TrG T M1 (β + 6 + 8 * n)) (v1 : trv M1 (β + 6 + 8 * n) = trv M t)
    (hx : x = bt n ||| (if 0 ≤ f.toInt ∧ f.toInt < (n : Int) then M.1 (β + 4) f.toInt else w3 0) ||| (if 0 ≤ s.toInt ∧ s.toInt < (n : Int) then M.1 (β + 4) s.toInt else w3 0))
    (hM2 : M2 = cm_wi (cm_wi (cm_wi (cm_wi M1 (β + 2) (n : Int) f) (β + 3) (n : Int) s) (β + 4) (n : Int) x) β 0 (w3 ((n : Int) + 1))) : Fr M M2 β 134 ∧ BkG T M2 β ∧ bkv M2 β = bAdd (bkv M β) (trv M t, f.toInt, s.toInt) := by
  obtain ⟨hK, hz, hT, hW, hA⟩ := id hG
  have F2 : Fr M1 M2 β 6 := by
    rw [hM2]
    exact (((Fr.wi (by omega) (by omega)).trans (Fr.wi (by omega) (by omega))).trans (Fr.wi (by omega) (by omega))).trans (Fr.wi (by omega) (by omega))
  have F : Fr M M2 β 134 := (F1.wide (by omega) (by omega)).trans (F2.wide (by omega) (by omega))
  have m0 : M2.1 β 0 = w3 ((n : Int) + 1) := by rw [hM2]; exact cn_wi_eq
  have m2 : ∀ v : Nat, M2.1 (β + 2) (v : Int) = if v = n then f else M.1 (β + 2) (v : Int) := by
    intro v
    rw [hM2, cn_wi_ne (Or.inl (by omega)), cn_wi_ne (Or.inl (by omega)), cn_wi_ne (Or.inl (by omega))]
    by_cases q : v = n
    · rw [q, if_pos rfl]; exact cn_wi_eq
    · rw [if_neg q, cn_wi_ne (Or.inr (by omega)), F1.1 _ (by omega)]
  have m3 : ∀ v : Nat, M2.1 (β + 3) (v : Int) = if v = n then s else M.1 (β + 3) (v : Int) := by
    intro v
    rw [hM2, cn_wi_ne (Or.inl (by omega)), cn_wi_ne (Or.inl (by omega))]
    by_cases q : v = n
    · rw [q, if_pos rfl]; exact cn_wi_eq
    · rw [if_neg q, cn_wi_ne (Or.inr (by omega)), cn_wi_ne (Or.inl (by omega)), F1.1 _ (by omega)]
  have m4 : ∀ v : Nat, M2.1 (β + 4) (v : Int) = if v = n then x else M.1 (β + 4) (v : Int) := by
    intro v
    rw [hM2, cn_wi_ne (Or.inl (by omega))]
    by_cases q : v = n
    · rw [q, if_pos rfl]; exact cn_wi_eq
    · rw [if_neg q, cn_wi_ne (Or.inr (by omega)), cn_wi_ne (Or.inl (by omega)), cn_wi_ne (Or.inl (by omega)), F1.1 _ (by omega)]
  have tv : ∀ v : Nat, v < 16 → TrG T M2 (β + 6 + 8 * v) ∧ trv M2 (β + 6 + 8 * v) = if v = n then trv M t else trv M (β + 6 + 8 * v) := by
    intro v hv
    by_cases q : v = n
    · rw [q, if_pos rfl]
      exact ⟨F2.trq (by omega) T1, (F2.tvq (by omega) T1).trans v1⟩
    · rw [if_neg q]
      have := F1.trq (by omega) (hT v hv)
      exact ⟨F2.trq (by omega) this, (F2.tvq (by omega) this).trans (F1.tvq (by omega) (hT v hv))⟩
  have hb : bkv M2 β = bAdd (bkv M β) (trv M t, f.toInt, s.toInt) := by
    refine bkv_eq ?_ ?_ ?_
    · unfold bsz
      rw [m0, w3_toInt (by omega) (by omega)]
      show (n : Int) + 1 = (((bkv M β).1 + 1 : Nat) : Int)
      omega
    · intro v hv
      have hv2 : v < (bkv M β).1 + 1 := hv
      rw [m2 v, m3 v, (tv v (by omega)).2]
      show (if v = (bkv M β).1 then (trv M t, f.toInt, s.toInt) else (bkv M β).2 v) = _
      rw [hnn]
      by_cases q : v = n
      · rw [if_pos q, if_pos q, if_pos q, if_pos q]
      · rw [if_neg q, if_neg q, if_neg q, if_neg q, bkv_lt (by omega)]
    · intro v hv
      have hv2 : (bkv M β).1 + 1 ≤ v := hv
      show (if v = (bkv M β).1 then (trv M t, f.toInt, s.toInt) else (bkv M β).2 v) = _
      rw [if_neg (by omega), bkv_ge (by omega)]
  have row : ∀ v, v ≠ n → (bAdd (bkv M β) (trv M t, f.toInt, s.toInt)).2 v = (bkv M β).2 v := fun v h => by
    show (if v = (bkv M β).1 then (trv M t, f.toInt, s.toInt) else (bkv M β).2 v) = _
    rw [if_neg (by omega)]
  have rown : (bAdd (bkv M β) (trv M t, f.toInt, s.toInt)).2 n = (trv M t, f.toInt, s.toInt) := by
    show (if n = (bkv M β).1 then (trv M t, f.toInt, s.toInt) else (bkv M β).2 n) = _
    rw [if_pos (by omega)]
  refine ⟨F, ⟨by rw [F.2]; exact hK, ?_, fun v hv => (tv v hv).1, ?_, ?_⟩, hb⟩
  · unfold bsz; rw [m0, w3_toInt (by omega) (by omega)]; omega
  · rw [hb]
    refine ⟨by show (bkv M β).1 + 1 ≤ 16; omega, fun v hv' => ?_, fun v hv' => ?_⟩
    · have hv2 : v < (bkv M β).1 + 1 := hv'
      by_cases q : v = n
      · rw [q, rown]; exact ⟨hv, hp⟩
      · rw [row v q]; exact hW.2.1 v (by omega)
    · have hv2 : (bkv M β).1 + 1 ≤ v := hv'
      rw [row v (by omega)]; exact hW.2.2 v (by omega)
  · rw [hb]
    intro v hv'
    have hv2 : v < (bkv M β).1 + 1 := hv'
    rw [m4 v]
    by_cases q : v = n
    · rw [if_pos q, q, anc_eq, rown, hx]
      have key : ∀ g : Int32, (if 0 ≤ g.toInt ∧ g.toInt < (n : Int) then M.1 (β + 4) g.toInt else w3 0) = ancOf (bAdd (bkv M β) (trv M t, f.toInt, s.toInt)) n g.toInt := by
        intro g
        unfold ancOf
        by_cases q2 : 0 ≤ g.toInt ∧ g.toInt < (n : Int)
        · rw [if_pos q2, if_pos q2]
          have e : M.1 (β + 4) ((g.toInt.toNat : Nat) : Int) = anc (bkv M β) g.toInt.toNat := hA _ (by omega)
          rw [Int.toNat_of_nonneg q2.1] at e
          rw [e]
          exact anc_cong _ (fun u hu => by rw [row u (by omega)])
        · rw [if_neg q2, if_neg q2]
      rw [key, key]
    · rw [if_neg q, hA v (by omega)]
      exact anc_cong _ (fun u hu => by rw [row u (by omega)])
def SX0_add : cm_CT := fun as T M Φ => match as with
  | [.ref β, .ref t, .int f, .int s] => BkG T M β ∧ (16 ≤ (bkv M β).1 → Φ (some (.int (w3 (-2)))) T M) ∧ ((bkv M β).1 < 16 → TrG T M t ∧ dja t β (bkv M β).1 ∧ TvG (trv M t) ∧ WP (bkv M β).1 f.toInt s.toInt ∧ ∀ M1, Fr M M1 β 134 → BkG T M1 β → bkv M1 β = bAdd (bkv M β) (trv M t, f.toInt, s.toInt) → Φ (some (.int (w3 ((bkv M β).1 : Int)))) T M1)
  | _ => False
def JX0_add : cm_J := (0, false, 1, [(36, 1, 1, 0, 0, SX0_isFull), (40, 2, 6, 0, 0, SX5_become), (44, 2, 1, 0, 0, SX0_ancestorsOf)], [], [])
theorem jX0_add : JX0_add.1 = 0 ∧ JX0_add.2.1 = false ∧ JX0_add.2.2.1 = 1 ∧ cm_gv JX0_add 36 = some (1, 1, 0, 0, SX0_isFull) ∧ cm_gv JX0_add 40 = some (2, 6, 0, 0, SX5_become) ∧ cm_gv JX0_add 44 = some (2, 1, 0, 0, SX0_ancestorsOf) := ⟨rfl, rfl, rfl, rfl, rfl, rfl⟩
theorem eX0_add (d : Nat) (hd : 3 ≤ d) : cm_Cok d JX0_add := ⟨(List.forall_mem_cons.mpr ⟨q0_36 (mX0_isFull (d - 1) (by omega)) (by omega), (List.forall_mem_cons.mpr ⟨q0_40 (mX5_become (d - 1) (by omega)) (by omega), (List.forall_mem_cons.mpr ⟨q0_44 (mX0_ancestorsOf (d - 1) (by omega)) (by omega), (fun q h => by cases h)⟩)⟩)⟩), (fun q h => by cases h), (fun q h => by cases h)⟩
set_option maxHeartbeats 4000000 in
theorem mX0_add (d : Nat) (hd : 3 ≤ d) : cm_Met d yX0_add cX0_add 5 (some .int) 0 0 SX0_add := by
  refine cm_meets (J := JX0_add) (by decide) rfl (fun h => by cases h) trivial ?_
  intro as T M Φ hS
  match as, hS with
  | [.ref β, .ref t, .int f, .int s], ⟨hG, hF, hS⟩ =>
    refine ⟨Nat.le_of_ble_eq_true rfl, ?_⟩
    obtain ⟨⟨k0, ⟨r1, r2, r3, r4, r5⟩, ⟨k1, k2, k3, k4, k5⟩, ⟨l1, l2, l3, l4, l5⟩, rv⟩, hz, hT, hW, hA⟩ := id hG
    obtain ⟨hn, hn16⟩ := hG.n
    have hz0 : M.1 β 0 = w3 ((bkv M β).1 : Int) := i3_of hn
    by_cases hfull : 16 ≤ (bkv M β).1
    · have hF := hF hfull
      refine cm_go hX0_add 200 oX0_add (eX0_add d hd) lX0_add_0 ?_
      simp only [jX0_add, kX0_add_0, fl_0_9, fl_0_17, fl_0_21, fl_0_25, fl_0_28, SX0_isFull, k0, hn, cn_iconst, cn_lconst0, cn_lconst1, cn_null, cn_iload, cn_aload, cn_lload, cn_lo1, cn_loa1, cn_loa2, cn_lol1, cn_get0, cn_gets, cn_put0, cn_puts, cn_istore, cn_astore, cn_astoreN, cn_lstore, cn_iinc, cn_in1, cn_iadd, cn_isub, cn_imul, cn_iand, cn_ior, cn_ixor, cn_ishl, cn_ishr, cn_iushr, cn_idiv, cn_irem, cn_ladd, cn_lmul, cn_ldiv, cn_lrem, cn_i2l, cn_l2i, cn_i2b, cn_lcmp, cn_dupi, cn_dupr, cn_dup2, cn_popi, cn_popr, cn_goto, cn_if_eq, cn_if_ne, cn_if_lt, cn_if_ge, cn_if_gt, cn_if_le, cn_ic_eq, cn_ic_ne, cn_ic_lt, cn_ic_ge, cn_ic_gt, cn_ic_le, cn_ifnullN, cn_ifnullR, cn_ifnonnullN, cn_ifnonnullR, cn_tswS, cn_tsw0, cn_tsw1, cn_lswS, cn_lsw0, cn_lsw1, cn_alen, cn_iaload, cn_laload, cn_rr1, cn_rr0, cn_aaload, cn_iastore, cn_lastore, cn_aastore, cn_getfield, cn_gf0, cn_gf1, cn_gf2, cn_gf3, cn_putfield, cn_pf0f, cn_pf1f, cn_pf2f, cn_pf3f, cn_pf0t, cn_pf1t, cn_pf2t, cn_pf3t, cn_new, cn_nw1, cn_newi, cn_newl, cn_anew, cn_an1, cn_inv_v, cn_inv_s, cn_inv_p, cn_ca1, cn_cb1, cn_pop0, cn_pops, cn_rk0, cn_rk1, cn_kcn, cn_kcs, cn_ireturn, cn_lreturn, cn_areturn, cn_return, cn_re0, cn_re1, cn_re2, cn_re3, cn_re4, cn_re5, cn_wp0, cn_wps, cn_m0, cn_m1, cn_e0, cn_en, cn_ei, cn_er, cn_eu, cn_el, cn_nl0, cn_nls, cn_nb0, cn_nb1, cn_nb2, cn_nb3, cn_bd0, cn_bds, cn_cwi, cn_cwr, cn_cwl, cn_cwn, cn_wi2, cn_wl1, cn_wl3, cn_wr1, cn_wr2, cn_wi_eq, cn_wl_eq, cb_0, cb_n0, cb_b, cm_okb0, cm_okb1, Classical.not_not, true_and, and_true, Nat.reduceAdd, Nat.reduceSub, Nat.reduceLT, Nat.reduceLeDiff, Int.reduceToNat, Int.reduceNatCast', Nat.zero_le, Nat.reduceEqDiff, false_or, or_false, or_true, true_or, Int.reduceNeg, reduceCtorEq, false_implies, implies_true, forall_const, true_implies, not_true_eq_false, not_false_eq_true, Nat.le_refl, ne_eq, if_true, if_false, ite_true, ite_false, List.cons_append, List.nil_append]
      exact ⟨fun q => absurd (by omega) q, fun _ => hF⟩
    · obtain ⟨ht, hdj, hv, hp, hS⟩ := hS (by omega)
      have rn := rv (bkv M β).1 (by omega)
      have en : (w3 ((bkv M β).1 : Int)).toInt = ((bkv M β).1 : Int) := w3_toInt (by omega) (by omega)
      refine cm_go hX0_add 200 oX0_add (eX0_add d hd) lX0_add_0 ?_
      simp only [jX0_add, kX0_add_0, fl_0_9, fl_0_17, fl_0_21, fl_0_25, fl_0_28, SX0_isFull, k0, k1, k2, k3, k4, l1, l2, l3, l4, r1, r2, r3, r4, rn, hn, en, hz0, cn_iconst, cn_lconst0, cn_lconst1, cn_null, cn_iload, cn_aload, cn_lload, cn_lo1, cn_loa1, cn_loa2, cn_lol1, cn_get0, cn_gets, cn_put0, cn_puts, cn_istore, cn_astore, cn_astoreN, cn_lstore, cn_iinc, cn_in1, cn_iadd, cn_isub, cn_imul, cn_iand, cn_ior, cn_ixor, cn_ishl, cn_ishr, cn_iushr, cn_idiv, cn_irem, cn_ladd, cn_lmul, cn_ldiv, cn_lrem, cn_i2l, cn_l2i, cn_i2b, cn_lcmp, cn_dupi, cn_dupr, cn_dup2, cn_popi, cn_popr, cn_goto, cn_if_eq, cn_if_ne, cn_if_lt, cn_if_ge, cn_if_gt, cn_if_le, cn_ic_eq, cn_ic_ne, cn_ic_lt, cn_ic_ge, cn_ic_gt, cn_ic_le, cn_ifnullN, cn_ifnullR, cn_ifnonnullN, cn_ifnonnullR, cn_tswS, cn_tsw0, cn_tsw1, cn_lswS, cn_lsw0, cn_lsw1, cn_alen, cn_iaload, cn_laload, cn_rr1, cn_rr0, cn_aaload, cn_iastore, cn_lastore, cn_aastore, cn_getfield, cn_gf0, cn_gf1, cn_gf2, cn_gf3, cn_putfield, cn_pf0f, cn_pf1f, cn_pf2f, cn_pf3f, cn_pf0t, cn_pf1t, cn_pf2t, cn_pf3t, cn_new, cn_nw1, cn_newi, cn_newl, cn_anew, cn_an1, cn_inv_v, cn_inv_s, cn_inv_p, cn_ca1, cn_cb1, cn_pop0, cn_pops, cn_rk0, cn_rk1, cn_kcn, cn_kcs, cn_ireturn, cn_lreturn, cn_areturn, cn_return, cn_re0, cn_re1, cn_re2, cn_re3, cn_re4, cn_re5, cn_wp0, cn_wps, cn_m0, cn_m1, cn_e0, cn_en, cn_ei, cn_er, cn_eu, cn_el, cn_nl0, cn_nls, cn_nb0, cn_nb1, cn_nb2, cn_nb3, cn_bd0, cn_bds, cn_cwi, cn_cwr, cn_cwl, cn_cwn, cn_wi2, cn_wl1, cn_wl3, cn_wr1, cn_wr2, cn_wi_eq, cn_wl_eq, cb_0, cb_n0, cb_b, cm_okb0, cm_okb1, Classical.not_not, true_and, and_true, Nat.reduceAdd, Nat.reduceSub, Nat.reduceLT, Nat.reduceLeDiff, Int.reduceToNat, Int.reduceNatCast', Nat.zero_le, Nat.reduceEqDiff, false_or, or_false, or_true, true_or, Int.reduceNeg, reduceCtorEq, false_implies, implies_true, forall_const, true_implies, not_true_eq_false, not_false_eq_true, Nat.le_refl, ne_eq, if_true, if_false, ite_true, ite_false, List.cons_append, List.nil_append]
      have hd1 : dja t β (bkv M β).1 := hdj
      unfold dja at hd1
      generalize hnn : (bkv M β).1 = n at *
      have ix : cm_ix (w3 (n : Int)) 16 := by rw [w3_ix (by omega) (by omega)]; exact ⟨by omega, by omega⟩
      refine ⟨fun _ => ⟨ix, (hT n (by omega)).1.1, hT n (by omega), ht, hd1.2, fun M1 F1 T1 v1 => ?_⟩, fun q => by omega⟩
      have e1 := F1.2
      have z1 : bsz (cm_wi (cm_wi M1 (β + 2) (n : Int) f) (β + 3) (n : Int) s) β = (n : Int) := by
        rw [bsz_wi (by omega), bsz_wi (by omega)]
        unfold bsz
        rw [F1.1 β (by omega)]
        exact hn
      simp only [jX0_add, kX0_add_0, fl_0_9, fl_0_17, fl_0_21, fl_0_25, fl_0_28, SX0_ancestorsOf, z1, e1, k0, k1, k2, k3, k4, l1, l2, l3, l4, r1, r2, r3, r4, en, ix, cn_iconst, cn_lconst0, cn_lconst1, cn_null, cn_iload, cn_aload, cn_lload, cn_lo1, cn_loa1, cn_loa2, cn_lol1, cn_get0, cn_gets, cn_put0, cn_puts, cn_istore, cn_astore, cn_astoreN, cn_lstore, cn_iinc, cn_in1, cn_iadd, cn_isub, cn_imul, cn_iand, cn_ior, cn_ixor, cn_ishl, cn_ishr, cn_iushr, cn_idiv, cn_irem, cn_ladd, cn_lmul, cn_ldiv, cn_lrem, cn_i2l, cn_l2i, cn_i2b, cn_lcmp, cn_dupi, cn_dupr, cn_dup2, cn_popi, cn_popr, cn_goto, cn_if_eq, cn_if_ne, cn_if_lt, cn_if_ge, cn_if_gt, cn_if_le, cn_ic_eq, cn_ic_ne, cn_ic_lt, cn_ic_ge, cn_ic_gt, cn_ic_le, cn_ifnullN, cn_ifnullR, cn_ifnonnullN, cn_ifnonnullR, cn_tswS, cn_tsw0, cn_tsw1, cn_lswS, cn_lsw0, cn_lsw1, cn_alen, cn_iaload, cn_laload, cn_rr1, cn_rr0, cn_aaload, cn_iastore, cn_lastore, cn_aastore, cn_getfield, cn_gf0, cn_gf1, cn_gf2, cn_gf3, cn_putfield, cn_pf0f, cn_pf1f, cn_pf2f, cn_pf3f, cn_pf0t, cn_pf1t, cn_pf2t, cn_pf3t, cn_new, cn_nw1, cn_newi, cn_newl, cn_anew, cn_an1, cn_inv_v, cn_inv_s, cn_inv_p, cn_ca1, cn_cb1, cn_pop0, cn_pops, cn_rk0, cn_rk1, cn_kcn, cn_kcs, cn_ireturn, cn_lreturn, cn_areturn, cn_return, cn_re0, cn_re1, cn_re2, cn_re3, cn_re4, cn_re5, cn_wp0, cn_wps, cn_m0, cn_m1, cn_e0, cn_en, cn_ei, cn_er, cn_eu, cn_el, cn_nl0, cn_nls, cn_nb0, cn_nb1, cn_nb2, cn_nb3, cn_bd0, cn_bds, cn_cwi, cn_cwr, cn_cwl, cn_cwn, cn_wi2, cn_wl1, cn_wl3, cn_wr1, cn_wr2, cn_wi_eq, cn_wl_eq, cb_0, cb_n0, cb_b, cm_okb0, cm_okb1, Classical.not_not, true_and, and_true, Nat.reduceAdd, Nat.reduceSub, Nat.reduceLT, Nat.reduceLeDiff, Int.reduceToNat, Int.reduceNatCast', Nat.zero_le, Nat.reduceEqDiff, false_or, or_false, or_true, true_or, Int.reduceNeg, reduceCtorEq, false_implies, implies_true, forall_const, true_implies, not_true_eq_false, not_false_eq_true, Nat.le_refl, ne_eq, if_true, if_false, ite_true, ite_false, List.cons_append, List.nil_append]
      refine ⟨by omega, by omega, ?_⟩
      rw [w3_add]
      obtain ⟨G1, G2, G3⟩ := bk_add (f := f) (s := s) hG hnn (by omega) hv hp F1 T1 v1 rfl rfl
      have A4 : ∀ j : Int, (cm_wi (cm_wi M1 (β + 2) (n : Int) f) (β + 3) (n : Int) s).1 (β + 4) j = M.1 (β + 4) j := by
        intro j
        rw [cn_wi_ne (Or.inl (by omega)), cn_wi_ne (Or.inl (by omega)), F1.1 _ (by omega)]
      rw [A4, A4]
      exact hS _ G1 G2 G3

theorem and_8 {x y : Int32} (h1 : 0 ≤ x.toInt) (h2 : x.toInt < 8) : 0 ≤ (x &&& y).toInt ∧ (x &&& y).toInt < 8 := by
  have e : ∀ z : Int32, 0 ≤ z.toInt ∧ z.toInt < 8 ↔ z.toBitVec.toNat < 8 := by
    intro z
    have hz : z.toInt = z.toBitVec.toInt := rfl
    rw [hz, BitVec.toInt_eq_toNat_cond]
    have := z.toBitVec.isLt
    split <;> omega
  rw [e]
  have hx := (e x).mp ⟨h1, h2⟩
  have : (x &&& y).toBitVec.toNat = x.toBitVec.toNat &&& y.toBitVec.toNat := by
    rw [Int32.toBitVec_and, BitVec.toNat_and]
  rw [this]
  exact Nat.lt_of_le_of_lt Nat.and_le_left hx
noncomputable def bSet (B : Bk) (v : Nat) (x : Tv) : Bk := (B.1, fun u => if u = v then (x, (B.2 v).2) else B.2 u)
theorem bSet_add {B : Bk} {r : Tv × Int × Int} {x : Tv} : bSet (bAdd B r) B.1 x = bAdd B (x, r.2) := by
  refine Prod.ext rfl (funext fun u => ?_)
  show (if u = B.1 then (x, ((bAdd B r).2 B.1).2) else (bAdd B r).2 u) = if u = B.1 then (x, r.2) else B.2 u
  by_cases q : u = B.1
  · rw [if_pos q, if_pos q]
    show (x, (if B.1 = B.1 then r else B.2 B.1).2) = _
    rw [if_pos rfl]
  · rw [if_neg q, if_neg q]
    show (if u = B.1 then r else B.2 u) = _
    rw [if_neg q]
/-- a tree of the book is made another one -/
theorem bk_set {T : cm_T} {M M1 : cm_M} {β v : Nat} (hG : BkG T M β) (hv : v < (bkv M β).1) (F : Fr M M1 (β + 6 + 8 * v) 8) (ht : TrG T M1 (β + 6 + 8 * v)) (hx : TvG (trv M1 (β + 6 + 8 * v))) : BkG T M1 β ∧ bkv M1 β = bSet (bkv M β) v (trv M1 (β + 6 + 8 * v)) := by
  obtain ⟨hK, hz, hT, hW, hA⟩ := id hG
  obtain ⟨hn, hn16⟩ := hG.n
  have tv : ∀ u : Nat, u < 16 → u ≠ v → TrG T M1 (β + 6 + 8 * u) ∧ trv M1 (β + 6 + 8 * u) = trv M (β + 6 + 8 * u) := by
    intro u hu q
    exact ⟨F.trq (by omega) (hT u hu), F.tvq (by omega) (hT u hu)⟩
  have hb : bkv M1 β = bSet (bkv M β) v (trv M1 (β + 6 + 8 * v)) := by
    refine bkv_eq ?_ ?_ ?_
    · unfold bsz; rw [F.1 β (by omega)]; exact hn
    · intro u hu
      have hu2 : u < (bkv M β).1 := hu
      show (if u = v then (trv M1 (β + 6 + 8 * v), ((bkv M β).2 v).2) else (bkv M β).2 u) = _
      rw [F.1 (β + 2) (by omega), F.1 (β + 3) (by omega)]
      by_cases q : u = v
      · rw [if_pos q, q, bkv_lt hv]
      · rw [if_neg q, bkv_lt hu2, (tv u (by omega) q).2]
    · intro u hu
      have hu2 : (bkv M β).1 ≤ u := hu
      show (if u = v then (trv M1 (β + 6 + 8 * v), ((bkv M β).2 v).2) else (bkv M β).2 u) = _
      rw [if_neg (by omega), bkv_ge (by omega)]
  have rw2 : ∀ u, ((bSet (bkv M β) v (trv M1 (β + 6 + 8 * v))).2 u).2 = ((bkv M β).2 u).2 := by
    intro u
    show (if u = v then (trv M1 (β + 6 + 8 * v), ((bkv M β).2 v).2) else (bkv M β).2 u).2 = _
    by_cases q : u = v
    · rw [if_pos q, q]
    · rw [if_neg q]
  have rw1 : ∀ u, u ≠ v → (bSet (bkv M β) v (trv M1 (β + 6 + 8 * v))).2 u = (bkv M β).2 u := fun u q => if_neg q
  refine ⟨⟨by rw [F.2]; exact hK, ?_, fun u hu => ?_, ?_, ?_⟩, hb⟩
  · unfold bsz; rw [F.1 β (by omega)]; exact hz
  · by_cases q : u = v
    · rw [q]; exact ht
    · exact (tv u hu q).1
  · rw [hb]
    refine ⟨hn16, fun u hu => ⟨?_, ?_⟩, fun u hu => ?_⟩
    · by_cases q : u = v
      · rw [q]
        show TvG (if v = v then (trv M1 (β + 6 + 8 * v), ((bkv M β).2 v).2) else (bkv M β).2 v).1
        rw [if_pos rfl]
        exact hx
      · rw [rw1 u q]; exact (hW.2.1 u hu).1
    · rw [rw2 u]; exact (hW.2.1 u hu).2
    · have hu2 : (bkv M β).1 ≤ u := hu
      rw [rw1 u (by omega)]; exact hW.2.2 u hu2
  · rw [hb]
    intro u hu
    rw [F.1 (β + 4) (by omega), hA u hu]
    exact anc_cong _ (fun w _ => by rw [rw2 w])
def clr (x : Tv) (f : Int32) : Tv := (x.1 &&& ((w3 1 <<< (f &&& 31)) ^^^ w3 (-1)), x.2)
theorem clr_g {x : Tv} {f : Int32} (h : TvG x) : TvG (clr x f) := ⟨h.1, and_8 h.2.1 h.2.2⟩
theorem dj6 {β u v : Nat} (h : u ≠ v) : dj (β + 6 + 8 * u) (β + 6 + 8 * v) := by unfold dj; omega
def SX0_addChild : cm_CT := fun as T M Φ => match as with
  | [.ref β, .int v, .int f] => BkG T M β ∧ hs (bkv M β) v.toInt ∧ (bkv M β).1 < 16 ∧ ∀ M1, Fr M M1 β 134 → BkG T M1 β → bkv M1 β = bAdd (bkv M β) (clr ((bkv M β).2 v.toInt.toNat).1 f, v.toInt, -9) → Φ (some (.int (w3 ((bkv M β).1 : Int)))) T M1
  | _ => False
def JX0_addChild : cm_J := (0, false, 1, [(48, 2, 1, 0, 0, SX0_has), (36, 1, 1, 0, 0, SX0_isFull), (52, 4, 1, 0, 0, SX0_add)], [], [])
theorem jX0_addChild : JX0_addChild.1 = 0 ∧ JX0_addChild.2.1 = false ∧ JX0_addChild.2.2.1 = 1 ∧ cm_gv JX0_addChild 48 = some (2, 1, 0, 0, SX0_has) ∧ cm_gv JX0_addChild 36 = some (1, 1, 0, 0, SX0_isFull) ∧ cm_gv JX0_addChild 52 = some (4, 1, 0, 0, SX0_add) := ⟨rfl, rfl, rfl, rfl, rfl, rfl⟩
theorem eX0_addChild (d : Nat) (hd : 4 ≤ d) : cm_Cok d JX0_addChild := ⟨(List.forall_mem_cons.mpr ⟨q0_48 (mX0_has (d - 1) (by omega)) (by omega), (List.forall_mem_cons.mpr ⟨q0_36 (mX0_isFull (d - 1) (by omega)) (by omega), (List.forall_mem_cons.mpr ⟨q0_52 (mX0_add (d - 1) (by omega)) (by omega), (fun q h => by cases h)⟩)⟩)⟩), (fun q h => by cases h), (fun q h => by cases h)⟩
set_option maxHeartbeats 4000000 in
theorem mX0_addChild (d : Nat) (hd : 4 ≤ d) : cm_Met d yX0_addChild cX0_addChild 4 (some .int) 0 0 SX0_addChild := by
  refine cm_meets (J := JX0_addChild) (by decide) rfl (fun h => by cases h) trivial ?_
  intro as T M Φ hS
  match as, hS with
  | [.ref β, .int v, .int f], ⟨hG, hv, h16, hS⟩ =>
    refine ⟨Nat.le_of_ble_eq_true rfl, ?_⟩
    obtain ⟨⟨k0, ⟨r1, r2, r3, r4, r5⟩, ⟨k1, k2, k3, k4, k5⟩, ⟨l1, l2, l3, l4, l5⟩, rv⟩, hz, hT, hW, hA⟩ := id hG
    obtain ⟨hn, hn16⟩ := hG.n
    obtain ⟨v1, v2⟩ := id hv
    have hvn : v.toInt = ((v.toInt.toNat : Nat) : Int) := (Int.toNat_of_nonneg v1).symm
    have hv3 : v.toInt.toNat < (bkv M β).1 := by omega
    have rn := rv v.toInt.toNat (by omega)
    rw [← hvn] at rn
    have ix : cm_ix v 16 := ⟨v1, by show v.toInt < ((16 : Nat) : Int); omega⟩
    have kt := (hT v.toInt.toNat (by omega)).1.1
    have hva : hs (bkv M β) v.toInt = True := eq_true hv
    unfold hs at hva
    have hfu : (16 ≤ ((bkv M β).1 : Int)) = False := eq_false (by omega)
    refine cm_go hX0_addChild 200 oX0_addChild (eX0_addChild d hd) lX0_addChild_0 ?_
    simp only [jX0_addChild, kX0_addChild_0, fl_0_17, fl_0_56, SX0_isFull, SX0_has, k0, k1, l1, r1, rn, hn, ix, kt, hva, hfu, cn_iconst, cn_lconst0, cn_lconst1, cn_null, cn_iload, cn_aload, cn_lload, cn_lo1, cn_loa1, cn_loa2, cn_lol1, cn_get0, cn_gets, cn_put0, cn_puts, cn_istore, cn_astore, cn_astoreN, cn_lstore, cn_iinc, cn_in1, cn_iadd, cn_isub, cn_imul, cn_iand, cn_ior, cn_ixor, cn_ishl, cn_ishr, cn_iushr, cn_idiv, cn_irem, cn_ladd, cn_lmul, cn_ldiv, cn_lrem, cn_i2l, cn_l2i, cn_i2b, cn_lcmp, cn_dupi, cn_dupr, cn_dup2, cn_popi, cn_popr, cn_goto, cn_if_eq, cn_if_ne, cn_if_lt, cn_if_ge, cn_if_gt, cn_if_le, cn_ic_eq, cn_ic_ne, cn_ic_lt, cn_ic_ge, cn_ic_gt, cn_ic_le, cn_ifnullN, cn_ifnullR, cn_ifnonnullN, cn_ifnonnullR, cn_tswS, cn_tsw0, cn_tsw1, cn_lswS, cn_lsw0, cn_lsw1, cn_alen, cn_iaload, cn_laload, cn_rr1, cn_rr0, cn_aaload, cn_iastore, cn_lastore, cn_aastore, cn_getfield, cn_gf0, cn_gf1, cn_gf2, cn_gf3, cn_putfield, cn_pf0f, cn_pf1f, cn_pf2f, cn_pf3f, cn_pf0t, cn_pf1t, cn_pf2t, cn_pf3t, cn_new, cn_nw1, cn_newi, cn_newl, cn_anew, cn_an1, cn_inv_v, cn_inv_s, cn_inv_p, cn_ca1, cn_cb1, cn_pop0, cn_pops, cn_rk0, cn_rk1, cn_kcn, cn_kcs, cn_ireturn, cn_lreturn, cn_areturn, cn_return, cn_re0, cn_re1, cn_re2, cn_re3, cn_re4, cn_re5, cn_wp0, cn_wps, cn_m0, cn_m1, cn_e0, cn_en, cn_ei, cn_er, cn_eu, cn_el, cn_nl0, cn_nls, cn_nb0, cn_nb1, cn_nb2, cn_nb3, cn_bd0, cn_bds, cn_cwi, cn_cwr, cn_cwl, cn_cwn, cn_wi2, cn_wl1, cn_wl3, cn_wr1, cn_wr2, cn_wi_eq, cn_wl_eq, cb_0, cb_n0, cb_b, cm_okb0, cm_okb1, Classical.not_not, true_and, and_true, Nat.reduceAdd, Nat.reduceSub, Nat.reduceLT, Nat.reduceLeDiff, Int.reduceToNat, Int.reduceNatCast', Nat.zero_le, Nat.reduceEqDiff, false_or, or_false, or_true, true_or, Int.reduceNeg, reduceCtorEq, false_implies, implies_true, forall_const, true_implies, not_true_eq_false, not_false_eq_true, Nat.le_refl, ne_eq, if_true, if_false, ite_true, ite_false, List.cons_append, List.nil_append]
    have hrow := bkv_lt (M := M) (β := β) hv3
    refine ⟨hG, fun q => by omega, fun _ => ⟨hT _ (by omega), ⟨Or.inr (by omega), dj6 (by omega)⟩, ?_, ?_, fun M1 F1 G1 b1 => ?_⟩⟩
    · have := (hW.2.1 _ hv3).1
      rw [hrow] at this
      exact this
    · refine ⟨fun q => by omega, fun q => ⟨v1, v2, Or.inl (by decide)⟩⟩
    · have en : (w3 ((bkv M β).1 : Int)).toInt = ((bkv M β).1 : Int) := w3_toInt (by omega) (by omega)
      have ixn : cm_ix (w3 ((bkv M β).1 : Int)) 16 := by rw [w3_ix (by omega) (by omega)]; exact ⟨by omega, by omega⟩
      have r0 := rv (bkv M β).1 h16
      have e1 := F1.2
      have ktn := (hT (bkv M β).1 h16).1.1
      simp only [jX0_addChild, kX0_addChild_0, fl_0_17, fl_0_56, k0, k1, l1, r1, r0, e1, en, ixn, ktn, cn_iconst, cn_lconst0, cn_lconst1, cn_null, cn_iload, cn_aload, cn_lload, cn_lo1, cn_loa1, cn_loa2, cn_lol1, cn_get0, cn_gets, cn_put0, cn_puts, cn_istore, cn_astore, cn_astoreN, cn_lstore, cn_iinc, cn_in1, cn_iadd, cn_isub, cn_imul, cn_iand, cn_ior, cn_ixor, cn_ishl, cn_ishr, cn_iushr, cn_idiv, cn_irem, cn_ladd, cn_lmul, cn_ldiv, cn_lrem, cn_i2l, cn_l2i, cn_i2b, cn_lcmp, cn_dupi, cn_dupr, cn_dup2, cn_popi, cn_popr, cn_goto, cn_if_eq, cn_if_ne, cn_if_lt, cn_if_ge, cn_if_gt, cn_if_le, cn_ic_eq, cn_ic_ne, cn_ic_lt, cn_ic_ge, cn_ic_gt, cn_ic_le, cn_ifnullN, cn_ifnullR, cn_ifnonnullN, cn_ifnonnullR, cn_tswS, cn_tsw0, cn_tsw1, cn_lswS, cn_lsw0, cn_lsw1, cn_alen, cn_iaload, cn_laload, cn_rr1, cn_rr0, cn_aaload, cn_iastore, cn_lastore, cn_aastore, cn_getfield, cn_gf0, cn_gf1, cn_gf2, cn_gf3, cn_putfield, cn_pf0f, cn_pf1f, cn_pf2f, cn_pf3f, cn_pf0t, cn_pf1t, cn_pf2t, cn_pf3t, cn_new, cn_nw1, cn_newi, cn_newl, cn_anew, cn_an1, cn_inv_v, cn_inv_s, cn_inv_p, cn_ca1, cn_cb1, cn_pop0, cn_pops, cn_rk0, cn_rk1, cn_kcn, cn_kcs, cn_ireturn, cn_lreturn, cn_areturn, cn_return, cn_re0, cn_re1, cn_re2, cn_re3, cn_re4, cn_re5, cn_wp0, cn_wps, cn_m0, cn_m1, cn_e0, cn_en, cn_ei, cn_er, cn_eu, cn_el, cn_nl0, cn_nls, cn_nb0, cn_nb1, cn_nb2, cn_nb3, cn_bd0, cn_bds, cn_cwi, cn_cwr, cn_cwl, cn_cwn, cn_wi2, cn_wl1, cn_wl3, cn_wr1, cn_wr2, cn_wi_eq, cn_wl_eq, cb_0, cb_n0, cb_b, cm_okb0, cm_okb1, Classical.not_not, true_and, and_true, Nat.reduceAdd, Nat.reduceSub, Nat.reduceLT, Nat.reduceLeDiff, Int.reduceToNat, Int.reduceNatCast', Nat.zero_le, Nat.reduceEqDiff, false_or, or_false, or_true, true_or, Int.reduceNeg, reduceCtorEq, false_implies, implies_true, forall_const, true_implies, not_true_eq_false, not_false_eq_true, Nat.le_refl, ne_eq, if_true, if_false, ite_true, ite_false, List.cons_append, List.nil_append]
      have n1 : (bkv M β).1 < (bkv M1 β).1 := by rw [b1]; show (bkv M β).1 < (bkv M β).1 + 1; omega
      have tn1 := bkv_lt n1
      have tv1 : trv M1 (β + 6 + 8 * (bkv M β).1) = trv M (β + 6 + 8 * v.toInt.toNat) := by
        have e : ((bkv M1 β).2 (bkv M β).1).1 = trv M (β + 6 + 8 * v.toInt.toNat) := by
          rw [b1]
          show (if (bkv M β).1 = (bkv M β).1 then _ else _ : Tv × Int × Int).1 = _
          rw [if_pos rfl]
        rw [tn1] at e
        exact e
      obtain ⟨T1, T2, T3⟩ := tr_torn (v := M1.1 (β + 6 + 8 * (bkv M β).1) 1 &&& (w3 1 <<< (f &&& 31) ^^^ w3 (-1))) (G1.2.2.1 (bkv M β).1 h16)
      obtain ⟨⟨-, p1⟩, ⟨-, p2⟩, ⟨-, p3⟩⟩ := (G1.2.2.1 (bkv M β).1 h16).sg
      have tv2 : trv (cm_wi M1 (β + 6 + 8 * (bkv M β).1) 1 (M1.1 (β + 6 + 8 * (bkv M β).1) 1 &&& (w3 1 <<< (f &&& 31) ^^^ w3 (-1)))) (β + 6 + 8 * (bkv M β).1) = clr ((bkv M β).2 v.toInt.toNat).1 f := by
        have e : trv (cm_wi M1 (β + 6 + 8 * (bkv M β).1) 1 (M1.1 (β + 6 + 8 * (bkv M β).1) 1 &&& (w3 1 <<< (f &&& 31) ^^^ w3 (-1)))) (β + 6 + 8 * (bkv M β).1) = clr (trv M1 (β + 6 + 8 * (bkv M β).1)) f :=
          Prod.ext T3 (Prod.ext (T2.flq (by omega) (by rw [p1]; omega)) (Prod.ext (T2.flq (by omega) (by rw [p2]; omega)) (T2.flq (by omega) (by rw [p3]; omega))))
        rw [e, tv1, hrow]
      obtain ⟨G2, b2⟩ := bk_set G1 n1 (T2.wide (Nat.le_refl _) (by omega)) T1 (by
        rw [tv2]
        exact clr_g (hW.2.1 _ hv3).1)
      refine hS _ (F1.trans (T2.wide (by omega) (by omega))) G2 ?_
      rw [b2, b1, tv2, bSet_add]
      rfl
def SX0_isAncestor : cm_CT := fun as T M Φ => match as with
  | [.ref β, .int a, .int v] => BkG T M β ∧ Φ (some (.int (cb (hs (bkv M β) a.toInt ∧ hs (bkv M β) v.toInt ∧ hb (anc (bkv M β) v.toInt.toNat) a)))) T M
  | _ => False
def JX0_isAncestor : cm_J := (0, false, 2, [(48, 2, 1, 0, 0, SX0_has)], [], [])
theorem jX0_isAncestor : JX0_isAncestor.1 = 0 ∧ JX0_isAncestor.2.1 = false ∧ JX0_isAncestor.2.2.1 = 2 ∧ cm_gv JX0_isAncestor 48 = some (2, 1, 0, 0, SX0_has) := ⟨rfl, rfl, rfl, rfl⟩
theorem eX0_isAncestor (d : Nat) (hd : 1 ≤ d) : cm_Cok d JX0_isAncestor := ⟨(List.forall_mem_cons.mpr ⟨q0_48 (mX0_has (d - 1) (by omega)) (by omega), (fun q h => by cases h)⟩), (fun q h => by cases h), (fun q h => by cases h)⟩
set_option maxHeartbeats 4000000 in
theorem mX0_isAncestor (d : Nat) (hd : 1 ≤ d) : cm_Met d yX0_isAncestor cX0_isAncestor 3 (some .boolean) 0 0 SX0_isAncestor := by
  refine cm_meets (J := JX0_isAncestor) (by decide) rfl (fun h => by cases h) trivial ?_
  intro as T M Φ hS
  match as, hS with
  | [.ref β, .int a, .int v], ⟨hG, hS⟩ =>
    refine ⟨Nat.le_of_ble_eq_true rfl, ?_⟩
    obtain ⟨⟨k0, ⟨r1, r2, r3, r4, r5⟩, ⟨k1, k2, k3, k4, k5⟩, ⟨l1, l2, l3, l4, l5⟩, rv⟩, hz, hT, hW, hA⟩ := id hG
    obtain ⟨hn, hn16⟩ := hG.n
    refine cm_go hX0_isAncestor 200 oX0_isAncestor (eX0_isAncestor d hd) lX0_isAncestor_0 ?_
    simp only [jX0_isAncestor, kX0_isAncestor_0, fl_0_28, SX0_has, k0, k4, l4, r4, hn, cn_iconst, cn_lconst0, cn_lconst1, cn_null, cn_iload, cn_aload, cn_lload, cn_lo1, cn_loa1, cn_loa2, cn_lol1, cn_get0, cn_gets, cn_put0, cn_puts, cn_istore, cn_astore, cn_astoreN, cn_lstore, cn_iinc, cn_in1, cn_iadd, cn_isub, cn_imul, cn_iand, cn_ior, cn_ixor, cn_ishl, cn_ishr, cn_iushr, cn_idiv, cn_irem, cn_ladd, cn_lmul, cn_ldiv, cn_lrem, cn_i2l, cn_l2i, cn_i2b, cn_lcmp, cn_dupi, cn_dupr, cn_dup2, cn_popi, cn_popr, cn_goto, cn_if_eq, cn_if_ne, cn_if_lt, cn_if_ge, cn_if_gt, cn_if_le, cn_ic_eq, cn_ic_ne, cn_ic_lt, cn_ic_ge, cn_ic_gt, cn_ic_le, cn_ifnullN, cn_ifnullR, cn_ifnonnullN, cn_ifnonnullR, cn_tswS, cn_tsw0, cn_tsw1, cn_lswS, cn_lsw0, cn_lsw1, cn_alen, cn_iaload, cn_laload, cn_rr1, cn_rr0, cn_aaload, cn_iastore, cn_lastore, cn_aastore, cn_getfield, cn_gf0, cn_gf1, cn_gf2, cn_gf3, cn_putfield, cn_pf0f, cn_pf1f, cn_pf2f, cn_pf3f, cn_pf0t, cn_pf1t, cn_pf2t, cn_pf3t, cn_new, cn_nw1, cn_newi, cn_newl, cn_anew, cn_an1, cn_inv_v, cn_inv_s, cn_inv_p, cn_ca1, cn_cb1, cn_pop0, cn_pops, cn_rk0, cn_rk1, cn_kcn, cn_kcs, cn_ireturn, cn_lreturn, cn_areturn, cn_return, cn_re0, cn_re1, cn_re2, cn_re3, cn_re4, cn_re5, cn_wp0, cn_wps, cn_m0, cn_m1, cn_e0, cn_en, cn_ei, cn_er, cn_eu, cn_el, cn_nl0, cn_nls, cn_nb0, cn_nb1, cn_nb2, cn_nb3, cn_bd0, cn_bds, cn_cwi, cn_cwr, cn_cwl, cn_cwn, cn_wi2, cn_wl1, cn_wl3, cn_wr1, cn_wr2, cn_wi_eq, cn_wl_eq, cb_0, cb_n0, cb_b, cm_okb0, cm_okb1, Classical.not_not, true_and, and_true, Nat.reduceAdd, Nat.reduceSub, Nat.reduceLT, Nat.reduceLeDiff, Int.reduceToNat, Int.reduceNatCast', Nat.zero_le, Nat.reduceEqDiff, false_or, or_false, or_true, true_or, Int.reduceNeg, reduceCtorEq, false_implies, implies_true, forall_const, true_implies, not_true_eq_false, not_false_eq_true, Nat.le_refl, ne_eq, if_true, if_false, ite_true, ite_false, List.cons_append, List.nil_append]
    unfold hs at hS
    refine ⟨fun q => ?_, fun q => ⟨fun q2 => ?_, fun q2 => ⟨⟨q2.1, by show v.toInt < ((16 : Nat) : Int); omega⟩, ?_⟩⟩⟩
    · rw [cb_f (fun w => q w.1)] at hS; exact hS
    · rw [cb_f (fun w => q2 w.2.1)] at hS; exact hS
    · have e := hA v.toInt.toNat (by omega)
      rw [Int.toNat_of_nonneg q2.1] at e
      rw [e]
      refine ⟨fun q3 => ?_, fun q3 => ?_⟩
      · rw [cb_f (fun w => w.2.2 q3)] at hS; exact hS
      · rw [cb_t ⟨q, q2, q3⟩] at hS; exact hS
/-- what lies behind the common ancestors (bits), of the first k versions -/
noncomputable def nrL (B : Bk) (both : Int32) : Nat → Int32
  | 0 => w3 0
  | k + 1 => if both >>> (w3 (k : Int) &&& 31) &&& w3 1 = 0 then nrL B both k else nrL B both k ||| (anc B k &&& (bt k ^^^ w3 (-1)))
noncomputable def nrB (B : Bk) (a b : Int) : Int32 := if (0 ≤ a ∧ a < (B.1 : Int)) ∧ (0 ≤ b ∧ b < (B.1 : Int)) then (anc B a.toNat &&& anc B b.toNat) &&& (nrL B (anc B a.toNat &&& anc B b.toNat) B.1 ^^^ w3 (-1)) else w3 0
def SX0_nearestOf : cm_CT := fun as T M Φ => match as with
  | [.ref β, .int a, .int b] => BkG T M β ∧ Φ (some (.int (nrB (bkv M β) a.toInt b.toInt))) T M
  | _ => False
def JX0_nearestOf : cm_J := (0, false, 1, [(48, 2, 1, 0, 0, SX0_has)], [], [])
theorem jX0_nearestOf : JX0_nearestOf.1 = 0 ∧ JX0_nearestOf.2.1 = false ∧ JX0_nearestOf.2.2.1 = 1 ∧ cm_gv JX0_nearestOf 48 = some (2, 1, 0, 0, SX0_has) := ⟨rfl, rfl, rfl, rfl⟩
theorem eX0_nearestOf (d : Nat) (hd : 1 ≤ d) : cm_Cok d JX0_nearestOf := ⟨(List.forall_mem_cons.mpr ⟨q0_48 (mX0_has (d - 1) (by omega)) (by omega), (fun q h => by cases h)⟩), (fun q h => by cases h), (fun q h => by cases h)⟩
set_option maxHeartbeats 4000000 in
theorem lX0_nearestOf (d : Nat) (hd : 1 ≤ d) {T : cm_T} {M : cm_M} {Φ : Option Value → cm_T → cm_M → Prop} {β : Nat} {a b both : Int32} (hG : BkG T M β) (hS : Φ (some (.int (both &&& (nrL (bkv M β) both (bkv M β).1 ^^^ w3 (-1))))) T M) :
    ∀ (k : Nat), k ≤ (bkv M β).1 → cm_Go d cX0_nearestOf 6 0 0 JX0_nearestOf Φ 38 [some (.ref β), some (.int a), some (.int b), some (.int both), some (.int (nrL (bkv M β) both k)), some (.int (w3 k))] [] (0, 0) T M := by
  intro k
  induction hf : ((bkv M β).1 - k) using Nat.strongRecOn generalizing k with
  | _ fu ih =>
    intro k1
    obtain ⟨⟨k0, ⟨r1, r2, r3, r4, r5⟩, ⟨-, k2, k3, k4, k5⟩, ⟨l1, l2, l3, l4, l5⟩, rv⟩, hz, hT, hW, hA⟩ := id hG
    obtain ⟨hn, hn16⟩ := hG.n
    have hz0 : M.1 β 0 = w3 ((bkv M β).1 : Int) := i3_of hn
    have ek : (w3 (k : Int)).toInt = (k : Int) := w3_toInt (by omega) (by omega)
    refine cm_go hX0_nearestOf 200 oX0_nearestOf (eX0_nearestOf d hd) lX0_nearestOf_38 ?_
    simp only [jX0_nearestOf, kX0_nearestOf_0, fl_0_28, fl_0_9, k0, k4, l4, r4, hz0, ek, cn_iconst, cn_lconst0, cn_lconst1, cn_null, cn_iload, cn_aload, cn_lload, cn_lo1, cn_loa1, cn_loa2, cn_lol1, cn_get0, cn_gets, cn_put0, cn_puts, cn_istore, cn_astore, cn_astoreN, cn_lstore, cn_iinc, cn_in1, cn_iadd, cn_isub, cn_imul, cn_iand, cn_ior, cn_ixor, cn_ishl, cn_ishr, cn_iushr, cn_idiv, cn_irem, cn_ladd, cn_lmul, cn_ldiv, cn_lrem, cn_i2l, cn_l2i, cn_i2b, cn_lcmp, cn_dupi, cn_dupr, cn_dup2, cn_popi, cn_popr, cn_goto, cn_if_eq, cn_if_ne, cn_if_lt, cn_if_ge, cn_if_gt, cn_if_le, cn_ic_eq, cn_ic_ne, cn_ic_lt, cn_ic_ge, cn_ic_gt, cn_ic_le, cn_ifnullN, cn_ifnullR, cn_ifnonnullN, cn_ifnonnullR, cn_tswS, cn_tsw0, cn_tsw1, cn_lswS, cn_lsw0, cn_lsw1, cn_alen, cn_iaload, cn_laload, cn_rr1, cn_rr0, cn_aaload, cn_iastore, cn_lastore, cn_aastore, cn_getfield, cn_gf0, cn_gf1, cn_gf2, cn_gf3, cn_putfield, cn_pf0f, cn_pf1f, cn_pf2f, cn_pf3f, cn_pf0t, cn_pf1t, cn_pf2t, cn_pf3t, cn_new, cn_nw1, cn_newi, cn_newl, cn_anew, cn_an1, cn_inv_v, cn_inv_s, cn_inv_p, cn_ca1, cn_cb1, cn_pop0, cn_pops, cn_rk0, cn_rk1, cn_kcn, cn_kcs, cn_ireturn, cn_lreturn, cn_areturn, cn_return, cn_re0, cn_re1, cn_re2, cn_re3, cn_re4, cn_re5, cn_wp0, cn_wps, cn_m0, cn_m1, cn_e0, cn_en, cn_ei, cn_er, cn_eu, cn_el, cn_nl0, cn_nls, cn_nb0, cn_nb1, cn_nb2, cn_nb3, cn_bd0, cn_bds, cn_cwi, cn_cwr, cn_cwl, cn_cwn, cn_wi2, cn_wl1, cn_wl3, cn_wr1, cn_wr2, cn_wi_eq, cn_wl_eq, cb_0, cb_n0, cb_b, cm_okb0, cm_okb1, Classical.not_not, true_and, and_true, Nat.reduceAdd, Nat.reduceSub, Nat.reduceLT, Nat.reduceLeDiff, Int.reduceToNat, Int.reduceNatCast', Nat.zero_le, Nat.reduceEqDiff, false_or, or_false, or_true, true_or, Int.reduceNeg, reduceCtorEq, false_implies, implies_true, forall_const, true_implies, not_true_eq_false, not_false_eq_true, Nat.le_refl, ne_eq, if_true, if_false, ite_true, ite_false, List.cons_append, List.nil_append]
    simp (disch := omega) only [w3_le, w3_lt, w3_eq, w3_ix, w3_add, w3_sub, w3_mul, w3_toInt, w3_z]
    refine ⟨fun q => ?_, fun q => ⟨fun q2 => ?_, fun q2 => ⟨⟨by omega, by omega⟩, ?_⟩⟩⟩
    · have e : k = (bkv M β).1 := by omega
      rw [e]
      exact hS
    · have e : nrL (bkv M β) both (k + 1) = nrL (bkv M β) both k := if_pos q2
      have := ih ((bkv M β).1 - (k + 1)) (by omega) (k + 1) rfl (by omega)
      rw [e] at this
      exact this
    · have e : nrL (bkv M β) both (k + 1) = nrL (bkv M β) both k ||| (anc (bkv M β) k &&& (bt k ^^^ w3 (-1))) := if_neg q2
      have := ih ((bkv M β).1 - (k + 1)) (by omega) (k + 1) rfl (by omega)
      rw [e] at this
      rw [hA k (by omega)]
      exact this
set_option maxHeartbeats 4000000 in
theorem mX0_nearestOf (d : Nat) (hd : 1 ≤ d) : cm_Met d yX0_nearestOf cX0_nearestOf 6 (some .int) 0 0 SX0_nearestOf := by
  refine cm_meets (J := JX0_nearestOf) (by decide) rfl (fun h => by cases h) trivial ?_
  intro as T M Φ hS
  match as, hS with
  | [.ref β, .int a, .int b], ⟨hG, hS⟩ =>
    refine ⟨Nat.le_of_ble_eq_true rfl, ?_⟩
    obtain ⟨⟨k0, ⟨r1, r2, r3, r4, r5⟩, ⟨k1, k2, k3, k4, k5⟩, ⟨l1, l2, l3, l4, l5⟩, rv⟩, hz, hT, hW, hA⟩ := id hG
    obtain ⟨hn, hn16⟩ := hG.n
    refine cm_go hX0_nearestOf 200 oX0_nearestOf (eX0_nearestOf d hd) lX0_nearestOf_0 ?_
    simp only [jX0_nearestOf, kX0_nearestOf_0, fl_0_28, fl_0_9, SX0_has, k0, k4, l4, r4, hn, cn_iconst, cn_lconst0, cn_lconst1, cn_null, cn_iload, cn_aload, cn_lload, cn_lo1, cn_loa1, cn_loa2, cn_lol1, cn_get0, cn_gets, cn_put0, cn_puts, cn_istore, cn_astore, cn_astoreN, cn_lstore, cn_iinc, cn_in1, cn_iadd, cn_isub, cn_imul, cn_iand, cn_ior, cn_ixor, cn_ishl, cn_ishr, cn_iushr, cn_idiv, cn_irem, cn_ladd, cn_lmul, cn_ldiv, cn_lrem, cn_i2l, cn_l2i, cn_i2b, cn_lcmp, cn_dupi, cn_dupr, cn_dup2, cn_popi, cn_popr, cn_goto, cn_if_eq, cn_if_ne, cn_if_lt, cn_if_ge, cn_if_gt, cn_if_le, cn_ic_eq, cn_ic_ne, cn_ic_lt, cn_ic_ge, cn_ic_gt, cn_ic_le, cn_ifnullN, cn_ifnullR, cn_ifnonnullN, cn_ifnonnullR, cn_tswS, cn_tsw0, cn_tsw1, cn_lswS, cn_lsw0, cn_lsw1, cn_alen, cn_iaload, cn_laload, cn_rr1, cn_rr0, cn_aaload, cn_iastore, cn_lastore, cn_aastore, cn_getfield, cn_gf0, cn_gf1, cn_gf2, cn_gf3, cn_putfield, cn_pf0f, cn_pf1f, cn_pf2f, cn_pf3f, cn_pf0t, cn_pf1t, cn_pf2t, cn_pf3t, cn_new, cn_nw1, cn_newi, cn_newl, cn_anew, cn_an1, cn_inv_v, cn_inv_s, cn_inv_p, cn_ca1, cn_cb1, cn_pop0, cn_pops, cn_rk0, cn_rk1, cn_kcn, cn_kcs, cn_ireturn, cn_lreturn, cn_areturn, cn_return, cn_re0, cn_re1, cn_re2, cn_re3, cn_re4, cn_re5, cn_wp0, cn_wps, cn_m0, cn_m1, cn_e0, cn_en, cn_ei, cn_er, cn_eu, cn_el, cn_nl0, cn_nls, cn_nb0, cn_nb1, cn_nb2, cn_nb3, cn_bd0, cn_bds, cn_cwi, cn_cwr, cn_cwl, cn_cwn, cn_wi2, cn_wl1, cn_wl3, cn_wr1, cn_wr2, cn_wi_eq, cn_wl_eq, cb_0, cb_n0, cb_b, cm_okb0, cm_okb1, Classical.not_not, true_and, and_true, Nat.reduceAdd, Nat.reduceSub, Nat.reduceLT, Nat.reduceLeDiff, Int.reduceToNat, Int.reduceNatCast', Nat.zero_le, Nat.reduceEqDiff, false_or, or_false, or_true, true_or, Int.reduceNeg, reduceCtorEq, false_implies, implies_true, forall_const, true_implies, not_true_eq_false, not_false_eq_true, Nat.le_refl, ne_eq, if_true, if_false, ite_true, ite_false, List.cons_append, List.nil_append]
    unfold nrB at hS
    refine ⟨fun q => ?_, fun q => ⟨fun q2 => ⟨⟨q.1, by show a.toInt < ((16 : Nat) : Int); omega⟩, ⟨q2.1, by show b.toInt < ((16 : Nat) : Int); omega⟩, ?_⟩, fun q2 => ?_⟩⟩
    · rw [if_neg (fun w => q w.1)] at hS; exact hS
    · have e1 := hA a.toInt.toNat (by omega)
      have e2 := hA b.toInt.toNat (by omega)
      rw [Int.toNat_of_nonneg q.1] at e1
      rw [Int.toNat_of_nonneg q2.1] at e2
      rw [if_pos ⟨q, q2⟩] at hS
      rw [e1, e2]
      exact lX0_nearestOf d hd hG hS 0 (Nat.zero_le _)
    · rw [if_neg (fun w => q2 w.2)] at hS; exact hS
def dB (β γ : Nat) : Prop := β + 134 ≤ γ ∨ γ + 134 ≤ β
/-- the first k versions of the book at β are those that the one at γ had -/
def bCp (M M1 : cm_M) (β γ k : Nat) : Prop := ∀ v : Nat, v < k → trv M1 (β + 6 + 8 * v) = trv M (γ + 6 + 8 * v) ∧ M1.1 (β + 2) (v : Int) = M.1 (γ + 2) (v : Int) ∧ M1.1 (β + 3) (v : Int) = M.1 (γ + 3) (v : Int) ∧ M1.1 (β + 4) (v : Int) = M.1 (γ + 4) (v : Int)
def SX0_become : cm_CT := fun as T M Φ => match as with
  | [.ref β, .ref γ] => BkG T M β ∧ BkG T M γ ∧ dB β γ ∧ ∀ M1, Fr M M1 β 134 → BkG T M1 β → bkv M1 β = bkv M γ → Φ none T M1
  | _ => False
def JX0_become : cm_J := (0, false, 0, [(40, 2, 6, 0, 0, SX5_become)], [], [])
theorem jX0_become : JX0_become.1 = 0 ∧ JX0_become.2.1 = false ∧ JX0_become.2.2.1 = 0 ∧ cm_gv JX0_become 40 = some (2, 6, 0, 0, SX5_become) := ⟨rfl, rfl, rfl, rfl⟩
theorem eX0_become (d : Nat) (hd : 3 ≤ d) : cm_Cok d JX0_become := ⟨(List.forall_mem_cons.mpr ⟨q0_40 (mX5_become (d - 1) (by omega)) (by omega), (fun q h => by cases h)⟩), (fun q h => by cases h), (fun q h => by cases h)⟩
set_option maxHeartbeats 4000000 in
theorem lX0_become (d : Nat) (hd : 3 ≤ d) {T : cm_T} {M : cm_M} {Φ : Option Value → cm_T → cm_M → Prop} {β γ : Nat} (hG : BkG T M β) (hH : BkG T M γ) (hdj : dB β γ) (hS : ∀ M1, Fr M M1 β 134 → BkG T M1 β → bkv M1 β = bkv M γ → Φ none T M1) :
    ∀ (k : Nat) (M1 : cm_M), k ≤ (bkv M γ).1 → Fr M M1 β 134 → M1.1 β 0 = M.1 γ 0 → (∀ v, v < 16 → TrG T M1 (β + 6 + 8 * v)) → bCp M M1 β γ k → cm_Go d cX0_become 3 0 0 JX0_become Φ 10 [some (.ref β), some (.ref γ), some (.int (w3 k))] [] (0, 0) T M1 := by
  intro k
  induction hf : ((bkv M γ).1 - k) using Nat.strongRecOn generalizing k with
  | _ fu ih =>
    intro M1 k1 hF hz1 ht1 hc
    obtain ⟨⟨k0, ⟨r1, r2, r3, r4, r5⟩, ⟨-, k2, k3, k4, k5⟩, ⟨l1, l2, l3, l4, l5⟩, rv⟩, hz, hT, hW, hA⟩ := id hG
    have kk1 := hG.1.2.2.1.1
    obtain ⟨⟨K0, ⟨R1, R2, R3, R4, R5⟩, ⟨K1, K2, K3, K4, K5⟩, ⟨L1, L2, L3, L4, L5⟩, RV⟩, HZ, HT, HW, HA⟩ := id hH
    obtain ⟨hn, hn16⟩ := hH.n
    have hdB := hdj
    unfold dB at hdB
    have hz0 : M1.1 β 0 = w3 ((bkv M γ).1 : Int) := hz1.trans (i3_of hn)
    have ek : (w3 (k : Int)).toInt = (k : Int) := w3_toInt (by omega) (by omega)
    have e1 := hF.2
    by_cases hk : k < (bkv M γ).1
    · have rvk := rv k (by omega)
      have RVk := RV k (by omega)
      have kk := (hT k (by omega)).1.1
      have KK := (HT k (by omega)).1.1
      have cI : cm_ix (w3 (k : Int)) 16 := by rw [w3_ix (by omega) (by omega)]; exact ⟨by omega, by omega⟩
      refine cm_go hX0_become 200 oX0_become (eX0_become d hd) lX0_become_10 ?_
      simp only [jX0_become, kX0_become_0, fl_0_9, fl_0_17, fl_0_21, fl_0_25, fl_0_28, k0, kk1, k2, k3, k4, l1, l2, l3, l4, r1, r2, r3, r4, K0, K1, K2, K3, K4, L1, L2, L3, L4, R1, R2, R3, R4, rvk, RVk, kk, KK, hz0, ek, e1, cI, cn_iconst, cn_lconst0, cn_lconst1, cn_null, cn_iload, cn_aload, cn_lload, cn_lo1, cn_loa1, cn_loa2, cn_lol1, cn_get0, cn_gets, cn_put0, cn_puts, cn_istore, cn_astore, cn_astoreN, cn_lstore, cn_iinc, cn_in1, cn_iadd, cn_isub, cn_imul, cn_iand, cn_ior, cn_ixor, cn_ishl, cn_ishr, cn_iushr, cn_idiv, cn_irem, cn_ladd, cn_lmul, cn_ldiv, cn_lrem, cn_i2l, cn_l2i, cn_i2b, cn_lcmp, cn_dupi, cn_dupr, cn_dup2, cn_popi, cn_popr, cn_goto, cn_if_eq, cn_if_ne, cn_if_lt, cn_if_ge, cn_if_gt, cn_if_le, cn_ic_eq, cn_ic_ne, cn_ic_lt, cn_ic_ge, cn_ic_gt, cn_ic_le, cn_ifnullN, cn_ifnullR, cn_ifnonnullN, cn_ifnonnullR, cn_tswS, cn_tsw0, cn_tsw1, cn_lswS, cn_lsw0, cn_lsw1, cn_alen, cn_iaload, cn_laload, cn_rr1, cn_rr0, cn_aaload, cn_iastore, cn_lastore, cn_aastore, cn_getfield, cn_gf0, cn_gf1, cn_gf2, cn_gf3, cn_putfield, cn_pf0f, cn_pf1f, cn_pf2f, cn_pf3f, cn_pf0t, cn_pf1t, cn_pf2t, cn_pf3t, cn_new, cn_nw1, cn_newi, cn_newl, cn_anew, cn_an1, cn_inv_v, cn_inv_s, cn_inv_p, cn_ca1, cn_cb1, cn_pop0, cn_pops, cn_rk0, cn_rk1, cn_kcn, cn_kcs, cn_ireturn, cn_lreturn, cn_areturn, cn_return, cn_re0, cn_re1, cn_re2, cn_re3, cn_re4, cn_re5, cn_wp0, cn_wps, cn_m0, cn_m1, cn_e0, cn_en, cn_ei, cn_er, cn_eu, cn_el, cn_nl0, cn_nls, cn_nb0, cn_nb1, cn_nb2, cn_nb3, cn_bd0, cn_bds, cn_cwi, cn_cwr, cn_cwl, cn_cwn, cn_wi2, cn_wl1, cn_wl3, cn_wr1, cn_wr2, cn_wi_eq, cn_wl_eq, cb_0, cb_n0, cb_b, cm_okb0, cm_okb1, Classical.not_not, true_and, and_true, Nat.reduceAdd, Nat.reduceSub, Nat.reduceLT, Nat.reduceLeDiff, Int.reduceToNat, Int.reduceNatCast', Nat.zero_le, Nat.reduceEqDiff, false_or, or_false, or_true, true_or, Int.reduceNeg, reduceCtorEq, false_implies, implies_true, forall_const, true_implies, not_true_eq_false, not_false_eq_true, Nat.le_refl, ne_eq, if_true, if_false, ite_true, ite_false, List.cons_append, List.nil_append]
      simp (disch := omega) only [w3_le, w3_lt, w3_eq, w3_ix, w3_add, w3_sub, w3_mul, w3_toInt, w3_z]
      refine ⟨fun q => by omega, fun _ => ?_⟩
      have HT1 : TrG T M1 (γ + 6 + 8 * k) := hF.trq (by omega) (HT k (by omega))
      have cI' : 0 ≤ (k : Int) ∧ (k : Int) < ((16 : Nat) : Int) := ⟨by omega, by omega⟩
      refine ⟨ht1 k (by omega), HT1, by unfold dj; omega, fun M2 F2 T2 v2 => ?_⟩
      have e2 := F2.2.trans e1
      have g2 : ∀ q : Nat, (γ ≤ q ∧ q < γ + 6) → M2.1 q = M.1 q := fun q hq => (F2.1 q (by omega)).trans (hF.1 q (by omega))
      have g22 := g2 (γ + 2) (by omega)
      have g23 := g2 (γ + 3) (by omega)
      have g24 := g2 (γ + 4) (by omega)
      simp only [jX0_become, kX0_become_0, fl_0_9, fl_0_17, fl_0_21, fl_0_25, fl_0_28, k0, kk1, k2, k3, k4, l1, l2, l3, l4, r1, r2, r3, r4, K0, K1, K2, K3, K4, L1, L2, L3, L4, R1, R2, R3, R4, ek, e2, cI, cn_iconst, cn_lconst0, cn_lconst1, cn_null, cn_iload, cn_aload, cn_lload, cn_lo1, cn_loa1, cn_loa2, cn_lol1, cn_get0, cn_gets, cn_put0, cn_puts, cn_istore, cn_astore, cn_astoreN, cn_lstore, cn_iinc, cn_in1, cn_iadd, cn_isub, cn_imul, cn_iand, cn_ior, cn_ixor, cn_ishl, cn_ishr, cn_iushr, cn_idiv, cn_irem, cn_ladd, cn_lmul, cn_ldiv, cn_lrem, cn_i2l, cn_l2i, cn_i2b, cn_lcmp, cn_dupi, cn_dupr, cn_dup2, cn_popi, cn_popr, cn_goto, cn_if_eq, cn_if_ne, cn_if_lt, cn_if_ge, cn_if_gt, cn_if_le, cn_ic_eq, cn_ic_ne, cn_ic_lt, cn_ic_ge, cn_ic_gt, cn_ic_le, cn_ifnullN, cn_ifnullR, cn_ifnonnullN, cn_ifnonnullR, cn_tswS, cn_tsw0, cn_tsw1, cn_lswS, cn_lsw0, cn_lsw1, cn_alen, cn_iaload, cn_laload, cn_rr1, cn_rr0, cn_aaload, cn_iastore, cn_lastore, cn_aastore, cn_getfield, cn_gf0, cn_gf1, cn_gf2, cn_gf3, cn_putfield, cn_pf0f, cn_pf1f, cn_pf2f, cn_pf3f, cn_pf0t, cn_pf1t, cn_pf2t, cn_pf3t, cn_new, cn_nw1, cn_newi, cn_newl, cn_anew, cn_an1, cn_inv_v, cn_inv_s, cn_inv_p, cn_ca1, cn_cb1, cn_pop0, cn_pops, cn_rk0, cn_rk1, cn_kcn, cn_kcs, cn_ireturn, cn_lreturn, cn_areturn, cn_return, cn_re0, cn_re1, cn_re2, cn_re3, cn_re4, cn_re5, cn_wp0, cn_wps, cn_m0, cn_m1, cn_e0, cn_en, cn_ei, cn_er, cn_eu, cn_el, cn_nl0, cn_nls, cn_nb0, cn_nb1, cn_nb2, cn_nb3, cn_bd0, cn_bds, cn_cwi, cn_cwr, cn_cwl, cn_cwn, cn_wi2, cn_wl1, cn_wl3, cn_wr1, cn_wr2, cn_wi_eq, cn_wl_eq, cb_0, cb_n0, cb_b, cm_okb0, cm_okb1, Classical.not_not, true_and, and_true, Nat.reduceAdd, Nat.reduceSub, Nat.reduceLT, Nat.reduceLeDiff, Int.reduceToNat, Int.reduceNatCast', Nat.zero_le, Nat.reduceEqDiff, false_or, or_false, or_true, true_or, Int.reduceNeg, reduceCtorEq, false_implies, implies_true, forall_const, true_implies, not_true_eq_false, not_false_eq_true, Nat.le_refl, ne_eq, if_true, if_false, ite_true, ite_false, List.cons_append, List.nil_append]
      rw [cn_wi_ne (a := β + 2) (Or.inl (by omega)), cn_wi_ne (a := β + 3) (Or.inl (by omega)), cn_wi_ne (a := β + 2) (Or.inl (by omega)), g22, g23, g24]
      simp (disch := omega) only [w3_le, w3_lt, w3_eq, w3_ix, w3_add, w3_sub, w3_mul, w3_toInt, w3_z]
      generalize hM3 : cm_wi (cm_wi (cm_wi M2 (β + 2) (k : Int) (M.1 (γ + 2) (k : Int))) (β + 3) (k : Int) (M.1 (γ + 3) (k : Int))) (β + 4) (k : Int) (M.1 (γ + 4) (k : Int)) = M3
      have F3 : Fr M2 M3 (β + 2) 3 := by
        rw [← hM3]
        exact ((Fr.wi (by omega) (by omega)).trans (Fr.wi (by omega) (by omega))).trans (Fr.wi (by omega) (by omega))
      have m2 : ∀ v : Nat, M3.1 (β + 2) (v : Int) = if v = k then M.1 (γ + 2) (k : Int) else M1.1 (β + 2) (v : Int) := by
        intro v
        rw [← hM3, cn_wi_ne (Or.inl (by omega)), cn_wi_ne (Or.inl (by omega))]
        by_cases q : v = k
        · rw [q, if_pos rfl]; exact cn_wi_eq
        · rw [if_neg q, cn_wi_ne (Or.inr (by omega)), F2.1 _ (by omega)]
      have m3 : ∀ v : Nat, M3.1 (β + 3) (v : Int) = if v = k then M.1 (γ + 3) (k : Int) else M1.1 (β + 3) (v : Int) := by
        intro v
        rw [← hM3, cn_wi_ne (Or.inl (by omega))]
        by_cases q : v = k
        · rw [q, if_pos rfl]; exact cn_wi_eq
        · rw [if_neg q, cn_wi_ne (Or.inr (by omega)), cn_wi_ne (Or.inl (by omega)), F2.1 _ (by omega)]
      have m4 : ∀ v : Nat, M3.1 (β + 4) (v : Int) = if v = k then M.1 (γ + 4) (k : Int) else M1.1 (β + 4) (v : Int) := by
        intro v
        rw [← hM3]
        by_cases q : v = k
        · rw [q, if_pos rfl]; exact cn_wi_eq
        · rw [if_neg q, cn_wi_ne (Or.inr (by omega)), cn_wi_ne (Or.inl (by omega)), cn_wi_ne (Or.inl (by omega)), F2.1 _ (by omega)]
      have gk : trv M1 (γ + 6 + 8 * k) = trv M (γ + 6 + 8 * k) := hF.tvq (by omega) (HT k (by omega))
      refine ih ((bkv M γ).1 - (k + 1)) (by omega) (k + 1) rfl M3 (by omega) (hF.trans ((F2.wide (by omega) (by omega)).trans (F3.wide (by omega) (by omega)))) (by rw [F3.1 β (by omega), F2.1 β (by omega)]; exact hz1) ?_ ?_
      · intro v hv
        by_cases q : v = k
        · rw [q]; exact F3.trq (by omega) T2
        · exact F3.trq (by omega) (F2.trq (by omega) (ht1 v hv))
      · intro v hv
        rw [m2 v, m3 v, m4 v]
        by_cases q : v = k
        · rw [if_pos q, if_pos q, if_pos q, q]
          exact ⟨(F3.tvq (by omega) T2).trans (v2.trans gk), rfl, rfl, rfl⟩
        · rw [if_neg q, if_neg q, if_neg q]
          obtain ⟨c1, c2, c3, c4⟩ := hc v (by omega)
          have tq := ht1 v (by omega)
          exact ⟨((F3.tvq (by omega) (F2.trq (by omega) tq)).trans (F2.tvq (by omega) tq)).trans c1, c2, c3, c4⟩
    · have ek2 : k = (bkv M γ).1 := by omega
      refine cm_go hX0_become 200 oX0_become (eX0_become d hd) lX0_become_10 ?_
      simp only [jX0_become, kX0_become_0, fl_0_9, fl_0_17, fl_0_21, fl_0_25, fl_0_28, k0, hz0, ek, cn_iconst, cn_lconst0, cn_lconst1, cn_null, cn_iload, cn_aload, cn_lload, cn_lo1, cn_loa1, cn_loa2, cn_lol1, cn_get0, cn_gets, cn_put0, cn_puts, cn_istore, cn_astore, cn_astoreN, cn_lstore, cn_iinc, cn_in1, cn_iadd, cn_isub, cn_imul, cn_iand, cn_ior, cn_ixor, cn_ishl, cn_ishr, cn_iushr, cn_idiv, cn_irem, cn_ladd, cn_lmul, cn_ldiv, cn_lrem, cn_i2l, cn_l2i, cn_i2b, cn_lcmp, cn_dupi, cn_dupr, cn_dup2, cn_popi, cn_popr, cn_goto, cn_if_eq, cn_if_ne, cn_if_lt, cn_if_ge, cn_if_gt, cn_if_le, cn_ic_eq, cn_ic_ne, cn_ic_lt, cn_ic_ge, cn_ic_gt, cn_ic_le, cn_ifnullN, cn_ifnullR, cn_ifnonnullN, cn_ifnonnullR, cn_tswS, cn_tsw0, cn_tsw1, cn_lswS, cn_lsw0, cn_lsw1, cn_alen, cn_iaload, cn_laload, cn_rr1, cn_rr0, cn_aaload, cn_iastore, cn_lastore, cn_aastore, cn_getfield, cn_gf0, cn_gf1, cn_gf2, cn_gf3, cn_putfield, cn_pf0f, cn_pf1f, cn_pf2f, cn_pf3f, cn_pf0t, cn_pf1t, cn_pf2t, cn_pf3t, cn_new, cn_nw1, cn_newi, cn_newl, cn_anew, cn_an1, cn_inv_v, cn_inv_s, cn_inv_p, cn_ca1, cn_cb1, cn_pop0, cn_pops, cn_rk0, cn_rk1, cn_kcn, cn_kcs, cn_ireturn, cn_lreturn, cn_areturn, cn_return, cn_re0, cn_re1, cn_re2, cn_re3, cn_re4, cn_re5, cn_wp0, cn_wps, cn_m0, cn_m1, cn_e0, cn_en, cn_ei, cn_er, cn_eu, cn_el, cn_nl0, cn_nls, cn_nb0, cn_nb1, cn_nb2, cn_nb3, cn_bd0, cn_bds, cn_cwi, cn_cwr, cn_cwl, cn_cwn, cn_wi2, cn_wl1, cn_wl3, cn_wr1, cn_wr2, cn_wi_eq, cn_wl_eq, cb_0, cb_n0, cb_b, cm_okb0, cm_okb1, Classical.not_not, true_and, and_true, Nat.reduceAdd, Nat.reduceSub, Nat.reduceLT, Nat.reduceLeDiff, Int.reduceToNat, Int.reduceNatCast', Nat.zero_le, Nat.reduceEqDiff, false_or, or_false, or_true, true_or, Int.reduceNeg, reduceCtorEq, false_implies, implies_true, forall_const, true_implies, not_true_eq_false, not_false_eq_true, Nat.le_refl, ne_eq, if_true, if_false, ite_true, ite_false, List.cons_append, List.nil_append]
      simp (disch := omega) only [w3_le, w3_lt, w3_eq, w3_ix, w3_add, w3_sub, w3_mul, w3_toInt, w3_z]
      refine ⟨fun _ => ?_, fun q => by omega⟩
      have hb : bkv M1 β = bkv M γ := by
        refine bkv_eq ?_ ?_ ?_
        · unfold bsz; rw [hz1]; exact hn
        · intro v hv
          obtain ⟨c1, c2, c3, c4⟩ := hc v (by omega)
          rw [bkv_lt hv, c1, c2, c3]
        · intro v hv
          exact bkv_ge (by omega)
      refine hS M1 hF ⟨by rw [hF.2]; exact hG.1, by unfold bsz; rw [hz1]; exact HZ, ht1, by rw [hb]; exact HW, ?_⟩ hb
      rw [hb]
      intro v hv
      obtain ⟨c1, c2, c3, c4⟩ := hc v (by omega)
      rw [c4, HA v hv]
set_option maxHeartbeats 4000000 in
theorem mX0_become (d : Nat) (hd : 3 ≤ d) : cm_Met d yX0_become cX0_become 3 none 0 0 SX0_become := by
  refine cm_meets (J := JX0_become) (by decide) rfl (fun h => by cases h) trivial ?_
  intro as T M Φ hS
  match as, hS with
  | [.ref β, .ref γ], ⟨hG, hH, hdj, hS⟩ =>
    refine ⟨Nat.le_of_ble_eq_true rfl, ?_⟩
    have k0 := hG.1.1
    have K0 := hH.1.1
    have hdB : dB β γ := hdj
    unfold dB at hdB
    refine cm_go hX0_become 200 oX0_become (eX0_become d hd) lX0_become_0 ?_
    simp only [jX0_become, kX0_become_0, fl_0_9, fl_0_17, fl_0_21, fl_0_25, fl_0_28, k0, K0, cn_iconst, cn_lconst0, cn_lconst1, cn_null, cn_iload, cn_aload, cn_lload, cn_lo1, cn_loa1, cn_loa2, cn_lol1, cn_get0, cn_gets, cn_put0, cn_puts, cn_istore, cn_astore, cn_astoreN, cn_lstore, cn_iinc, cn_in1, cn_iadd, cn_isub, cn_imul, cn_iand, cn_ior, cn_ixor, cn_ishl, cn_ishr, cn_iushr, cn_idiv, cn_irem, cn_ladd, cn_lmul, cn_ldiv, cn_lrem, cn_i2l, cn_l2i, cn_i2b, cn_lcmp, cn_dupi, cn_dupr, cn_dup2, cn_popi, cn_popr, cn_goto, cn_if_eq, cn_if_ne, cn_if_lt, cn_if_ge, cn_if_gt, cn_if_le, cn_ic_eq, cn_ic_ne, cn_ic_lt, cn_ic_ge, cn_ic_gt, cn_ic_le, cn_ifnullN, cn_ifnullR, cn_ifnonnullN, cn_ifnonnullR, cn_tswS, cn_tsw0, cn_tsw1, cn_lswS, cn_lsw0, cn_lsw1, cn_alen, cn_iaload, cn_laload, cn_rr1, cn_rr0, cn_aaload, cn_iastore, cn_lastore, cn_aastore, cn_getfield, cn_gf0, cn_gf1, cn_gf2, cn_gf3, cn_putfield, cn_pf0f, cn_pf1f, cn_pf2f, cn_pf3f, cn_pf0t, cn_pf1t, cn_pf2t, cn_pf3t, cn_new, cn_nw1, cn_newi, cn_newl, cn_anew, cn_an1, cn_inv_v, cn_inv_s, cn_inv_p, cn_ca1, cn_cb1, cn_pop0, cn_pops, cn_rk0, cn_rk1, cn_kcn, cn_kcs, cn_ireturn, cn_lreturn, cn_areturn, cn_return, cn_re0, cn_re1, cn_re2, cn_re3, cn_re4, cn_re5, cn_wp0, cn_wps, cn_m0, cn_m1, cn_e0, cn_en, cn_ei, cn_er, cn_eu, cn_el, cn_nl0, cn_nls, cn_nb0, cn_nb1, cn_nb2, cn_nb3, cn_bd0, cn_bds, cn_cwi, cn_cwr, cn_cwl, cn_cwn, cn_wi2, cn_wl1, cn_wl3, cn_wr1, cn_wr2, cn_wi_eq, cn_wl_eq, cb_0, cb_n0, cb_b, cm_okb0, cm_okb1, Classical.not_not, true_and, and_true, Nat.reduceAdd, Nat.reduceSub, Nat.reduceLT, Nat.reduceLeDiff, Int.reduceToNat, Int.reduceNatCast', Nat.zero_le, Nat.reduceEqDiff, false_or, or_false, or_true, true_or, Int.reduceNeg, reduceCtorEq, false_implies, implies_true, forall_const, true_implies, not_true_eq_false, not_false_eq_true, Nat.le_refl, ne_eq, if_true, if_false, ite_true, ite_false, List.cons_append, List.nil_append]
    have F0 : Fr M (cm_wi M β 0 (M.1 γ 0)) β 1 := Fr.wi (by omega) (by omega)
    refine lX0_become d hd hG hH hdj hS 0 _ (Nat.zero_le _) (F0.wide (by omega) (by omega)) cn_wi_eq (fun v hv => F0.trq (by omega) (hG.2.2.1 v hv)) (fun v hv => absurd hv (by omega))

def cn_lki (o : Option Int) (x : Nat) (κ : Nat → cm_LV → List Value → Nat × Nat → cm_T → cm_M → Prop) (pc : Nat) (lv : cm_LV) (st : List Value) (B : Nat × Nat) (T : cm_T) (M : cm_M) : Prop := match o with
  | some v => x < 1000 ∧ κ pc lv (.int (w3 v) :: st) B T M
  | none => False
def cn_lkk (o : Option Int) (x : Nat) (κ : Nat → cm_LV → List Value → Nat × Nat → cm_T → cm_M → Prop) (pc : Nat) (lv : cm_LV) (st : List Value) (B : Nat × Nat) (T : cm_T) (M : cm_M) : Prop := match o with
  | some v => x < 1000 ∧ κ pc lv (.long (w6 v) :: st) B T M
  | none => False
theorem cn_ldi {J : cm_J} {x ln pc : Nat} {lv : cm_LV} {st : List Value} {B : Nat × Nat} {T : cm_T} {M : cm_M} {κ : Nat → cm_LV → List Value → Nat × Nat → cm_T → cm_M → Prop} {ρ : Option Value → cm_T → cm_M → Prop} : cm_stp J (.ldc_w x) ln pc lv st B T M κ ρ = cn_lki (cm_il2 J.1 x) x κ (pc + ln) lv st B T M := by
  show (match cm_il2 J.1 x with | some v => x < 1000 ∧ κ (pc + ln) lv (.int (w3 v) :: st) B T M | none => False) = _
  unfold cn_lki
  rcases cm_il2 J.1 x with _ | v <;> rfl
theorem cn_ldl {J : cm_J} {x ln pc : Nat} {lv : cm_LV} {st : List Value} {B : Nat × Nat} {T : cm_T} {M : cm_M} {κ : Nat → cm_LV → List Value → Nat × Nat → cm_T → cm_M → Prop} {ρ : Option Value → cm_T → cm_M → Prop} : cm_stp J (.ldc2_w x) ln pc lv st B T M κ ρ = cn_lkk (cm_ll J.1 x) x κ (pc + ln) lv st B T M := by
  show (match cm_ll J.1 x with | some v => x < 1000 ∧ κ (pc + ln) lv (.long (w6 v) :: st) B T M | none => False) = _
  unfold cn_lkk
  rcases cm_ll J.1 x with _ | v <;> rfl
theorem cn_lki1 {v : Int} {x pc : Nat} {lv : cm_LV} {st : List Value} {B : Nat × Nat} {T : cm_T} {M : cm_M} {κ : Nat → cm_LV → List Value → Nat × Nat → cm_T → cm_M → Prop} : cn_lki (some v) x κ pc lv st B T M = (x < 1000 ∧ κ pc lv (.int (w3 v) :: st) B T M) := propext Iff.rfl
theorem cn_lkk1 {v : Int} {x pc : Nat} {lv : cm_LV} {st : List Value} {B : Nat × Nat} {T : cm_T} {M : cm_M} {κ : Nat → cm_LV → List Value → Nat × Nat → cm_T → cm_M → Prop} : cn_lkk (some v) x κ pc lv st B T M = (x < 1000 ∧ κ pc lv (.long (w6 v) :: st) B T M) := propext Iff.rfl
def us (x : Int32) (k : Int32) : Int32 := (x.toUInt32 >>> (k.toUInt32 &&& Int32.toUInt32 31)).toInt32
def bc1 (x : Int32) : Int32 := x - (us x (w3 1) &&& w3 1431655765)
def bc2 (x : Int32) : Int32 := (x &&& w3 858993459) + (us x (w3 2) &&& w3 858993459)
def bc3 (x : Int32) : Int32 := (x + us x (w3 4)) &&& w3 252645135
def bc4 (x : Int32) : Int32 := x + us x (w3 8)
def bc5 (x : Int32) : Int32 := x + us x (w3 16)
def bcI (x : Int32) : Int32 := bc5 (bc4 (bc3 (bc2 (bc1 x)))) &&& w3 63
def SJ6_bitCount_0f7a4 : cm_CT := fun as T M Φ => match as with
  | [.int x] => Φ (some (.int (bcI x))) T M
  | _ => False
def JJ6_bitCount_0f7a4 : cm_J := (9, false, 1, [], [], [])
theorem jJ6_bitCount_0f7a4 : JJ6_bitCount_0f7a4.1 = 9 ∧ JJ6_bitCount_0f7a4.2.1 = false ∧ JJ6_bitCount_0f7a4.2.2.1 = 1 := ⟨rfl, rfl, rfl⟩
theorem eJ6_bitCount_0f7a4 (d : Nat) (hd : 0 ≤ d) : cm_Cok d JJ6_bitCount_0f7a4 := ⟨(fun q h => by cases h), (fun q h => by cases h), (fun q h => by cases h)⟩
set_option maxHeartbeats 4000000 in
theorem mJ6_bitCount_0f7a4 (d : Nat) (hd : 0 ≤ d) : cm_Met d yJ6_bitCount_0f7a4 cJ6_bitCount_0f7a4 1 (some .int) 0 0 SJ6_bitCount_0f7a4 := by
  refine cm_meets (J := JJ6_bitCount_0f7a4) (by decide) rfl (fun h => by cases h) trivial ?_
  intro as T M Φ hS
  match as, hS with
  | [.int x], hS =>
    refine ⟨Nat.le_of_ble_eq_true rfl, ?_⟩
    refine cm_go hJ6_bitCount_0f7a4 200 oJ6_bitCount_0f7a4 (eJ6_bitCount_0f7a4 d hd) lJ6_bitCount_0f7a4_0 ?_
    simp only [jJ6_bitCount_0f7a4, kJ6_bitCount_0f7a4_0, il_9_265, il_9_266, il_9_267, cn_ldi, cn_ldl, cn_lki1, cn_lkk1, cn_iconst, cn_lconst0, cn_lconst1, cn_null, cn_iload, cn_aload, cn_lload, cn_lo1, cn_loa1, cn_loa2, cn_lol1, cn_get0, cn_gets, cn_put0, cn_puts, cn_istore, cn_astore, cn_astoreN, cn_lstore, cn_iinc, cn_in1, cn_iadd, cn_isub, cn_imul, cn_iand, cn_ior, cn_ixor, cn_ishl, cn_ishr, cn_iushr, cn_idiv, cn_irem, cn_ladd, cn_lmul, cn_ldiv, cn_lrem, cn_i2l, cn_l2i, cn_i2b, cn_lcmp, cn_dupi, cn_dupr, cn_dup2, cn_popi, cn_popr, cn_goto, cn_if_eq, cn_if_ne, cn_if_lt, cn_if_ge, cn_if_gt, cn_if_le, cn_ic_eq, cn_ic_ne, cn_ic_lt, cn_ic_ge, cn_ic_gt, cn_ic_le, cn_ifnullN, cn_ifnullR, cn_ifnonnullN, cn_ifnonnullR, cn_tswS, cn_tsw0, cn_tsw1, cn_lswS, cn_lsw0, cn_lsw1, cn_alen, cn_iaload, cn_laload, cn_rr1, cn_rr0, cn_aaload, cn_iastore, cn_lastore, cn_aastore, cn_getfield, cn_gf0, cn_gf1, cn_gf2, cn_gf3, cn_putfield, cn_pf0f, cn_pf1f, cn_pf2f, cn_pf3f, cn_pf0t, cn_pf1t, cn_pf2t, cn_pf3t, cn_new, cn_nw1, cn_newi, cn_newl, cn_anew, cn_an1, cn_inv_v, cn_inv_s, cn_inv_p, cn_ca1, cn_cb1, cn_pop0, cn_pops, cn_rk0, cn_rk1, cn_kcn, cn_kcs, cn_ireturn, cn_lreturn, cn_areturn, cn_return, cn_re0, cn_re1, cn_re2, cn_re3, cn_re4, cn_re5, cn_wp0, cn_wps, cn_m0, cn_m1, cn_e0, cn_en, cn_ei, cn_er, cn_eu, cn_el, cn_nl0, cn_nls, cn_nb0, cn_nb1, cn_nb2, cn_nb3, cn_bd0, cn_bds, cn_cwi, cn_cwr, cn_cwl, cn_cwn, cn_wi2, cn_wl1, cn_wl3, cn_wr1, cn_wr2, cn_wi_eq, cn_wl_eq, cb_0, cb_n0, cb_b, cm_okb0, cm_okb1, Classical.not_not, true_and, and_true, Nat.reduceAdd, Nat.reduceSub, Nat.reduceLT, Nat.reduceLeDiff, Int.reduceToNat, Int.reduceNatCast', Nat.zero_le, Nat.reduceEqDiff, false_or, or_false, or_true, true_or, Int.reduceNeg, reduceCtorEq, false_implies, implies_true, forall_const, true_implies, not_true_eq_false, not_false_eq_true, Nat.le_refl, ne_eq, if_true, if_false, ite_true, ite_false, List.cons_append, List.nil_append]
    have hS1 : Φ (some (.int (bcI x))) T M := hS
    unfold bcI bc5 bc4 bc3 bc2 bc1 us at hS1
    exact hS1
def kndI (x : Int32) : Int32 := if bcI x ≤ w3 1 then w3 3 else w3 4
noncomputable def knd (B : Bk) (v : Nat) : Int32 := if ¬ (0 ≤ (B.2 v).2.1 ∧ (B.2 v).2.1 < (B.1 : Int)) then w3 1 else if ¬ (0 ≤ (B.2 v).2.2 ∧ (B.2 v).2.2 < (B.1 : Int)) then w3 2 else kndI (nrB B (B.2 v).2.1 (B.2 v).2.2)
def SX0_kindOf : cm_CT := fun as T M Φ => match as with
  | [.ref β, .int v] => ∃ k : Nat, BkG T M β ∧ v = w3 k ∧ k < (bkv M β).1 ∧ Φ (some (.int (knd (bkv M β) k))) T M
  | _ => False
def JX0_kindOf : cm_J := (0, false, 1, [(48, 2, 1, 0, 0, SX0_has), (59, 3, 1, 0, 0, SX0_nearestOf)], [(63, 1, 0, 0, 0, SJ6_bitCount_0f7a4)], [])
theorem jX0_kindOf : JX0_kindOf.1 = 0 ∧ JX0_kindOf.2.1 = false ∧ JX0_kindOf.2.2.1 = 1 ∧ cm_gv JX0_kindOf 48 = some (2, 1, 0, 0, SX0_has) ∧ cm_gv JX0_kindOf 59 = some (3, 1, 0, 0, SX0_nearestOf) ∧ cm_gs JX0_kindOf 63 = some (1, 0, 0, 0, SJ6_bitCount_0f7a4) := ⟨rfl, rfl, rfl, rfl, rfl, rfl⟩
theorem eX0_kindOf (d : Nat) (hd : 2 ≤ d) : cm_Cok d JX0_kindOf := ⟨(List.forall_mem_cons.mpr ⟨q0_48 (mX0_has (d - 1) (by omega)) (by omega), (List.forall_mem_cons.mpr ⟨q0_59 (mX0_nearestOf (d - 1) (by omega)) (by omega), (fun q h => by cases h)⟩)⟩), (List.forall_mem_cons.mpr ⟨q0_63 (mJ6_bitCount_0f7a4 (d - 1) (by omega)) (by omega), (fun q h => by cases h)⟩), (fun q h => by cases h)⟩
set_option maxHeartbeats 4000000 in
theorem mX0_kindOf (d : Nat) (hd : 2 ≤ d) : cm_Met d yX0_kindOf cX0_kindOf 2 (some .int) 0 0 SX0_kindOf := by
  refine cm_meets (J := JX0_kindOf) (by decide) rfl (fun h => by cases h) trivial ?_
  intro as T M Φ hS
  match as, hS with
  | [.ref β, .int v], ⟨k, hG, hv, hk, hS⟩ =>
    refine ⟨Nat.le_of_ble_eq_true rfl, ?_⟩
    subst hv
    obtain ⟨⟨k0, ⟨r1, r2, r3, r4, r5⟩, ⟨kk1, k2, k3, k4, k5⟩, ⟨l1, l2, l3, l4, l5⟩, rv⟩, hz, hT, hW, hA⟩ := id hG
    obtain ⟨hn, hn16⟩ := hG.n
    have hz0 : M.1 β 0 = w3 ((bkv M β).1 : Int) := i3_of hn

    have ek : (w3 (k : Int)).toInt = (k : Int) := w3_toInt (by omega) (by omega)
    have ix : cm_ix (w3 (k : Int)) 16 := by rw [w3_ix (by omega) (by omega)]; exact ⟨by omega, by omega⟩
    have hr := bkv_lt hk
    unfold knd at hS
    rw [hr] at hS
    refine cm_go hX0_kindOf 200 oX0_kindOf (eX0_kindOf d hd) lX0_kindOf_0 ?_
    simp only [jX0_kindOf, kX0_kindOf_0, fl_0_21, fl_0_25, SX0_has, SX0_nearestOf, SJ6_bitCount_0f7a4, hG, hn, ek, ix, k0, kk1, k2, k3, k4, k5, l1, l2, l3, l4, l5, r1, r2, r3, r4, r5, cn_iconst, cn_lconst0, cn_lconst1, cn_null, cn_iload, cn_aload, cn_lload, cn_lo1, cn_loa1, cn_loa2, cn_lol1, cn_get0, cn_gets, cn_put0, cn_puts, cn_istore, cn_astore, cn_astoreN, cn_lstore, cn_iinc, cn_in1, cn_iadd, cn_isub, cn_imul, cn_iand, cn_ior, cn_ixor, cn_ishl, cn_ishr, cn_iushr, cn_idiv, cn_irem, cn_ladd, cn_lmul, cn_ldiv, cn_lrem, cn_i2l, cn_l2i, cn_i2b, cn_lcmp, cn_dupi, cn_dupr, cn_dup2, cn_popi, cn_popr, cn_goto, cn_if_eq, cn_if_ne, cn_if_lt, cn_if_ge, cn_if_gt, cn_if_le, cn_ic_eq, cn_ic_ne, cn_ic_lt, cn_ic_ge, cn_ic_gt, cn_ic_le, cn_ifnullN, cn_ifnullR, cn_ifnonnullN, cn_ifnonnullR, cn_tswS, cn_tsw0, cn_tsw1, cn_lswS, cn_lsw0, cn_lsw1, cn_alen, cn_iaload, cn_laload, cn_rr1, cn_rr0, cn_aaload, cn_iastore, cn_lastore, cn_aastore, cn_getfield, cn_gf0, cn_gf1, cn_gf2, cn_gf3, cn_putfield, cn_pf0f, cn_pf1f, cn_pf2f, cn_pf3f, cn_pf0t, cn_pf1t, cn_pf2t, cn_pf3t, cn_new, cn_nw1, cn_newi, cn_newl, cn_anew, cn_an1, cn_inv_v, cn_inv_s, cn_inv_p, cn_ca1, cn_cb1, cn_pop0, cn_pops, cn_rk0, cn_rk1, cn_kcn, cn_kcs, cn_ireturn, cn_lreturn, cn_areturn, cn_return, cn_re0, cn_re1, cn_re2, cn_re3, cn_re4, cn_re5, cn_wp0, cn_wps, cn_m0, cn_m1, cn_e0, cn_en, cn_ei, cn_er, cn_eu, cn_el, cn_nl0, cn_nls, cn_nb0, cn_nb1, cn_nb2, cn_nb3, cn_bd0, cn_bds, cn_cwi, cn_cwr, cn_cwl, cn_cwn, cn_wi2, cn_wl1, cn_wl3, cn_wr1, cn_wr2, cn_wi_eq, cn_wl_eq, cb_0, cb_n0, cb_b, cm_okb0, cm_okb1, Classical.not_not, true_and, and_true, Nat.reduceAdd, Nat.reduceSub, Nat.reduceLT, Nat.reduceLeDiff, Int.reduceToNat, Int.reduceNatCast', Nat.zero_le, Nat.reduceEqDiff, false_or, or_false, or_true, true_or, Int.reduceNeg, reduceCtorEq, false_implies, implies_true, forall_const, true_implies, not_true_eq_false, not_false_eq_true, Nat.le_refl, ne_eq, if_true, if_false, ite_true, ite_false, List.cons_append, List.nil_append]
    dsimp only at hS
    unfold kndI at hS
    refine ⟨fun q => ⟨fun q2 => ⟨fun q3 => ?_, fun q3 => ?_⟩, fun q2 => ?_⟩, fun q => ?_⟩
    · rw [if_neg (not_not_intro q), if_neg (not_not_intro q2), if_pos q3] at hS; exact hS
    · rw [if_neg (not_not_intro q), if_neg (not_not_intro q2), if_neg q3] at hS; exact hS
    · rw [if_neg (not_not_intro q), if_pos q2] at hS; exact hS
    · rw [if_pos q] at hS; exact hS
noncomputable def cKn (B : Bk) (lo hi : Int32) : Nat → Nat
  | 0 => 0
  | k + 1 => if knd B k < lo then cKn B lo hi k else if hi < knd B k then cKn B lo hi k else cKn B lo hi k + 1
theorem cKn_le (B : Bk) (lo hi : Int32) : ∀ k, cKn B lo hi k ≤ k
  | 0 => Nat.le_refl _
  | k + 1 => by
    have := cKn_le B lo hi k
    simp only [cKn]
    split
    · omega
    · split <;> omega
def SX0_countKinds : cm_CT := fun as T M Φ => match as with
  | [.ref β, .int lo, .int hi] => BkG T M β ∧ Φ (some (.int (w3 (cKn (bkv M β) lo hi (bkv M β).1 : Int)))) T M
  | _ => False
def JX0_countKinds : cm_J := (0, false, 1, [(68, 2, 1, 0, 0, SX0_kindOf)], [], [])
theorem jX0_countKinds : JX0_countKinds.1 = 0 ∧ JX0_countKinds.2.1 = false ∧ JX0_countKinds.2.2.1 = 1 ∧ cm_gv JX0_countKinds 68 = some (2, 1, 0, 0, SX0_kindOf) := ⟨rfl, rfl, rfl, rfl⟩
theorem eX0_countKinds (d : Nat) (hd : 3 ≤ d) : cm_Cok d JX0_countKinds := ⟨(List.forall_mem_cons.mpr ⟨q0_68 (mX0_kindOf (d - 1) (by omega)) (by omega), (fun q h => by cases h)⟩), (fun q h => by cases h), (fun q h => by cases h)⟩
set_option maxHeartbeats 4000000 in
theorem lX0_countKinds (d : Nat) (hd : 3 ≤ d) {T : cm_T} {M : cm_M} {Φ : Option Value → cm_T → cm_M → Prop} {β : Nat} {lo hi : Int32} (hG : BkG T M β) (hS : Φ (some (.int (w3 (cKn (bkv M β) lo hi (bkv M β).1 : Int)))) T M) :
    ∀ (k : Nat) (o5 : Option Value), k ≤ (bkv M β).1 → cm_Go d cX0_countKinds 6 0 0 JX0_countKinds Φ 5 [some (.ref β), some (.int lo), some (.int hi), some (.int (w3 (cKn (bkv M β) lo hi k : Int))), some (.int (w3 k)), o5] [] (0, 0) T M := by
  intro k
  induction hf : ((bkv M β).1 - k) using Nat.strongRecOn generalizing k with
  | _ fu ih =>
    intro o5 k1
    obtain ⟨⟨k0, ⟨r1, r2, r3, r4, r5⟩, ⟨kk1, k2, k3, k4, k5⟩, ⟨l1, l2, l3, l4, l5⟩, rv⟩, hz, hT, hW, hA⟩ := id hG
    obtain ⟨hn, hn16⟩ := hG.n
    have hz0 : M.1 β 0 = w3 ((bkv M β).1 : Int) := i3_of hn

    have cl := cKn_le (bkv M β) lo hi k
    refine cm_go hX0_countKinds 200 oX0_countKinds (eX0_countKinds d hd) lX0_countKinds_5 ?_
    simp only [jX0_countKinds, kX0_countKinds_0, fl_0_9, hz0, k0, kk1, k2, k3, k4, k5, l1, l2, l3, l4, l5, r1, r2, r3, r4, r5, cn_iconst, cn_lconst0, cn_lconst1, cn_null, cn_iload, cn_aload, cn_lload, cn_lo1, cn_loa1, cn_loa2, cn_lol1, cn_get0, cn_gets, cn_put0, cn_puts, cn_istore, cn_astore, cn_astoreN, cn_lstore, cn_iinc, cn_in1, cn_iadd, cn_isub, cn_imul, cn_iand, cn_ior, cn_ixor, cn_ishl, cn_ishr, cn_iushr, cn_idiv, cn_irem, cn_ladd, cn_lmul, cn_ldiv, cn_lrem, cn_i2l, cn_l2i, cn_i2b, cn_lcmp, cn_dupi, cn_dupr, cn_dup2, cn_popi, cn_popr, cn_goto, cn_if_eq, cn_if_ne, cn_if_lt, cn_if_ge, cn_if_gt, cn_if_le, cn_ic_eq, cn_ic_ne, cn_ic_lt, cn_ic_ge, cn_ic_gt, cn_ic_le, cn_ifnullN, cn_ifnullR, cn_ifnonnullN, cn_ifnonnullR, cn_tswS, cn_tsw0, cn_tsw1, cn_lswS, cn_lsw0, cn_lsw1, cn_alen, cn_iaload, cn_laload, cn_rr1, cn_rr0, cn_aaload, cn_iastore, cn_lastore, cn_aastore, cn_getfield, cn_gf0, cn_gf1, cn_gf2, cn_gf3, cn_putfield, cn_pf0f, cn_pf1f, cn_pf2f, cn_pf3f, cn_pf0t, cn_pf1t, cn_pf2t, cn_pf3t, cn_new, cn_nw1, cn_newi, cn_newl, cn_anew, cn_an1, cn_inv_v, cn_inv_s, cn_inv_p, cn_ca1, cn_cb1, cn_pop0, cn_pops, cn_rk0, cn_rk1, cn_kcn, cn_kcs, cn_ireturn, cn_lreturn, cn_areturn, cn_return, cn_re0, cn_re1, cn_re2, cn_re3, cn_re4, cn_re5, cn_wp0, cn_wps, cn_m0, cn_m1, cn_e0, cn_en, cn_ei, cn_er, cn_eu, cn_el, cn_nl0, cn_nls, cn_nb0, cn_nb1, cn_nb2, cn_nb3, cn_bd0, cn_bds, cn_cwi, cn_cwr, cn_cwl, cn_cwn, cn_wi2, cn_wl1, cn_wl3, cn_wr1, cn_wr2, cn_wi_eq, cn_wl_eq, cb_0, cb_n0, cb_b, cm_okb0, cm_okb1, Classical.not_not, true_and, and_true, Nat.reduceAdd, Nat.reduceSub, Nat.reduceLT, Nat.reduceLeDiff, Int.reduceToNat, Int.reduceNatCast', Nat.zero_le, Nat.reduceEqDiff, false_or, or_false, or_true, true_or, Int.reduceNeg, reduceCtorEq, false_implies, implies_true, forall_const, true_implies, not_true_eq_false, not_false_eq_true, Nat.le_refl, ne_eq, if_true, if_false, ite_true, ite_false, List.cons_append, List.nil_append]
    simp (disch := omega) only [w3_le, w3_lt, w3_eq, w3_ix, w3_add, w3_sub, w3_mul, w3_toInt, w3_z]
    refine ⟨fun q => ?_, fun q => ⟨k, hG, rfl, by omega, ?_⟩⟩
    · rw [show k = (bkv M β).1 by omega]; exact hS
    · simp only [jX0_countKinds, kX0_countKinds_0, fl_0_9, k0, kk1, k2, k3, k4, k5, l1, l2, l3, l4, l5, r1, r2, r3, r4, r5, cn_iconst, cn_lconst0, cn_lconst1, cn_null, cn_iload, cn_aload, cn_lload, cn_lo1, cn_loa1, cn_loa2, cn_lol1, cn_get0, cn_gets, cn_put0, cn_puts, cn_istore, cn_astore, cn_astoreN, cn_lstore, cn_iinc, cn_in1, cn_iadd, cn_isub, cn_imul, cn_iand, cn_ior, cn_ixor, cn_ishl, cn_ishr, cn_iushr, cn_idiv, cn_irem, cn_ladd, cn_lmul, cn_ldiv, cn_lrem, cn_i2l, cn_l2i, cn_i2b, cn_lcmp, cn_dupi, cn_dupr, cn_dup2, cn_popi, cn_popr, cn_goto, cn_if_eq, cn_if_ne, cn_if_lt, cn_if_ge, cn_if_gt, cn_if_le, cn_ic_eq, cn_ic_ne, cn_ic_lt, cn_ic_ge, cn_ic_gt, cn_ic_le, cn_ifnullN, cn_ifnullR, cn_ifnonnullN, cn_ifnonnullR, cn_tswS, cn_tsw0, cn_tsw1, cn_lswS, cn_lsw0, cn_lsw1, cn_alen, cn_iaload, cn_laload, cn_rr1, cn_rr0, cn_aaload, cn_iastore, cn_lastore, cn_aastore, cn_getfield, cn_gf0, cn_gf1, cn_gf2, cn_gf3, cn_putfield, cn_pf0f, cn_pf1f, cn_pf2f, cn_pf3f, cn_pf0t, cn_pf1t, cn_pf2t, cn_pf3t, cn_new, cn_nw1, cn_newi, cn_newl, cn_anew, cn_an1, cn_inv_v, cn_inv_s, cn_inv_p, cn_ca1, cn_cb1, cn_pop0, cn_pops, cn_rk0, cn_rk1, cn_kcn, cn_kcs, cn_ireturn, cn_lreturn, cn_areturn, cn_return, cn_re0, cn_re1, cn_re2, cn_re3, cn_re4, cn_re5, cn_wp0, cn_wps, cn_m0, cn_m1, cn_e0, cn_en, cn_ei, cn_er, cn_eu, cn_el, cn_nl0, cn_nls, cn_nb0, cn_nb1, cn_nb2, cn_nb3, cn_bd0, cn_bds, cn_cwi, cn_cwr, cn_cwl, cn_cwn, cn_wi2, cn_wl1, cn_wl3, cn_wr1, cn_wr2, cn_wi_eq, cn_wl_eq, cb_0, cb_n0, cb_b, cm_okb0, cm_okb1, Classical.not_not, true_and, and_true, Nat.reduceAdd, Nat.reduceSub, Nat.reduceLT, Nat.reduceLeDiff, Int.reduceToNat, Int.reduceNatCast', Nat.zero_le, Nat.reduceEqDiff, false_or, or_false, or_true, true_or, Int.reduceNeg, reduceCtorEq, false_implies, implies_true, forall_const, true_implies, not_true_eq_false, not_false_eq_true, Nat.le_refl, ne_eq, if_true, if_false, ite_true, ite_false, List.cons_append, List.nil_append]
      simp (disch := omega) only [w3_le, w3_lt, w3_eq, w3_ix, w3_add, w3_sub, w3_mul, w3_toInt, w3_z]
      have hi1 := fun o => ih ((bkv M β).1 - (k + 1)) (by omega) (k + 1) rfl o (by omega)
      simp only [cKn] at hi1
      refine ⟨fun q1 => ?_, fun q1 => ⟨fun q2 => ?_, fun q2 => ?_⟩⟩
      · rw [if_pos q1] at hi1; exact hi1 _
      · rw [if_neg q1, if_pos q2] at hi1; exact hi1 _
      · rw [if_neg q1, if_neg q2] at hi1; exact hi1 _
set_option maxHeartbeats 4000000 in
theorem mX0_countKinds (d : Nat) (hd : 3 ≤ d) : cm_Met d yX0_countKinds cX0_countKinds 6 (some .int) 0 0 SX0_countKinds := by
  refine cm_meets (J := JX0_countKinds) (by decide) rfl (fun h => by cases h) trivial ?_
  intro as T M Φ hS
  match as, hS with
  | [.ref β, .int lo, .int hi], ⟨hG, hS⟩ =>
    refine ⟨Nat.le_of_ble_eq_true rfl, ?_⟩
    refine cm_go hX0_countKinds 200 oX0_countKinds (eX0_countKinds d hd) lX0_countKinds_0 ?_
    simp only [jX0_countKinds, kX0_countKinds_0, fl_0_9, cn_iconst, cn_lconst0, cn_lconst1, cn_null, cn_iload, cn_aload, cn_lload, cn_lo1, cn_loa1, cn_loa2, cn_lol1, cn_get0, cn_gets, cn_put0, cn_puts, cn_istore, cn_astore, cn_astoreN, cn_lstore, cn_iinc, cn_in1, cn_iadd, cn_isub, cn_imul, cn_iand, cn_ior, cn_ixor, cn_ishl, cn_ishr, cn_iushr, cn_idiv, cn_irem, cn_ladd, cn_lmul, cn_ldiv, cn_lrem, cn_i2l, cn_l2i, cn_i2b, cn_lcmp, cn_dupi, cn_dupr, cn_dup2, cn_popi, cn_popr, cn_goto, cn_if_eq, cn_if_ne, cn_if_lt, cn_if_ge, cn_if_gt, cn_if_le, cn_ic_eq, cn_ic_ne, cn_ic_lt, cn_ic_ge, cn_ic_gt, cn_ic_le, cn_ifnullN, cn_ifnullR, cn_ifnonnullN, cn_ifnonnullR, cn_tswS, cn_tsw0, cn_tsw1, cn_lswS, cn_lsw0, cn_lsw1, cn_alen, cn_iaload, cn_laload, cn_rr1, cn_rr0, cn_aaload, cn_iastore, cn_lastore, cn_aastore, cn_getfield, cn_gf0, cn_gf1, cn_gf2, cn_gf3, cn_putfield, cn_pf0f, cn_pf1f, cn_pf2f, cn_pf3f, cn_pf0t, cn_pf1t, cn_pf2t, cn_pf3t, cn_new, cn_nw1, cn_newi, cn_newl, cn_anew, cn_an1, cn_inv_v, cn_inv_s, cn_inv_p, cn_ca1, cn_cb1, cn_pop0, cn_pops, cn_rk0, cn_rk1, cn_kcn, cn_kcs, cn_ireturn, cn_lreturn, cn_areturn, cn_return, cn_re0, cn_re1, cn_re2, cn_re3, cn_re4, cn_re5, cn_wp0, cn_wps, cn_m0, cn_m1, cn_e0, cn_en, cn_ei, cn_er, cn_eu, cn_el, cn_nl0, cn_nls, cn_nb0, cn_nb1, cn_nb2, cn_nb3, cn_bd0, cn_bds, cn_cwi, cn_cwr, cn_cwl, cn_cwn, cn_wi2, cn_wl1, cn_wl3, cn_wr1, cn_wr2, cn_wi_eq, cn_wl_eq, cb_0, cb_n0, cb_b, cm_okb0, cm_okb1, Classical.not_not, true_and, and_true, Nat.reduceAdd, Nat.reduceSub, Nat.reduceLT, Nat.reduceLeDiff, Int.reduceToNat, Int.reduceNatCast', Nat.zero_le, Nat.reduceEqDiff, false_or, or_false, or_true, true_or, Int.reduceNeg, reduceCtorEq, false_implies, implies_true, forall_const, true_implies, not_true_eq_false, not_false_eq_true, Nat.le_refl, ne_eq, if_true, if_false, ite_true, ite_false, List.cons_append, List.nil_append]
    exact lX0_countKinds d hd hG hS 0 none (Nat.zero_le _)
noncomputable def tpL (B : Bk) : Nat → Int32
  | 0 => w3 0
  | k + 1 => tpL B k ||| (anc B k &&& (bt k ^^^ w3 (-1)))
noncomputable def tpB (B : Bk) : Int32 := ((w3 1 <<< (w3 (B.1 : Int) &&& 31)) - w3 1) &&& (tpL B B.1 ^^^ w3 (-1))
def SX0_tips : cm_CT := fun as T M Φ => match as with
  | [.ref β] => BkG T M β ∧ Φ (some (.int (tpB (bkv M β)))) T M
  | _ => False
def JX0_tips : cm_J := (0, false, 1, [], [], [])
theorem jX0_tips : JX0_tips.1 = 0 ∧ JX0_tips.2.1 = false ∧ JX0_tips.2.2.1 = 1 := ⟨rfl, rfl, rfl⟩
theorem eX0_tips (d : Nat) (hd : 0 ≤ d) : cm_Cok d JX0_tips := ⟨(fun q h => by cases h), (fun q h => by cases h), (fun q h => by cases h)⟩
set_option maxHeartbeats 4000000 in
theorem lX0_tips (d : Nat) (hd : 0 ≤ d) {T : cm_T} {M : cm_M} {Φ : Option Value → cm_T → cm_M → Prop} {β : Nat} (hG : BkG T M β) (hS : Φ (some (.int (tpB (bkv M β)))) T M) :
    ∀ (k : Nat), k ≤ (bkv M β).1 → cm_Go d cX0_tips 3 0 0 JX0_tips Φ 4 [some (.ref β), some (.int (tpL (bkv M β) k)), some (.int (w3 k))] [] (0, 0) T M := by
  intro k
  induction hf : ((bkv M β).1 - k) using Nat.strongRecOn generalizing k with
  | _ fu ih =>
    intro k1
    obtain ⟨⟨k0, ⟨r1, r2, r3, r4, r5⟩, ⟨kk1, k2, k3, k4, k5⟩, ⟨l1, l2, l3, l4, l5⟩, rv⟩, hz, hT, hW, hA⟩ := id hG
    obtain ⟨hn, hn16⟩ := hG.n
    have hz0 : M.1 β 0 = w3 ((bkv M β).1 : Int) := i3_of hn

    have ek : (w3 (k : Int)).toInt = (k : Int) := w3_toInt (by omega) (by omega)
    refine cm_go hX0_tips 200 oX0_tips (eX0_tips d hd) lX0_tips_4 ?_
    simp only [jX0_tips, kX0_tips_0, fl_0_9, fl_0_28, hz0, ek, k0, kk1, k2, k3, k4, k5, l1, l2, l3, l4, l5, r1, r2, r3, r4, r5, cn_iconst, cn_lconst0, cn_lconst1, cn_null, cn_iload, cn_aload, cn_lload, cn_lo1, cn_loa1, cn_loa2, cn_lol1, cn_get0, cn_gets, cn_put0, cn_puts, cn_istore, cn_astore, cn_astoreN, cn_lstore, cn_iinc, cn_in1, cn_iadd, cn_isub, cn_imul, cn_iand, cn_ior, cn_ixor, cn_ishl, cn_ishr, cn_iushr, cn_idiv, cn_irem, cn_ladd, cn_lmul, cn_ldiv, cn_lrem, cn_i2l, cn_l2i, cn_i2b, cn_lcmp, cn_dupi, cn_dupr, cn_dup2, cn_popi, cn_popr, cn_goto, cn_if_eq, cn_if_ne, cn_if_lt, cn_if_ge, cn_if_gt, cn_if_le, cn_ic_eq, cn_ic_ne, cn_ic_lt, cn_ic_ge, cn_ic_gt, cn_ic_le, cn_ifnullN, cn_ifnullR, cn_ifnonnullN, cn_ifnonnullR, cn_tswS, cn_tsw0, cn_tsw1, cn_lswS, cn_lsw0, cn_lsw1, cn_alen, cn_iaload, cn_laload, cn_rr1, cn_rr0, cn_aaload, cn_iastore, cn_lastore, cn_aastore, cn_getfield, cn_gf0, cn_gf1, cn_gf2, cn_gf3, cn_putfield, cn_pf0f, cn_pf1f, cn_pf2f, cn_pf3f, cn_pf0t, cn_pf1t, cn_pf2t, cn_pf3t, cn_new, cn_nw1, cn_newi, cn_newl, cn_anew, cn_an1, cn_inv_v, cn_inv_s, cn_inv_p, cn_ca1, cn_cb1, cn_pop0, cn_pops, cn_rk0, cn_rk1, cn_kcn, cn_kcs, cn_ireturn, cn_lreturn, cn_areturn, cn_return, cn_re0, cn_re1, cn_re2, cn_re3, cn_re4, cn_re5, cn_wp0, cn_wps, cn_m0, cn_m1, cn_e0, cn_en, cn_ei, cn_er, cn_eu, cn_el, cn_nl0, cn_nls, cn_nb0, cn_nb1, cn_nb2, cn_nb3, cn_bd0, cn_bds, cn_cwi, cn_cwr, cn_cwl, cn_cwn, cn_wi2, cn_wl1, cn_wl3, cn_wr1, cn_wr2, cn_wi_eq, cn_wl_eq, cb_0, cb_n0, cb_b, cm_okb0, cm_okb1, Classical.not_not, true_and, and_true, Nat.reduceAdd, Nat.reduceSub, Nat.reduceLT, Nat.reduceLeDiff, Int.reduceToNat, Int.reduceNatCast', Nat.zero_le, Nat.reduceEqDiff, false_or, or_false, or_true, true_or, Int.reduceNeg, reduceCtorEq, false_implies, implies_true, forall_const, true_implies, not_true_eq_false, not_false_eq_true, Nat.le_refl, ne_eq, if_true, if_false, ite_true, ite_false, List.cons_append, List.nil_append]
    simp (disch := omega) only [w3_le, w3_ix]
    refine ⟨fun q => ?_, fun q => ⟨⟨by omega, by omega⟩, ?_⟩⟩
    · rw [show k = (bkv M β).1 by omega]; exact hS
    · rw [hA k (by omega), w3_add]
      exact ih ((bkv M β).1 - (k + 1)) (by omega) (k + 1) rfl (by omega)
set_option maxHeartbeats 4000000 in
theorem mX0_tips (d : Nat) (hd : 0 ≤ d) : cm_Met d yX0_tips cX0_tips 3 (some .int) 0 0 SX0_tips := by
  refine cm_meets (J := JX0_tips) (by decide) rfl (fun h => by cases h) trivial ?_
  intro as T M Φ hS
  match as, hS with
  | [.ref β], ⟨hG, hS⟩ =>
    refine ⟨Nat.le_of_ble_eq_true rfl, ?_⟩
    refine cm_go hX0_tips 200 oX0_tips (eX0_tips d hd) lX0_tips_0 ?_
    simp only [jX0_tips, kX0_tips_0, fl_0_9, fl_0_28, cn_iconst, cn_lconst0, cn_lconst1, cn_null, cn_iload, cn_aload, cn_lload, cn_lo1, cn_loa1, cn_loa2, cn_lol1, cn_get0, cn_gets, cn_put0, cn_puts, cn_istore, cn_astore, cn_astoreN, cn_lstore, cn_iinc, cn_in1, cn_iadd, cn_isub, cn_imul, cn_iand, cn_ior, cn_ixor, cn_ishl, cn_ishr, cn_iushr, cn_idiv, cn_irem, cn_ladd, cn_lmul, cn_ldiv, cn_lrem, cn_i2l, cn_l2i, cn_i2b, cn_lcmp, cn_dupi, cn_dupr, cn_dup2, cn_popi, cn_popr, cn_goto, cn_if_eq, cn_if_ne, cn_if_lt, cn_if_ge, cn_if_gt, cn_if_le, cn_ic_eq, cn_ic_ne, cn_ic_lt, cn_ic_ge, cn_ic_gt, cn_ic_le, cn_ifnullN, cn_ifnullR, cn_ifnonnullN, cn_ifnonnullR, cn_tswS, cn_tsw0, cn_tsw1, cn_lswS, cn_lsw0, cn_lsw1, cn_alen, cn_iaload, cn_laload, cn_rr1, cn_rr0, cn_aaload, cn_iastore, cn_lastore, cn_aastore, cn_getfield, cn_gf0, cn_gf1, cn_gf2, cn_gf3, cn_putfield, cn_pf0f, cn_pf1f, cn_pf2f, cn_pf3f, cn_pf0t, cn_pf1t, cn_pf2t, cn_pf3t, cn_new, cn_nw1, cn_newi, cn_newl, cn_anew, cn_an1, cn_inv_v, cn_inv_s, cn_inv_p, cn_ca1, cn_cb1, cn_pop0, cn_pops, cn_rk0, cn_rk1, cn_kcn, cn_kcs, cn_ireturn, cn_lreturn, cn_areturn, cn_return, cn_re0, cn_re1, cn_re2, cn_re3, cn_re4, cn_re5, cn_wp0, cn_wps, cn_m0, cn_m1, cn_e0, cn_en, cn_ei, cn_er, cn_eu, cn_el, cn_nl0, cn_nls, cn_nb0, cn_nb1, cn_nb2, cn_nb3, cn_bd0, cn_bds, cn_cwi, cn_cwr, cn_cwl, cn_cwn, cn_wi2, cn_wl1, cn_wl3, cn_wr1, cn_wr2, cn_wi_eq, cn_wl_eq, cb_0, cb_n0, cb_b, cm_okb0, cm_okb1, Classical.not_not, true_and, and_true, Nat.reduceAdd, Nat.reduceSub, Nat.reduceLT, Nat.reduceLeDiff, Int.reduceToNat, Int.reduceNatCast', Nat.zero_le, Nat.reduceEqDiff, false_or, or_false, or_true, true_or, Int.reduceNeg, reduceCtorEq, false_implies, implies_true, forall_const, true_implies, not_true_eq_false, not_false_eq_true, Nat.le_refl, ne_eq, if_true, if_false, ite_true, ite_false, List.cons_append, List.nil_append]
    exact lX0_tips d hd hG hS 0 (Nat.zero_le _)
def totT (x : Tv) (w : Int) : Int := meas x.2.1 w + meas x.2.2.1 w + meas x.2.2.2 w
theorem tot_tv {M : cm_M} {t : Nat} {w : Int} : tot M t w = totT (trv M t) w := rfl
def tots (B : Bk) (w : Int) : Nat → Int
  | 0 => 0
  | k + 1 => tots B w k + totT (B.2 k).1 w
def torns (B : Bk) : Nat → Int32
  | 0 => w3 0
  | k + 1 => torns B k + bcI (B.2 k).1.1
def SX0_total : cm_CT := fun as T M Φ => match as with
  | [.ref β, .int w] => BkG T M β ∧ Φ (some (.int (w3 (tots (bkv M β) w.toInt (bkv M β).1)))) T M
  | _ => False
def JX0_total : cm_J := (0, false, 1, [(71, 2, 6, 0, 0, SX5_total)], [], [])
theorem jX0_total : JX0_total.1 = 0 ∧ JX0_total.2.1 = false ∧ JX0_total.2.2.1 = 1 ∧ cm_gv JX0_total 71 = some (2, 6, 0, 0, SX5_total) := ⟨rfl, rfl, rfl, rfl⟩
theorem eX0_total (d : Nat) (hd : 4 ≤ d) : cm_Cok d JX0_total := ⟨(List.forall_mem_cons.mpr ⟨q0_71 (mX5_total (d - 1) (by omega)) (by omega), (fun q h => by cases h)⟩), (fun q h => by cases h), (fun q h => by cases h)⟩
set_option maxHeartbeats 4000000 in
theorem lX0_total (d : Nat) (hd : 4 ≤ d) {T : cm_T} {M : cm_M} {Φ : Option Value → cm_T → cm_M → Prop} {β : Nat} {w : Int32} (hG : BkG T M β) (hS : Φ (some (.int (w3 (tots (bkv M β) w.toInt (bkv M β).1)))) T M) :
    ∀ (k : Nat), k ≤ (bkv M β).1 → cm_Go d cX0_total 4 0 0 JX0_total Φ 4 [some (.ref β), some (.int w), some (.int (w3 (tots (bkv M β) w.toInt k))), some (.int (w3 k))] [] (0, 0) T M := by
  intro k
  induction hf : ((bkv M β).1 - k) using Nat.strongRecOn generalizing k with
  | _ fu ih =>
    intro k1
    obtain ⟨⟨k0, ⟨r1, r2, r3, r4, r5⟩, ⟨kk1, k2, k3, k4, k5⟩, ⟨l1, l2, l3, l4, l5⟩, rv⟩, hz, hT, hW, hA⟩ := id hG
    obtain ⟨hn, hn16⟩ := hG.n
    have hz0 : M.1 β 0 = w3 ((bkv M β).1 : Int) := i3_of hn

    have ek : (w3 (k : Int)).toInt = (k : Int) := w3_toInt (by omega) (by omega)
    by_cases hk : k < (bkv M β).1
    · have rvk := rv k (by omega)
      have ht := hT k (by omega)
      have kt := ht.1.1
      have ix : cm_ix (w3 (k : Int)) 16 := by rw [w3_ix (by omega) (by omega)]; exact ⟨by omega, by omega⟩
      have hr : tots (bkv M β) w.toInt (k + 1) = tots (bkv M β) w.toInt k + tot M (β + 6 + 8 * k) w.toInt := by
        show _ + totT ((bkv M β).2 k).1 w.toInt = _
        rw [bkv_lt hk, tot_tv]
      refine cm_go hX0_total 200 oX0_total (eX0_total d hd) lX0_total_4 ?_
      simp only [jX0_total, kX0_total_0, fl_0_9, fl_0_17, SX5_total, hz0, ek, rvk, ht, kt, ix, w3_add, k0, kk1, k2, k3, k4, k5, l1, l2, l3, l4, l5, r1, r2, r3, r4, r5, cn_iconst, cn_lconst0, cn_lconst1, cn_null, cn_iload, cn_aload, cn_lload, cn_lo1, cn_loa1, cn_loa2, cn_lol1, cn_get0, cn_gets, cn_put0, cn_puts, cn_istore, cn_astore, cn_astoreN, cn_lstore, cn_iinc, cn_in1, cn_iadd, cn_isub, cn_imul, cn_iand, cn_ior, cn_ixor, cn_ishl, cn_ishr, cn_iushr, cn_idiv, cn_irem, cn_ladd, cn_lmul, cn_ldiv, cn_lrem, cn_i2l, cn_l2i, cn_i2b, cn_lcmp, cn_dupi, cn_dupr, cn_dup2, cn_popi, cn_popr, cn_goto, cn_if_eq, cn_if_ne, cn_if_lt, cn_if_ge, cn_if_gt, cn_if_le, cn_ic_eq, cn_ic_ne, cn_ic_lt, cn_ic_ge, cn_ic_gt, cn_ic_le, cn_ifnullN, cn_ifnullR, cn_ifnonnullN, cn_ifnonnullR, cn_tswS, cn_tsw0, cn_tsw1, cn_lswS, cn_lsw0, cn_lsw1, cn_alen, cn_iaload, cn_laload, cn_rr1, cn_rr0, cn_aaload, cn_iastore, cn_lastore, cn_aastore, cn_getfield, cn_gf0, cn_gf1, cn_gf2, cn_gf3, cn_putfield, cn_pf0f, cn_pf1f, cn_pf2f, cn_pf3f, cn_pf0t, cn_pf1t, cn_pf2t, cn_pf3t, cn_new, cn_nw1, cn_newi, cn_newl, cn_anew, cn_an1, cn_inv_v, cn_inv_s, cn_inv_p, cn_ca1, cn_cb1, cn_pop0, cn_pops, cn_rk0, cn_rk1, cn_kcn, cn_kcs, cn_ireturn, cn_lreturn, cn_areturn, cn_return, cn_re0, cn_re1, cn_re2, cn_re3, cn_re4, cn_re5, cn_wp0, cn_wps, cn_m0, cn_m1, cn_e0, cn_en, cn_ei, cn_er, cn_eu, cn_el, cn_nl0, cn_nls, cn_nb0, cn_nb1, cn_nb2, cn_nb3, cn_bd0, cn_bds, cn_cwi, cn_cwr, cn_cwl, cn_cwn, cn_wi2, cn_wl1, cn_wl3, cn_wr1, cn_wr2, cn_wi_eq, cn_wl_eq, cb_0, cb_n0, cb_b, cm_okb0, cm_okb1, Classical.not_not, true_and, and_true, Nat.reduceAdd, Nat.reduceSub, Nat.reduceLT, Nat.reduceLeDiff, Int.reduceToNat, Int.reduceNatCast', Nat.zero_le, Nat.reduceEqDiff, false_or, or_false, or_true, true_or, Int.reduceNeg, reduceCtorEq, false_implies, implies_true, forall_const, true_implies, not_true_eq_false, not_false_eq_true, Nat.le_refl, ne_eq, if_true, if_false, ite_true, ite_false, List.cons_append, List.nil_append]
      simp (disch := omega) only [w3_le]
      refine ⟨fun q => by omega, fun q => ?_⟩
      have := ih ((bkv M β).1 - (k + 1)) (by omega) (k + 1) rfl (by omega)
      rw [hr] at this
      exact this
    · rw [show k = (bkv M β).1 by omega]
      refine cm_go hX0_total 200 oX0_total (eX0_total d hd) lX0_total_4 ?_
      simp only [jX0_total, kX0_total_0, fl_0_9, fl_0_17, hz0, ek, k0, kk1, k2, k3, k4, k5, l1, l2, l3, l4, l5, r1, r2, r3, r4, r5, cn_iconst, cn_lconst0, cn_lconst1, cn_null, cn_iload, cn_aload, cn_lload, cn_lo1, cn_loa1, cn_loa2, cn_lol1, cn_get0, cn_gets, cn_put0, cn_puts, cn_istore, cn_astore, cn_astoreN, cn_lstore, cn_iinc, cn_in1, cn_iadd, cn_isub, cn_imul, cn_iand, cn_ior, cn_ixor, cn_ishl, cn_ishr, cn_iushr, cn_idiv, cn_irem, cn_ladd, cn_lmul, cn_ldiv, cn_lrem, cn_i2l, cn_l2i, cn_i2b, cn_lcmp, cn_dupi, cn_dupr, cn_dup2, cn_popi, cn_popr, cn_goto, cn_if_eq, cn_if_ne, cn_if_lt, cn_if_ge, cn_if_gt, cn_if_le, cn_ic_eq, cn_ic_ne, cn_ic_lt, cn_ic_ge, cn_ic_gt, cn_ic_le, cn_ifnullN, cn_ifnullR, cn_ifnonnullN, cn_ifnonnullR, cn_tswS, cn_tsw0, cn_tsw1, cn_lswS, cn_lsw0, cn_lsw1, cn_alen, cn_iaload, cn_laload, cn_rr1, cn_rr0, cn_aaload, cn_iastore, cn_lastore, cn_aastore, cn_getfield, cn_gf0, cn_gf1, cn_gf2, cn_gf3, cn_putfield, cn_pf0f, cn_pf1f, cn_pf2f, cn_pf3f, cn_pf0t, cn_pf1t, cn_pf2t, cn_pf3t, cn_new, cn_nw1, cn_newi, cn_newl, cn_anew, cn_an1, cn_inv_v, cn_inv_s, cn_inv_p, cn_ca1, cn_cb1, cn_pop0, cn_pops, cn_rk0, cn_rk1, cn_kcn, cn_kcs, cn_ireturn, cn_lreturn, cn_areturn, cn_return, cn_re0, cn_re1, cn_re2, cn_re3, cn_re4, cn_re5, cn_wp0, cn_wps, cn_m0, cn_m1, cn_e0, cn_en, cn_ei, cn_er, cn_eu, cn_el, cn_nl0, cn_nls, cn_nb0, cn_nb1, cn_nb2, cn_nb3, cn_bd0, cn_bds, cn_cwi, cn_cwr, cn_cwl, cn_cwn, cn_wi2, cn_wl1, cn_wl3, cn_wr1, cn_wr2, cn_wi_eq, cn_wl_eq, cb_0, cb_n0, cb_b, cm_okb0, cm_okb1, Classical.not_not, true_and, and_true, Nat.reduceAdd, Nat.reduceSub, Nat.reduceLT, Nat.reduceLeDiff, Int.reduceToNat, Int.reduceNatCast', Nat.zero_le, Nat.reduceEqDiff, false_or, or_false, or_true, true_or, Int.reduceNeg, reduceCtorEq, false_implies, implies_true, forall_const, true_implies, not_true_eq_false, not_false_eq_true, Nat.le_refl, ne_eq, if_true, if_false, ite_true, ite_false, List.cons_append, List.nil_append]
      simp (disch := omega) only [w3_le]
      exact ⟨fun _ => hS, fun q => absurd (Int.le_refl _) q⟩
set_option maxHeartbeats 4000000 in
theorem mX0_total (d : Nat) (hd : 4 ≤ d) : cm_Met d yX0_total cX0_total 4 (some .int) 0 0 SX0_total := by
  refine cm_meets (J := JX0_total) (by decide) rfl (fun h => by cases h) trivial ?_
  intro as T M Φ hS
  match as, hS with
  | [.ref β, .int w], ⟨hG, hS⟩ =>
    refine ⟨Nat.le_of_ble_eq_true rfl, ?_⟩
    refine cm_go hX0_total 200 oX0_total (eX0_total d hd) lX0_total_0 ?_
    simp only [jX0_total, kX0_total_0, fl_0_9, fl_0_17, cn_iconst, cn_lconst0, cn_lconst1, cn_null, cn_iload, cn_aload, cn_lload, cn_lo1, cn_loa1, cn_loa2, cn_lol1, cn_get0, cn_gets, cn_put0, cn_puts, cn_istore, cn_astore, cn_astoreN, cn_lstore, cn_iinc, cn_in1, cn_iadd, cn_isub, cn_imul, cn_iand, cn_ior, cn_ixor, cn_ishl, cn_ishr, cn_iushr, cn_idiv, cn_irem, cn_ladd, cn_lmul, cn_ldiv, cn_lrem, cn_i2l, cn_l2i, cn_i2b, cn_lcmp, cn_dupi, cn_dupr, cn_dup2, cn_popi, cn_popr, cn_goto, cn_if_eq, cn_if_ne, cn_if_lt, cn_if_ge, cn_if_gt, cn_if_le, cn_ic_eq, cn_ic_ne, cn_ic_lt, cn_ic_ge, cn_ic_gt, cn_ic_le, cn_ifnullN, cn_ifnullR, cn_ifnonnullN, cn_ifnonnullR, cn_tswS, cn_tsw0, cn_tsw1, cn_lswS, cn_lsw0, cn_lsw1, cn_alen, cn_iaload, cn_laload, cn_rr1, cn_rr0, cn_aaload, cn_iastore, cn_lastore, cn_aastore, cn_getfield, cn_gf0, cn_gf1, cn_gf2, cn_gf3, cn_putfield, cn_pf0f, cn_pf1f, cn_pf2f, cn_pf3f, cn_pf0t, cn_pf1t, cn_pf2t, cn_pf3t, cn_new, cn_nw1, cn_newi, cn_newl, cn_anew, cn_an1, cn_inv_v, cn_inv_s, cn_inv_p, cn_ca1, cn_cb1, cn_pop0, cn_pops, cn_rk0, cn_rk1, cn_kcn, cn_kcs, cn_ireturn, cn_lreturn, cn_areturn, cn_return, cn_re0, cn_re1, cn_re2, cn_re3, cn_re4, cn_re5, cn_wp0, cn_wps, cn_m0, cn_m1, cn_e0, cn_en, cn_ei, cn_er, cn_eu, cn_el, cn_nl0, cn_nls, cn_nb0, cn_nb1, cn_nb2, cn_nb3, cn_bd0, cn_bds, cn_cwi, cn_cwr, cn_cwl, cn_cwn, cn_wi2, cn_wl1, cn_wl3, cn_wr1, cn_wr2, cn_wi_eq, cn_wl_eq, cb_0, cb_n0, cb_b, cm_okb0, cm_okb1, Classical.not_not, true_and, and_true, Nat.reduceAdd, Nat.reduceSub, Nat.reduceLT, Nat.reduceLeDiff, Int.reduceToNat, Int.reduceNatCast', Nat.zero_le, Nat.reduceEqDiff, false_or, or_false, or_true, true_or, Int.reduceNeg, reduceCtorEq, false_implies, implies_true, forall_const, true_implies, not_true_eq_false, not_false_eq_true, Nat.le_refl, ne_eq, if_true, if_false, ite_true, ite_false, List.cons_append, List.nil_append]
    exact lX0_total d hd hG hS 0 (Nat.zero_le _)
def SX0_countTorn : cm_CT := fun as T M Φ => match as with
  | [.ref β] => BkG T M β ∧ Φ (some (.int (torns (bkv M β) (bkv M β).1))) T M
  | _ => False
def JX0_countTorn : cm_J := (0, false, 1, [], [(63, 1, 0, 0, 0, SJ6_bitCount_0f7a4)], [])
theorem jX0_countTorn : JX0_countTorn.1 = 0 ∧ JX0_countTorn.2.1 = false ∧ JX0_countTorn.2.2.1 = 1 ∧ cm_gs JX0_countTorn 63 = some (1, 0, 0, 0, SJ6_bitCount_0f7a4) := ⟨rfl, rfl, rfl, rfl⟩
theorem eX0_countTorn (d : Nat) (hd : 1 ≤ d) : cm_Cok d JX0_countTorn := ⟨(fun q h => by cases h), (List.forall_mem_cons.mpr ⟨q0_63 (mJ6_bitCount_0f7a4 (d - 1) (by omega)) (by omega), (fun q h => by cases h)⟩), (fun q h => by cases h)⟩
set_option maxHeartbeats 4000000 in
theorem lX0_countTorn (d : Nat) (hd : 1 ≤ d) {T : cm_T} {M : cm_M} {Φ : Option Value → cm_T → cm_M → Prop} {β : Nat} (hG : BkG T M β) (hS : Φ (some (.int (torns (bkv M β) (bkv M β).1))) T M) :
    ∀ (k : Nat), k ≤ (bkv M β).1 → cm_Go d cX0_countTorn 3 0 0 JX0_countTorn Φ 4 [some (.ref β), some (.int (torns (bkv M β) k)), some (.int (w3 k))] [] (0, 0) T M := by
  intro k
  induction hf : ((bkv M β).1 - k) using Nat.strongRecOn generalizing k with
  | _ fu ih =>
    intro k1
    obtain ⟨⟨k0, ⟨r1, r2, r3, r4, r5⟩, ⟨kk1, k2, k3, k4, k5⟩, ⟨l1, l2, l3, l4, l5⟩, rv⟩, hz, hT, hW, hA⟩ := id hG
    obtain ⟨hn, hn16⟩ := hG.n
    have hz0 : M.1 β 0 = w3 ((bkv M β).1 : Int) := i3_of hn

    have ek : (w3 (k : Int)).toInt = (k : Int) := w3_toInt (by omega) (by omega)
    by_cases hk : k < (bkv M β).1
    · have rvk := rv k (by omega)
      have ht := hT k (by omega)
      have kt := ht.1.1
      have ix : cm_ix (w3 (k : Int)) 16 := by rw [w3_ix (by omega) (by omega)]; exact ⟨by omega, by omega⟩
      have hr : torns (bkv M β) (k + 1) = torns (bkv M β) k + bcI (M.1 (β + 6 + 8 * k) 1) := by
        show _ + bcI ((bkv M β).2 k).1.1 = _
        rw [bkv_lt hk]
        rfl
      refine cm_go hX0_countTorn 200 oX0_countTorn (eX0_countTorn d hd) lX0_countTorn_4 ?_
      simp only [jX0_countTorn, kX0_countTorn_0, fl_0_9, fl_0_17, fl_0_56, SJ6_bitCount_0f7a4, hz0, ek, rvk, kt, ix, w3_add, k0, kk1, k2, k3, k4, k5, l1, l2, l3, l4, l5, r1, r2, r3, r4, r5, cn_iconst, cn_lconst0, cn_lconst1, cn_null, cn_iload, cn_aload, cn_lload, cn_lo1, cn_loa1, cn_loa2, cn_lol1, cn_get0, cn_gets, cn_put0, cn_puts, cn_istore, cn_astore, cn_astoreN, cn_lstore, cn_iinc, cn_in1, cn_iadd, cn_isub, cn_imul, cn_iand, cn_ior, cn_ixor, cn_ishl, cn_ishr, cn_iushr, cn_idiv, cn_irem, cn_ladd, cn_lmul, cn_ldiv, cn_lrem, cn_i2l, cn_l2i, cn_i2b, cn_lcmp, cn_dupi, cn_dupr, cn_dup2, cn_popi, cn_popr, cn_goto, cn_if_eq, cn_if_ne, cn_if_lt, cn_if_ge, cn_if_gt, cn_if_le, cn_ic_eq, cn_ic_ne, cn_ic_lt, cn_ic_ge, cn_ic_gt, cn_ic_le, cn_ifnullN, cn_ifnullR, cn_ifnonnullN, cn_ifnonnullR, cn_tswS, cn_tsw0, cn_tsw1, cn_lswS, cn_lsw0, cn_lsw1, cn_alen, cn_iaload, cn_laload, cn_rr1, cn_rr0, cn_aaload, cn_iastore, cn_lastore, cn_aastore, cn_getfield, cn_gf0, cn_gf1, cn_gf2, cn_gf3, cn_putfield, cn_pf0f, cn_pf1f, cn_pf2f, cn_pf3f, cn_pf0t, cn_pf1t, cn_pf2t, cn_pf3t, cn_new, cn_nw1, cn_newi, cn_newl, cn_anew, cn_an1, cn_inv_v, cn_inv_s, cn_inv_p, cn_ca1, cn_cb1, cn_pop0, cn_pops, cn_rk0, cn_rk1, cn_kcn, cn_kcs, cn_ireturn, cn_lreturn, cn_areturn, cn_return, cn_re0, cn_re1, cn_re2, cn_re3, cn_re4, cn_re5, cn_wp0, cn_wps, cn_m0, cn_m1, cn_e0, cn_en, cn_ei, cn_er, cn_eu, cn_el, cn_nl0, cn_nls, cn_nb0, cn_nb1, cn_nb2, cn_nb3, cn_bd0, cn_bds, cn_cwi, cn_cwr, cn_cwl, cn_cwn, cn_wi2, cn_wl1, cn_wl3, cn_wr1, cn_wr2, cn_wi_eq, cn_wl_eq, cb_0, cb_n0, cb_b, cm_okb0, cm_okb1, Classical.not_not, true_and, and_true, Nat.reduceAdd, Nat.reduceSub, Nat.reduceLT, Nat.reduceLeDiff, Int.reduceToNat, Int.reduceNatCast', Nat.zero_le, Nat.reduceEqDiff, false_or, or_false, or_true, true_or, Int.reduceNeg, reduceCtorEq, false_implies, implies_true, forall_const, true_implies, not_true_eq_false, not_false_eq_true, Nat.le_refl, ne_eq, if_true, if_false, ite_true, ite_false, List.cons_append, List.nil_append]
      simp (disch := omega) only [w3_le]
      refine ⟨fun q => by omega, fun q => ?_⟩
      have := ih ((bkv M β).1 - (k + 1)) (by omega) (k + 1) rfl (by omega)
      rw [hr] at this
      exact this
    · rw [show k = (bkv M β).1 by omega]
      refine cm_go hX0_countTorn 200 oX0_countTorn (eX0_countTorn d hd) lX0_countTorn_4 ?_
      simp only [jX0_countTorn, kX0_countTorn_0, fl_0_9, fl_0_17, fl_0_56, hz0, ek, k0, kk1, k2, k3, k4, k5, l1, l2, l3, l4, l5, r1, r2, r3, r4, r5, cn_iconst, cn_lconst0, cn_lconst1, cn_null, cn_iload, cn_aload, cn_lload, cn_lo1, cn_loa1, cn_loa2, cn_lol1, cn_get0, cn_gets, cn_put0, cn_puts, cn_istore, cn_astore, cn_astoreN, cn_lstore, cn_iinc, cn_in1, cn_iadd, cn_isub, cn_imul, cn_iand, cn_ior, cn_ixor, cn_ishl, cn_ishr, cn_iushr, cn_idiv, cn_irem, cn_ladd, cn_lmul, cn_ldiv, cn_lrem, cn_i2l, cn_l2i, cn_i2b, cn_lcmp, cn_dupi, cn_dupr, cn_dup2, cn_popi, cn_popr, cn_goto, cn_if_eq, cn_if_ne, cn_if_lt, cn_if_ge, cn_if_gt, cn_if_le, cn_ic_eq, cn_ic_ne, cn_ic_lt, cn_ic_ge, cn_ic_gt, cn_ic_le, cn_ifnullN, cn_ifnullR, cn_ifnonnullN, cn_ifnonnullR, cn_tswS, cn_tsw0, cn_tsw1, cn_lswS, cn_lsw0, cn_lsw1, cn_alen, cn_iaload, cn_laload, cn_rr1, cn_rr0, cn_aaload, cn_iastore, cn_lastore, cn_aastore, cn_getfield, cn_gf0, cn_gf1, cn_gf2, cn_gf3, cn_putfield, cn_pf0f, cn_pf1f, cn_pf2f, cn_pf3f, cn_pf0t, cn_pf1t, cn_pf2t, cn_pf3t, cn_new, cn_nw1, cn_newi, cn_newl, cn_anew, cn_an1, cn_inv_v, cn_inv_s, cn_inv_p, cn_ca1, cn_cb1, cn_pop0, cn_pops, cn_rk0, cn_rk1, cn_kcn, cn_kcs, cn_ireturn, cn_lreturn, cn_areturn, cn_return, cn_re0, cn_re1, cn_re2, cn_re3, cn_re4, cn_re5, cn_wp0, cn_wps, cn_m0, cn_m1, cn_e0, cn_en, cn_ei, cn_er, cn_eu, cn_el, cn_nl0, cn_nls, cn_nb0, cn_nb1, cn_nb2, cn_nb3, cn_bd0, cn_bds, cn_cwi, cn_cwr, cn_cwl, cn_cwn, cn_wi2, cn_wl1, cn_wl3, cn_wr1, cn_wr2, cn_wi_eq, cn_wl_eq, cb_0, cb_n0, cb_b, cm_okb0, cm_okb1, Classical.not_not, true_and, and_true, Nat.reduceAdd, Nat.reduceSub, Nat.reduceLT, Nat.reduceLeDiff, Int.reduceToNat, Int.reduceNatCast', Nat.zero_le, Nat.reduceEqDiff, false_or, or_false, or_true, true_or, Int.reduceNeg, reduceCtorEq, false_implies, implies_true, forall_const, true_implies, not_true_eq_false, not_false_eq_true, Nat.le_refl, ne_eq, if_true, if_false, ite_true, ite_false, List.cons_append, List.nil_append]
      simp (disch := omega) only [w3_le]
      exact ⟨fun _ => hS, fun q => absurd (Int.le_refl _) q⟩
set_option maxHeartbeats 4000000 in
theorem mX0_countTorn (d : Nat) (hd : 1 ≤ d) : cm_Met d yX0_countTorn cX0_countTorn 3 (some .int) 0 0 SX0_countTorn := by
  refine cm_meets (J := JX0_countTorn) (by decide) rfl (fun h => by cases h) trivial ?_
  intro as T M Φ hS
  match as, hS with
  | [.ref β], ⟨hG, hS⟩ =>
    refine ⟨Nat.le_of_ble_eq_true rfl, ?_⟩
    refine cm_go hX0_countTorn 200 oX0_countTorn (eX0_countTorn d hd) lX0_countTorn_0 ?_
    simp only [jX0_countTorn, kX0_countTorn_0, fl_0_9, fl_0_17, fl_0_56, cn_iconst, cn_lconst0, cn_lconst1, cn_null, cn_iload, cn_aload, cn_lload, cn_lo1, cn_loa1, cn_loa2, cn_lol1, cn_get0, cn_gets, cn_put0, cn_puts, cn_istore, cn_astore, cn_astoreN, cn_lstore, cn_iinc, cn_in1, cn_iadd, cn_isub, cn_imul, cn_iand, cn_ior, cn_ixor, cn_ishl, cn_ishr, cn_iushr, cn_idiv, cn_irem, cn_ladd, cn_lmul, cn_ldiv, cn_lrem, cn_i2l, cn_l2i, cn_i2b, cn_lcmp, cn_dupi, cn_dupr, cn_dup2, cn_popi, cn_popr, cn_goto, cn_if_eq, cn_if_ne, cn_if_lt, cn_if_ge, cn_if_gt, cn_if_le, cn_ic_eq, cn_ic_ne, cn_ic_lt, cn_ic_ge, cn_ic_gt, cn_ic_le, cn_ifnullN, cn_ifnullR, cn_ifnonnullN, cn_ifnonnullR, cn_tswS, cn_tsw0, cn_tsw1, cn_lswS, cn_lsw0, cn_lsw1, cn_alen, cn_iaload, cn_laload, cn_rr1, cn_rr0, cn_aaload, cn_iastore, cn_lastore, cn_aastore, cn_getfield, cn_gf0, cn_gf1, cn_gf2, cn_gf3, cn_putfield, cn_pf0f, cn_pf1f, cn_pf2f, cn_pf3f, cn_pf0t, cn_pf1t, cn_pf2t, cn_pf3t, cn_new, cn_nw1, cn_newi, cn_newl, cn_anew, cn_an1, cn_inv_v, cn_inv_s, cn_inv_p, cn_ca1, cn_cb1, cn_pop0, cn_pops, cn_rk0, cn_rk1, cn_kcn, cn_kcs, cn_ireturn, cn_lreturn, cn_areturn, cn_return, cn_re0, cn_re1, cn_re2, cn_re3, cn_re4, cn_re5, cn_wp0, cn_wps, cn_m0, cn_m1, cn_e0, cn_en, cn_ei, cn_er, cn_eu, cn_el, cn_nl0, cn_nls, cn_nb0, cn_nb1, cn_nb2, cn_nb3, cn_bd0, cn_bds, cn_cwi, cn_cwr, cn_cwl, cn_cwn, cn_wi2, cn_wl1, cn_wl3, cn_wr1, cn_wr2, cn_wi_eq, cn_wl_eq, cb_0, cb_n0, cb_b, cm_okb0, cm_okb1, Classical.not_not, true_and, and_true, Nat.reduceAdd, Nat.reduceSub, Nat.reduceLT, Nat.reduceLeDiff, Int.reduceToNat, Int.reduceNatCast', Nat.zero_le, Nat.reduceEqDiff, false_or, or_false, or_true, true_or, Int.reduceNeg, reduceCtorEq, false_implies, implies_true, forall_const, true_implies, not_true_eq_false, not_false_eq_true, Nat.le_refl, ne_eq, if_true, if_false, ite_true, ite_false, List.cons_append, List.nil_append]
    exact lX0_countTorn d hd hG hS 0 (Nat.zero_le _)

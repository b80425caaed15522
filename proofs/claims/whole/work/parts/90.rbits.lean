def bn1 (x : Nat) : Nat := Nat.sub x (Nat.land (Nat.shiftRight x 1) 1431655765)
def bn2 (x : Nat) : Nat := Nat.add (Nat.land x 858993459) (Nat.land (Nat.shiftRight x 2) 858993459)
def bn3 (x : Nat) : Nat := Nat.land (Nat.add x (Nat.shiftRight x 4)) 252645135
def bn4 (x : Nat) : Nat := Nat.add x (Nat.shiftRight x 8)
def bn5 (x : Nat) : Nat := Nat.add x (Nat.shiftRight x 16)
def bcN (x : Nat) : Nat := Nat.land (bn5 (bn4 (bn3 (bn2 (bn1 x))))) 63
def bcQ (k : Nat) : Bool := Nat.beq (bcN (Nat.succ k)) (Nat.succ (bcN (Nat.land (Nat.succ k) k)))
noncomputable def bcA (a : Nat) (n : Nat) : Bool := Nat.rec (motive := fun _ => Bool) true (fun k ih => and (bcQ (Nat.add (Nat.mul 256 a) k)) ih) n
noncomputable def bcB (c : Nat) (n : Nat) : Bool := Nat.rec (motive := fun _ => Bool) true (fun a ih => and (bcA (Nat.add c a) 256) ih) n
theorem bc_t0 : bcB 0 16 = true := by decide +kernel
theorem bc_t1 : bcB 16 16 = true := by decide +kernel
theorem bc_t2 : bcB 32 16 = true := by decide +kernel
theorem bc_t3 : bcB 48 16 = true := by decide +kernel
theorem bc_t4 : bcB 64 16 = true := by decide +kernel
theorem bc_t5 : bcB 80 16 = true := by decide +kernel
theorem bc_t6 : bcB 96 16 = true := by decide +kernel
theorem bc_t7 : bcB 112 16 = true := by decide +kernel
theorem bc_t8 : bcB 128 16 = true := by decide +kernel
theorem bc_t9 : bcB 144 16 = true := by decide +kernel
theorem bc_t10 : bcB 160 16 = true := by decide +kernel
theorem bc_t11 : bcB 176 16 = true := by decide +kernel
theorem bc_t12 : bcB 192 16 = true := by decide +kernel
theorem bc_t13 : bcB 208 16 = true := by decide +kernel
theorem bc_t14 : bcB 224 16 = true := by decide +kernel
theorem bc_t15 : bcB 240 16 = true := by decide +kernel
theorem bcA_g {a : Nat} : ∀ n, bcA a n = true → ∀ k, k < n → bcQ (256 * a + k) = true
  | 0, _, k, hk => absurd hk (Nat.not_lt_zero _)
  | n + 1, h, k, hk => by
    have h' : and (bcQ (256 * a + n)) (bcA a n) = true := h
    rw [Bool.and_eq_true] at h'
    by_cases e : k = n
    · rw [e]; exact h'.1
    · exact bcA_g n h'.2 k (by omega)
theorem bcB_g {c : Nat} : ∀ n, bcB c n = true → ∀ a, a < n → bcA (c + a) 256 = true
  | 0, _, a, ha => absurd ha (Nat.not_lt_zero _)
  | n + 1, h, a, ha => by
    have h' : and (bcA (c + n) 256) (bcB c n) = true := h
    rw [Bool.and_eq_true] at h'
    by_cases e : a = n
    · rw [e]; exact h'.1
    · exact bcB_g n h'.2 a (by omega)
theorem bc_B (i : Nat) (h : i < 16) : bcB (16 * i) 16 = true := by
  match i, h with
  | 0, _ => exact bc_t0
  | 1, _ => exact bc_t1
  | 2, _ => exact bc_t2
  | 3, _ => exact bc_t3
  | 4, _ => exact bc_t4
  | 5, _ => exact bc_t5
  | 6, _ => exact bc_t6
  | 7, _ => exact bc_t7
  | 8, _ => exact bc_t8
  | 9, _ => exact bc_t9
  | 10, _ => exact bc_t10
  | 11, _ => exact bc_t11
  | 12, _ => exact bc_t12
  | 13, _ => exact bc_t13
  | 14, _ => exact bc_t14
  | 15, _ => exact bc_t15
  | k + 16, h => exact absurd h (by omega)
theorem bc_N {k : Nat} (h : k < 65536) : bcN (k + 1) = bcN ((k + 1) &&& k) + 1 := by
  have h1 := bcB_g 16 (bc_B (k / 4096) (by omega)) (k / 256 % 16) (by omega)
  rw [show 16 * (k / 4096) + k / 256 % 16 = k / 256 by omega] at h1
  have h2 := bcA_g 256 h1 (k % 256) (by omega)
  rw [show 256 * (k / 256) + k % 256 = k by omega] at h2
  exact Nat.eq_of_beq_eq_true h2
theorem w3_bv (a : Nat) : (w3 (a : Int)).toBitVec = BitVec.ofNat 32 a := by
  show BitVec.ofInt 32 (a : Int) = _
  exact BitVec.ofInt_natCast 32 a
theorem w3_nd (a b : Nat) : w3 (a : Int) &&& w3 (b : Int) = w3 ((a &&& b : Nat) : Int) := by
  refine Int32.toBitVec_inj.mp ?_
  rw [Int32.toBitVec_and, w3_bv, w3_bv, w3_bv, BitVec.ofNat_and]
theorem w3_nr (a b : Nat) : w3 (a : Int) ||| w3 (b : Int) = w3 ((a ||| b : Nat) : Int) := by
  refine Int32.toBitVec_inj.mp ?_
  rw [Int32.toBitVec_or, w3_bv, w3_bv, w3_bv, BitVec.ofNat_or]
theorem us_bv {x k : Int32} : (us x k).toBitVec = x.toBitVec >>> ((k.toUInt32 &&& Int32.toUInt32 31).toBitVec % 32) := rfl
theorem us_n {a j : Nat} (ha : a < 4294967296) (hj : (((w3 (j : Int)).toUInt32 &&& Int32.toUInt32 31).toBitVec % 32).toNat = j) : us (w3 (a : Int)) (w3 (j : Int)) = w3 ((a >>> j : Nat) : Int) := by
  refine Int32.toBitVec_inj.mp ?_
  rw [us_bv, w3_bv, w3_bv]
  refine BitVec.eq_of_toNat_eq ?_
  rw [BitVec.ushiftRight_eq', BitVec.toNat_ushiftRight, hj, BitVec.toNat_ofNat, BitVec.toNat_ofNat, Nat.mod_eq_of_lt (show a < 2 ^ 32 from ha), Nat.mod_eq_of_lt (show a >>> j < 2 ^ 32 from Nat.lt_of_le_of_lt (Nat.shiftRight_le a j) ha)]
theorem bc1_n {a : Nat} (ha : a < 65536) : bc1 (w3 (a : Int)) = w3 (bn1 a : Int) ∧ bn1 a < 65536 := by
  have e1 : us (w3 (a : Int)) (w3 1) = w3 ((a >>> 1 : Nat) : Int) := us_n (j := 1) (by omega) (by decide)
  have e2 : w3 ((a >>> 1 : Nat) : Int) &&& w3 1431655765 = w3 (((a >>> 1) &&& 1431655765 : Nat) : Int) := w3_nd _ 1431655765
  have e3 : bn1 a = a - ((a >>> 1) &&& 1431655765) := rfl
  have l1 : (a >>> 1) &&& 1431655765 ≤ a := Nat.le_trans Nat.and_le_left (Nat.shiftRight_le a 1)
  unfold bc1
  rw [e1, e2, w3_sub, e3]
  exact ⟨congrArg w3 (by omega), by omega⟩
theorem bc2_n {a : Nat} (ha : a < 65536) : bc2 (w3 (a : Int)) = w3 (bn2 a : Int) ∧ bn2 a < 131072 := by
  have e1 : us (w3 (a : Int)) (w3 2) = w3 ((a >>> 2 : Nat) : Int) := us_n (j := 2) (by omega) (by decide)
  have e2 : w3 ((a >>> 2 : Nat) : Int) &&& w3 858993459 = w3 (((a >>> 2) &&& 858993459 : Nat) : Int) := w3_nd _ 858993459
  have e4 : w3 (a : Int) &&& w3 858993459 = w3 ((a &&& 858993459 : Nat) : Int) := w3_nd _ 858993459
  have e3 : bn2 a = (a &&& 858993459) + ((a >>> 2) &&& 858993459) := rfl
  have l1 : (a >>> 2) &&& 858993459 ≤ a := Nat.le_trans Nat.and_le_left (Nat.shiftRight_le a 2)
  have l2 : a &&& 858993459 ≤ a := Nat.and_le_left
  unfold bc2
  rw [e1, e2, e4, w3_add, e3]
  exact ⟨congrArg w3 (by omega), by omega⟩
theorem bc3_n {a : Nat} (ha : a < 131072) : bc3 (w3 (a : Int)) = w3 (bn3 a : Int) ∧ bn3 a < 262144 := by
  have e1 : us (w3 (a : Int)) (w3 4) = w3 ((a >>> 4 : Nat) : Int) := us_n (j := 4) (by omega) (by decide)
  have e2 : w3 ((a + a >>> 4 : Nat) : Int) &&& w3 252645135 = w3 (((a + a >>> 4) &&& 252645135 : Nat) : Int) := w3_nd _ 252645135
  have e3 : bn3 a = (a + a >>> 4) &&& 252645135 := rfl
  have l1 : a >>> 4 ≤ a := Nat.shiftRight_le a 4
  have l2 : (a + a >>> 4) &&& 252645135 ≤ a + a >>> 4 := Nat.and_le_left
  unfold bc3
  rw [e1, w3_add, ← Int.natCast_add, e2, e3]
  exact ⟨rfl, by omega⟩
theorem bc4_n {a : Nat} (ha : a < 262144) : bc4 (w3 (a : Int)) = w3 (bn4 a : Int) ∧ bn4 a < 524288 := by
  have e1 : us (w3 (a : Int)) (w3 8) = w3 ((a >>> 8 : Nat) : Int) := us_n (j := 8) (by omega) (by decide)
  have e3 : bn4 a = a + a >>> 8 := rfl
  have l1 : a >>> 8 ≤ a := Nat.shiftRight_le a 8
  unfold bc4
  rw [e1, w3_add, ← Int.natCast_add, e3]
  exact ⟨rfl, by omega⟩
theorem bc5_n {a : Nat} (ha : a < 524288) : bc5 (w3 (a : Int)) = w3 (bn5 a : Int) := by
  have e1 : us (w3 (a : Int)) (w3 16) = w3 ((a >>> 16 : Nat) : Int) := us_n (j := 16) (by omega) (by decide)
  have e3 : bn5 a = a + a >>> 16 := rfl
  unfold bc5
  rw [e1, w3_add, ← Int.natCast_add, e3]
theorem bcI_n {a : Nat} (ha : a < 65536) : bcI (w3 (a : Int)) = w3 (bcN a : Int) := by
  obtain ⟨a1, a2⟩ := bc1_n ha
  obtain ⟨b1, b2⟩ := bc2_n a2
  obtain ⟨c1, c2⟩ := bc3_n b2
  obtain ⟨d1, d2⟩ := bc4_n c2
  have e1 := bc5_n d2
  have e2 : w3 (bn5 (bn4 (bn3 (bn2 (bn1 a)))) : Int) &&& w3 63 = w3 ((bn5 (bn4 (bn3 (bn2 (bn1 a)))) &&& 63 : Nat) : Int) := w3_nd _ 63
  unfold bcI
  rw [a1, b1, c1, d1, e1, e2]
  rfl
theorem bcN_63 (a : Nat) : bcN a ≤ 63 := Nat.and_le_right
theorem bc_st {k : Nat} (h : k < 65536) (h0 : k ≠ 0) : bcI (w3 (k : Int)) = bcI (w3 (k : Int) &&& (w3 (k : Int) - w3 1)) + w3 1 ∧ ∃ j : Nat, j < k ∧ w3 (k : Int) &&& (w3 (k : Int) - w3 1) = w3 (j : Int) := by
  have e0 : w3 (k : Int) - w3 1 = w3 ((k - 1 : Nat) : Int) := by rw [w3_sub]; exact congrArg w3 (by omega)
  have l1 : k &&& (k - 1) ≤ k - 1 := Nat.and_le_right
  have key := bc_N (k := k - 1) (by omega)
  rw [show k - 1 + 1 = k by omega] at key
  rw [e0, w3_nd, bcI_n h, bcI_n (show k &&& (k - 1) < 65536 by omega), key, w3_add]
  exact ⟨congrArg w3 (by omega), k &&& (k - 1), by omega, rfl⟩
theorem bcI_0 : bcI (w3 0) = w3 0 := by decide
theorem w3_un (x : Int32) : x = w3 (x.toBitVec.toNat : Int) := by
  refine Int32.toBitVec_inj.mp ?_
  rw [w3_bv, BitVec.ofNat_toNat, BitVec.setWidth_eq]
theorem nrB_u {B : Bk} {a b : Int} (h : B.1 ≤ 16) : ∃ k : Nat, nrB B a b = w3 (k : Int) ∧ k < 65536 := ⟨(nrB B a b).toBitVec.toNat, w3_un _, Nat.lt_of_lt_of_le (nrB_lt h) (Nat.pow_le_pow_right (by decide) h)⟩
def SX7_bits : cm_CT := fun as T M Φ => match as with
  | [.int x] => ∃ k : Nat, x = w3 (k : Int) ∧ k < 65536 ∧ Φ (some (.int (bcI x))) T M
  | _ => False
def JX7_bits : cm_J := (7, false, 1, [], [], [])
theorem jX7_bits : JX7_bits.1 = 7 ∧ JX7_bits.2.1 = false ∧ JX7_bits.2.2.1 = 1 := ⟨rfl, rfl, rfl⟩
theorem eX7_bits (d : Nat) (hd : 0 ≤ d) : cm_Cok d JX7_bits := ⟨(fun q h => by cases h), (fun q h => by cases h), (fun q h => by cases h)⟩
set_option maxHeartbeats 4000000 in
theorem lX7_bits (d : Nat) (hd : 0 ≤ d) {T : cm_T} {M : cm_M} {Φ : Option Value → cm_T → cm_M → Prop} {x : Int32} (hS : Φ (some (.int (bcI x))) T M) :
    ∀ (k : Nat) (n : Int32), k < 65536 → bcI x = n + bcI (w3 (k : Int)) → cm_Go d cX7_bits 3 0 0 JX7_bits Φ 4 [some (.int x), some (.int n), some (.int (w3 (k : Int)))] [] (0, 0) T M := by
  intro k
  induction k using Nat.strongRecOn with
  | _ k ih =>
    intro n hk hx
    by_cases h0 : k = 0
    · subst h0
      have e : n = bcI x := by rw [hx]; show n = n + bcI (w3 0); rw [bcI_0]; exact (Int32.add_zero n).symm
      have q : (((0 : Nat) : Int) = 0) = True := eq_true rfl
      refine cm_go hX7_bits 200 oX7_bits (eX7_bits d hd) lX7_bits_4 ?_
      simp (disch := omega) only [jX7_bits, kX7_bits_0, q, cn_iconst, cn_lconst0, cn_lconst1, cn_null, cn_iload, cn_aload, cn_lload, cn_lo1, cn_loa1, cn_loa2, cn_lol1, cn_get0, cn_gets, cn_put0, cn_puts, cn_istore, cn_astore, cn_astoreN, cn_lstore, cn_iinc, cn_in1, cn_iadd, cn_isub, cn_imul, cn_iand, cn_ior, cn_ixor, cn_ishl, cn_ishr, cn_iushr, cn_idiv, cn_irem, cn_ladd, cn_lmul, cn_ldiv, cn_lrem, cn_i2l, cn_l2i, cn_i2b, cn_lcmp, cn_dupi, cn_dupr, cn_dup2, cn_popi, cn_popr, cn_goto, cn_if_eq, cn_if_ne, cn_if_lt, cn_if_ge, cn_if_gt, cn_if_le, cn_ic_eq, cn_ic_ne, cn_ic_lt, cn_ic_ge, cn_ic_gt, cn_ic_le, cn_ifnullN, cn_ifnullR, cn_ifnonnullN, cn_ifnonnullR, cn_tswS, cn_tsw0, cn_tsw1, cn_lswS, cn_lsw0, cn_lsw1, cn_alen, cn_iaload, cn_laload, cn_rr1, cn_rr0, cn_aaload, cn_iastore, cn_lastore, cn_aastore, cn_getfield, cn_gf0, cn_gf1, cn_gf2, cn_gf3, cn_putfield, cn_pf0f, cn_pf1f, cn_pf2f, cn_pf3f, cn_pf0t, cn_pf1t, cn_pf2t, cn_pf3t, cn_new, cn_nw1, cn_newi, cn_newl, cn_anew, cn_an1, cn_inv_v, cn_inv_s, cn_inv_p, cn_ca1, cn_cb1, cn_pop0, cn_pops, cn_rk0, cn_rk1, cn_kcn, cn_kcs, cn_ireturn, cn_lreturn, cn_areturn, cn_return, cn_re0, cn_re1, cn_re2, cn_re3, cn_re4, cn_re5, cn_wp0, cn_wps, cn_m0, cn_m1, cn_e0, cn_en, cn_ei, cn_er, cn_eu, cn_el, cn_nl0, cn_nls, cn_nb0, cn_nb1, cn_nb2, cn_nb3, cn_bd0, cn_bds, cn_cwi, cn_cwr, cn_cwl, cn_cwn, cn_wi2, cn_wl1, cn_wl3, cn_wr1, cn_wr2, cn_wi_eq, cn_wl_eq, cb_0, cb_n0, cb_b, cm_okb0, cm_okb1, Classical.not_not, true_and, and_true, Nat.reduceAdd, Nat.reduceSub, Nat.reduceLT, Nat.reduceLeDiff, Int.reduceToNat, Int.reduceNatCast', Nat.zero_le, Nat.reduceEqDiff, false_or, or_false, or_true, true_or, Int.reduceNeg, reduceCtorEq, false_implies, implies_true, forall_const, true_implies, not_true_eq_false, not_false_eq_true, Nat.le_refl, ne_eq, if_true, if_false, ite_true, ite_false, List.cons_append, List.nil_append, w3_add, w3_sub, w3_mul, w3_le, w3_lt, w3_eq, w3_toInt, w3_ix, w3_00, w3_10, i0_le, i0_lt, i0_ge, i0_gt, i0_eq, Int.reduceLE, Int.reduceLT, Int.reduceAdd, Int.reduceSub, Int.reduceMul, Int.reduceEq, Int.le_refl, Int.lt_irrefl]
      rw [e]
      exact hS
    · obtain ⟨a1, j, j1, j2⟩ := bc_st hk h0
      have q : ((k : Int) = 0) = False := eq_false (by omega)
      have j2' : w3 (k : Int) &&& (w3 ((k : Int) - 1)) = w3 (j : Int) := by rw [← w3_sub]; exact j2
      refine cm_go hX7_bits 200 oX7_bits (eX7_bits d hd) lX7_bits_4 ?_
      simp (disch := omega) only [jX7_bits, kX7_bits_0, q, j2', cn_iconst, cn_lconst0, cn_lconst1, cn_null, cn_iload, cn_aload, cn_lload, cn_lo1, cn_loa1, cn_loa2, cn_lol1, cn_get0, cn_gets, cn_put0, cn_puts, cn_istore, cn_astore, cn_astoreN, cn_lstore, cn_iinc, cn_in1, cn_iadd, cn_isub, cn_imul, cn_iand, cn_ior, cn_ixor, cn_ishl, cn_ishr, cn_iushr, cn_idiv, cn_irem, cn_ladd, cn_lmul, cn_ldiv, cn_lrem, cn_i2l, cn_l2i, cn_i2b, cn_lcmp, cn_dupi, cn_dupr, cn_dup2, cn_popi, cn_popr, cn_goto, cn_if_eq, cn_if_ne, cn_if_lt, cn_if_ge, cn_if_gt, cn_if_le, cn_ic_eq, cn_ic_ne, cn_ic_lt, cn_ic_ge, cn_ic_gt, cn_ic_le, cn_ifnullN, cn_ifnullR, cn_ifnonnullN, cn_ifnonnullR, cn_tswS, cn_tsw0, cn_tsw1, cn_lswS, cn_lsw0, cn_lsw1, cn_alen, cn_iaload, cn_laload, cn_rr1, cn_rr0, cn_aaload, cn_iastore, cn_lastore, cn_aastore, cn_getfield, cn_gf0, cn_gf1, cn_gf2, cn_gf3, cn_putfield, cn_pf0f, cn_pf1f, cn_pf2f, cn_pf3f, cn_pf0t, cn_pf1t, cn_pf2t, cn_pf3t, cn_new, cn_nw1, cn_newi, cn_newl, cn_anew, cn_an1, cn_inv_v, cn_inv_s, cn_inv_p, cn_ca1, cn_cb1, cn_pop0, cn_pops, cn_rk0, cn_rk1, cn_kcn, cn_kcs, cn_ireturn, cn_lreturn, cn_areturn, cn_return, cn_re0, cn_re1, cn_re2, cn_re3, cn_re4, cn_re5, cn_wp0, cn_wps, cn_m0, cn_m1, cn_e0, cn_en, cn_ei, cn_er, cn_eu, cn_el, cn_nl0, cn_nls, cn_nb0, cn_nb1, cn_nb2, cn_nb3, cn_bd0, cn_bds, cn_cwi, cn_cwr, cn_cwl, cn_cwn, cn_wi2, cn_wl1, cn_wl3, cn_wr1, cn_wr2, cn_wi_eq, cn_wl_eq, cb_0, cb_n0, cb_b, cm_okb0, cm_okb1, Classical.not_not, true_and, and_true, Nat.reduceAdd, Nat.reduceSub, Nat.reduceLT, Nat.reduceLeDiff, Int.reduceToNat, Int.reduceNatCast', Nat.zero_le, Nat.reduceEqDiff, false_or, or_false, or_true, true_or, Int.reduceNeg, reduceCtorEq, false_implies, implies_true, forall_const, true_implies, not_true_eq_false, not_false_eq_true, Nat.le_refl, ne_eq, if_true, if_false, ite_true, ite_false, List.cons_append, List.nil_append, w3_add, w3_sub, w3_mul, w3_le, w3_lt, w3_eq, w3_toInt, w3_ix, w3_00, w3_10, i0_le, i0_lt, i0_ge, i0_gt, i0_eq, Int.reduceLE, Int.reduceLT, Int.reduceAdd, Int.reduceSub, Int.reduceMul, Int.reduceEq, Int.le_refl, Int.lt_irrefl]
      refine ih j j1 (n + w3 1) (by omega) ?_
      rw [hx, a1, j2]
      rw [Int32.add_comm (bcI (w3 (j : Int))), Int32.add_assoc]
set_option maxHeartbeats 4000000 in
theorem mX7_bits (d : Nat) (hd : 0 ≤ d) : cm_Met d yX7_bits cX7_bits 3 (some .int) 0 0 SX7_bits := by
  refine cm_meets (J := JX7_bits) (by decide) rfl (fun h => by cases h) trivial ?_
  intro as T M Φ hS
  match as, hS with
  | [.int x], ⟨k, hx, hk, hS⟩ =>
    refine ⟨Nat.le_of_ble_eq_true rfl, ?_⟩
    subst hx
    refine cm_go hX7_bits 200 oX7_bits (eX7_bits d hd) lX7_bits_0 ?_
    simp (disch := omega) only [jX7_bits, kX7_bits_0, cn_iconst, cn_lconst0, cn_lconst1, cn_null, cn_iload, cn_aload, cn_lload, cn_lo1, cn_loa1, cn_loa2, cn_lol1, cn_get0, cn_gets, cn_put0, cn_puts, cn_istore, cn_astore, cn_astoreN, cn_lstore, cn_iinc, cn_in1, cn_iadd, cn_isub, cn_imul, cn_iand, cn_ior, cn_ixor, cn_ishl, cn_ishr, cn_iushr, cn_idiv, cn_irem, cn_ladd, cn_lmul, cn_ldiv, cn_lrem, cn_i2l, cn_l2i, cn_i2b, cn_lcmp, cn_dupi, cn_dupr, cn_dup2, cn_popi, cn_popr, cn_goto, cn_if_eq, cn_if_ne, cn_if_lt, cn_if_ge, cn_if_gt, cn_if_le, cn_ic_eq, cn_ic_ne, cn_ic_lt, cn_ic_ge, cn_ic_gt, cn_ic_le, cn_ifnullN, cn_ifnullR, cn_ifnonnullN, cn_ifnonnullR, cn_tswS, cn_tsw0, cn_tsw1, cn_lswS, cn_lsw0, cn_lsw1, cn_alen, cn_iaload, cn_laload, cn_rr1, cn_rr0, cn_aaload, cn_iastore, cn_lastore, cn_aastore, cn_getfield, cn_gf0, cn_gf1, cn_gf2, cn_gf3, cn_putfield, cn_pf0f, cn_pf1f, cn_pf2f, cn_pf3f, cn_pf0t, cn_pf1t, cn_pf2t, cn_pf3t, cn_new, cn_nw1, cn_newi, cn_newl, cn_anew, cn_an1, cn_inv_v, cn_inv_s, cn_inv_p, cn_ca1, cn_cb1, cn_pop0, cn_pops, cn_rk0, cn_rk1, cn_kcn, cn_kcs, cn_ireturn, cn_lreturn, cn_areturn, cn_return, cn_re0, cn_re1, cn_re2, cn_re3, cn_re4, cn_re5, cn_wp0, cn_wps, cn_m0, cn_m1, cn_e0, cn_en, cn_ei, cn_er, cn_eu, cn_el, cn_nl0, cn_nls, cn_nb0, cn_nb1, cn_nb2, cn_nb3, cn_bd0, cn_bds, cn_cwi, cn_cwr, cn_cwl, cn_cwn, cn_wi2, cn_wl1, cn_wl3, cn_wr1, cn_wr2, cn_wi_eq, cn_wl_eq, cb_0, cb_n0, cb_b, cm_okb0, cm_okb1, Classical.not_not, true_and, and_true, Nat.reduceAdd, Nat.reduceSub, Nat.reduceLT, Nat.reduceLeDiff, Int.reduceToNat, Int.reduceNatCast', Nat.zero_le, Nat.reduceEqDiff, false_or, or_false, or_true, true_or, Int.reduceNeg, reduceCtorEq, false_implies, implies_true, forall_const, true_implies, not_true_eq_false, not_false_eq_true, Nat.le_refl, ne_eq, if_true, if_false, ite_true, ite_false, List.cons_append, List.nil_append, w3_add, w3_sub, w3_mul, w3_le, w3_lt, w3_eq, w3_toInt, w3_ix, w3_00, w3_10, i0_le, i0_lt, i0_ge, i0_gt, i0_eq, Int.reduceLE, Int.reduceLT, Int.reduceAdd, Int.reduceSub, Int.reduceMul, Int.reduceEq, Int.le_refl, Int.lt_irrefl]
    exact lX7_bits d hd hS k (w3 0) hk (Int32.zero_add _).symm

theorem w3_dv {a b : Int} (h1 : 0 ≤ a) (h2 : a < 2147483648) (h3 : 0 < b) (h4 : b < 2147483648) : w3 a / w3 b = w3 (a / b) := by
  have m1 : Int32.minValue.toInt = -2147483648 := by decide
  have m2 : Int32.maxValue.toInt = 2147483647 := by decide
  have e : Int32.ofInt (a.tdiv b) = Int32.ofInt a / Int32.ofInt b := Int32.ofInt_tdiv (by omega) (by omega) (by omega) (by omega)
  rw [Int.tdiv_eq_ediv_of_nonneg h1] at e
  exact e.symm
theorem w3_rm {a b : Int} (h1 : 0 ≤ a) (h2 : a < 2147483648) (h3 : 0 < b) (h4 : b < 2147483648) : w3 a - w3 a / w3 b * w3 b = w3 (a % b) := by
  rw [w3_dv h1 h2 h3 h4, w3_mul, w3_sub, Int.emod_def, Int.mul_comm]
theorem w6_mul (a b : Int) : w6 a * w6 b = w6 (a * b) := (Int64.ofInt_mul a b).symm
theorem w6_sub (a b : Int) : w6 a - w6 b = w6 (a - b) := (Int64.ofInt_sub a b).symm
theorem w6_toInt {z : Int} (h1 : -9223372036854775808 ≤ z) (h2 : z < 9223372036854775808) : (w6 z).toInt = z := Int64.toInt_ofInt_of_le (by omega) (by omega)
theorem w6_dv {a b : Int} (h1 : 0 ≤ a) (h2 : a < 9223372036854775808) (h3 : 0 < b) (h4 : b < 9223372036854775808) : w6 a / w6 b = w6 (a / b) := by
  have m1 : Int64.minValue.toInt = -9223372036854775808 := by decide
  have m2 : Int64.maxValue.toInt = 9223372036854775807 := by decide
  have e : Int64.ofInt (a.tdiv b) = Int64.ofInt a / Int64.ofInt b := Int64.ofInt_tdiv (by omega) (by omega) (by omega) (by omega)
  rw [Int.tdiv_eq_ediv_of_nonneg h1] at e
  exact e.symm
theorem w6_rm {a b : Int} (h1 : 0 ≤ a) (h2 : a < 9223372036854775808) (h3 : 0 < b) (h4 : b < 9223372036854775808) : w6 a - w6 a / w6 b * w6 b = w6 (a % b) := by
  rw [w6_dv h1 h2 h3 h4, w6_mul, w6_sub, Int.emod_def, Int.mul_comm]
theorem i3_l (x : Int32) : x.toInt64 = w6 x.toInt := by
  have a := w3_lo x
  have b := w3_hi x
  exact Int64.toInt_inj.mp (by rw [Int32.toInt_toInt64, w6_toInt (by omega) (by omega)])
theorem mxs {T : cm_T} {M : cm_M} {a : Nat} (h : Sg T M a) : max (sz M a) 0 = ((cnt (fl M a)).length : Int) := by
  cases e : fl M a with
  | none =>
    have := flm_none e
    show max (sz M a) 0 = 0
    omega
  | some K =>
    have := (Sg_len h e).1
    show max (sz M a) 0 = (K.length : Int)
    omega
noncomputable def lotC (B : Bk) (l : Int) (p f : Nat) : Bk := if ¬ l % 4 = 0 ∧ meas (pk (B.2 p).1 f) 1 = 0 ∧ (cnt (pk (B.2 p).1 f)).length < 8 then bAdd B (setF (clr (B.2 p).1 (w3 (f : Int))) f (some (insL (cnt (pk (B.2 p).1 f)) (l / 16384 % (((cnt (pk (B.2 p).1 f)).length : Int) + 1)).toNat (w3 (l / 1024 % 10)))), (p : Int), -9) else match (mgA B false (p : Int) (l / 4096 % (B.1 : Int))).2 with
  | none => B
  | some X => bAdd B (X, (p : Int), l / 4096 % (B.1 : Int))
/-- a deed by a lot -/
noncomputable def lotB (B : Bk) (l : Int) : Bk := if B.1 = 0 ∨ 16 ≤ B.1 then B else lotC B l (l / 64 % (B.1 : Int)).toNat (l / 4 % 3).toNat
def ltN (z : Int) : Nat → Int
  | 0 => z
  | k + 1 => ltN z k * 48271 % 2147483647
noncomputable def lotI (B : Bk) (z : Int) : Nat → Bk
  | 0 => B
  | k + 1 => lotB (lotI B z k) (ltN z (k + 1))
noncomputable def fLts (s : St) (n z : Int) : Int32 × St := if (1 ≤ n ∧ n ≤ 10) ∧ 1 ≤ z ∧ z < 2147483647 then (if s.2.2.1.1 = 0 then (w3 (-4), s) else (w3 ((lotI s.2.2.1 z n.toNat).1 : Int), stB s (lotI s.2.2.1 z n.toNat))) else (w3 (-1), s)
theorem ne_off {x a b f : Nat} (h : b < a) : x + 3 + 6 + 8 * a + 2 + 2 * f ≠ x + 3 + 6 + 8 * b + 2 + 2 * f := by omega
theorem ltN_bd {z : Int} (h1 : 0 ≤ z) (h2 : z < 2147483647) : ∀ k, 0 ≤ ltN z k ∧ ltN z k < 2147483647
  | 0 => ⟨h1, h2⟩
  | k + 1 => by
    show 0 ≤ ltN z k * 48271 % 2147483647 ∧ ltN z k * 48271 % 2147483647 < 2147483647
    omega
theorem cnt_bal {B : Bk} {v f : Nat} (h : TvG (B.2 v).1) (hf : f < 3) : Bal (cnt (pk (B.2 v).1 f)) := by
  match f, hf with
  | 0, _ => exact h.1.1
  | 1, _ => exact h.1.2.1
  | 2, _ => exact h.1.2.2
def SX6_doByLot : cm_CT := fun as T M Φ => match as with
  | [.ref x, .int lot] => ∃ (L : Nat) (l : Int), CMG T M x L ∧ lot = w3 l ∧ 0 ≤ l ∧ l < 2147483648 ∧ ∀ M1, FrC M M1 x L → CMG T M1 x L → cst M1 x = stB (cst M x) (lotB (bkv M (x + 3)) l) → Φ none T M1
  | _ => False
def JX6_doByLot : cm_J := (6, false, 0, [(206, 1, 1, 0, 0, SX0_isFull), (209, 3, 1, 0, 0, SX0_addChild), (329, 4, 5, 0, 0, SX4_becomeWith), (192, 5, 7, 0, 0, SX6_mergeAside), (131, 4, 1, 0, 0, SX0_add)], [(324, 2, 0, 0, 0, SJ9_max_7cf53), (179, 2, 0, 0, 0, SX5_measure)], [])
theorem jX6_doByLot : JX6_doByLot.1 = 6 ∧ JX6_doByLot.2.1 = false ∧ JX6_doByLot.2.2.1 = 0 ∧ cm_gv JX6_doByLot 206 = some (1, 1, 0, 0, SX0_isFull) ∧ cm_gv JX6_doByLot 209 = some (3, 1, 0, 0, SX0_addChild) ∧ cm_gv JX6_doByLot 329 = some (4, 5, 0, 0, SX4_becomeWith) ∧ cm_gv JX6_doByLot 192 = some (5, 7, 0, 0, SX6_mergeAside) ∧ cm_gv JX6_doByLot 131 = some (4, 1, 0, 0, SX0_add) ∧ cm_gs JX6_doByLot 324 = some (2, 0, 0, 0, SJ9_max_7cf53) ∧ cm_gs JX6_doByLot 179 = some (2, 0, 0, 0, SX5_measure) := ⟨rfl, rfl, rfl, rfl, rfl, rfl, rfl, rfl, rfl, rfl⟩
theorem eX6_doByLot (d : Nat) (hd : 23 ≤ d) : cm_Cok d JX6_doByLot := ⟨(List.forall_mem_cons.mpr ⟨q6_206 (mX0_isFull (d - 1) (by omega)) (by omega), (List.forall_mem_cons.mpr ⟨q6_209 (mX0_addChild (d - 1) (by omega)) (by omega), (List.forall_mem_cons.mpr ⟨q6_329 (mX4_becomeWith (d - 1) (by omega)) (by omega), (List.forall_mem_cons.mpr ⟨q6_192 (mX6_mergeAside (d - 1) (by omega)) (by omega), (List.forall_mem_cons.mpr ⟨q6_131 (mX0_add (d - 1) (by omega)) (by omega), (fun q h => by cases h)⟩)⟩)⟩)⟩)⟩), (List.forall_mem_cons.mpr ⟨(cm_calMx (cm_w 651 (by decide +kernel) rfl)), (List.forall_mem_cons.mpr ⟨q6_179 (mX5_measure (d - 1) (by omega)) (by omega), (fun q h => by cases h)⟩)⟩), (fun q h => by cases h)⟩
set_option maxHeartbeats 4000000 in
theorem mX6_doByLot (d : Nat) (hd : 23 ≤ d) : cm_Met d yX6_doByLot cX6_doByLot 7 none 0 0 SX6_doByLot := by
  refine cm_meets (J := JX6_doByLot) (by decide) rfl (fun h => by cases h) trivial ?_
  intro as T M Φ hS
  match as, hS with
  | [.ref x, .int lot], ⟨L, l, hC, hl, hl0, hl1, hS⟩ =>
    refine ⟨Nat.le_of_ble_eq_true rfl, ?_⟩
    subst hl
    obtain ⟨k0, ⟨r0, r1, r2, r3, r4, r5, r6, r7, r8, r13⟩, ⟨k1, k2, k137, k305⟩, ⟨l1, l2, l137, l305⟩, hr, ht⟩ := id hC.2.1
    have hB := hC.2.2.1
    obtain ⟨⟨K0, ⟨R1, R2, R3, R4, R5⟩, ⟨KK1, K2, K3, K4, K5⟩, ⟨L1, L2, L3, L4, L5⟩, RV⟩, HZ, HT, HW, HA⟩ := id hB
    obtain ⟨hn, hn16⟩ := hB.n
    have hz0 : M.1 (x + 3) 0 = w3 ((bkv M (x + 3)).1 : Int) := i3_of hn
    by_cases h00 : (bkv M (x + 3)).1 = 0
    · have nz : (w3 ((bkv M (x + 3)).1 : Int) = 0) = True := eq_true (by rw [h00]; rfl)
      unfold lotB at hS
      rw [if_pos (Or.inl h00)] at hS
      refine cm_go hX6_doByLot 300 oX6_doByLot (eX6_doByLot d hd) lX6_doByLot_0 ?_
      simp only [jX6_doByLot, kX6_doByLot_0, kX6_doByLot_1, fl_6_21, fl_6_130, fl_6_154, fl_6_173, fl_6_107, fl_6_39, hz0, nz, k0, r0, r1, r2, r3, r4, r5, r6, r7, r8, r13, k1, k2, k137, k305, l1, l2, l137, l305, K0, R1, R2, R3, R4, R5, KK1, K2, K3, K4, K5, L1, L2, L3, L4, L5, w3_00, w3_10, cn_iconst, cn_lconst0, cn_lconst1, cn_null, cn_iload, cn_aload, cn_lload, cn_lo1, cn_loa1, cn_loa2, cn_lol1, cn_get0, cn_gets, cn_put0, cn_puts, cn_istore, cn_astore, cn_astoreN, cn_lstore, cn_iinc, cn_in1, cn_iadd, cn_isub, cn_imul, cn_iand, cn_ior, cn_ixor, cn_ishl, cn_ishr, cn_iushr, cn_idiv, cn_irem, cn_ladd, cn_lmul, cn_ldiv, cn_lrem, cn_i2l, cn_l2i, cn_i2b, cn_lcmp, cn_dupi, cn_dupr, cn_dup2, cn_popi, cn_popr, cn_goto, cn_if_eq, cn_if_ne, cn_if_lt, cn_if_ge, cn_if_gt, cn_if_le, cn_ic_eq, cn_ic_ne, cn_ic_lt, cn_ic_ge, cn_ic_gt, cn_ic_le, cn_ifnullN, cn_ifnullR, cn_ifnonnullN, cn_ifnonnullR, cn_tswS, cn_tsw0, cn_tsw1, cn_lswS, cn_lsw0, cn_lsw1, cn_alen, cn_iaload, cn_laload, cn_rr1, cn_rr0, cn_aaload, cn_iastore, cn_lastore, cn_aastore, cn_getfield, cn_gf0, cn_gf1, cn_gf2, cn_gf3, cn_putfield, cn_pf0f, cn_pf1f, cn_pf2f, cn_pf3f, cn_pf0t, cn_pf1t, cn_pf2t, cn_pf3t, cn_new, cn_nw1, cn_newi, cn_newl, cn_anew, cn_an1, cn_inv_v, cn_inv_s, cn_inv_p, cn_ca1, cn_cb1, cn_pop0, cn_pops, cn_rk0, cn_rk1, cn_kcn, cn_kcs, cn_ireturn, cn_lreturn, cn_areturn, cn_return, cn_re0, cn_re1, cn_re2, cn_re3, cn_re4, cn_re5, cn_wp0, cn_wps, cn_m0, cn_m1, cn_e0, cn_en, cn_ei, cn_er, cn_eu, cn_el, cn_nl0, cn_nls, cn_nb0, cn_nb1, cn_nb2, cn_nb3, cn_bd0, cn_bds, cn_cwi, cn_cwr, cn_cwl, cn_cwn, cn_wi2, cn_wl1, cn_wl3, cn_wr1, cn_wr2, cn_wi_eq, cn_wl_eq, cb_0, cb_n0, cb_b, cm_okb0, cm_okb1, Classical.not_not, true_and, and_true, Nat.reduceAdd, Nat.reduceSub, Nat.reduceLT, Nat.reduceLeDiff, Int.reduceToNat, Int.reduceNatCast', Nat.zero_le, Nat.reduceEqDiff, false_or, or_false, or_true, true_or, Int.reduceNeg, reduceCtorEq, false_implies, implies_true, forall_const, true_implies, not_true_eq_false, not_false_eq_true, Nat.le_refl, ne_eq, if_true, if_false, ite_true, ite_false, List.cons_append, List.nil_append]
      exact hS M FrC.rf hC rfl
    · have nz : (w3 ((bkv M (x + 3)).1 : Int) = 0) = False := eq_false (by rw [w3_z, w3_eq (by omega) (by omega) (by omega) (by omega)]; omega)
      by_cases h16 : 16 ≤ (bkv M (x + 3)).1
      · unfold lotB at hS
        rw [if_pos (Or.inr h16)] at hS
        have nf : ((16 : Int) ≤ ((bkv M (x + 3)).1 : Int)) = True := eq_true (by omega)
        refine cm_go hX6_doByLot 300 oX6_doByLot (eX6_doByLot d hd) lX6_doByLot_0 ?_
        simp only [jX6_doByLot, kX6_doByLot_0, kX6_doByLot_1, fl_6_21, fl_6_130, fl_6_154, fl_6_173, fl_6_107, fl_6_39, hz0, nz, SX0_isFull, hn, nf, k0, r0, r1, r2, r3, r4, r5, r6, r7, r8, r13, k1, k2, k137, k305, l1, l2, l137, l305, K0, R1, R2, R3, R4, R5, KK1, K2, K3, K4, K5, L1, L2, L3, L4, L5, w3_00, w3_10, cn_iconst, cn_lconst0, cn_lconst1, cn_null, cn_iload, cn_aload, cn_lload, cn_lo1, cn_loa1, cn_loa2, cn_lol1, cn_get0, cn_gets, cn_put0, cn_puts, cn_istore, cn_astore, cn_astoreN, cn_lstore, cn_iinc, cn_in1, cn_iadd, cn_isub, cn_imul, cn_iand, cn_ior, cn_ixor, cn_ishl, cn_ishr, cn_iushr, cn_idiv, cn_irem, cn_ladd, cn_lmul, cn_ldiv, cn_lrem, cn_i2l, cn_l2i, cn_i2b, cn_lcmp, cn_dupi, cn_dupr, cn_dup2, cn_popi, cn_popr, cn_goto, cn_if_eq, cn_if_ne, cn_if_lt, cn_if_ge, cn_if_gt, cn_if_le, cn_ic_eq, cn_ic_ne, cn_ic_lt, cn_ic_ge, cn_ic_gt, cn_ic_le, cn_ifnullN, cn_ifnullR, cn_ifnonnullN, cn_ifnonnullR, cn_tswS, cn_tsw0, cn_tsw1, cn_lswS, cn_lsw0, cn_lsw1, cn_alen, cn_iaload, cn_laload, cn_rr1, cn_rr0, cn_aaload, cn_iastore, cn_lastore, cn_aastore, cn_getfield, cn_gf0, cn_gf1, cn_gf2, cn_gf3, cn_putfield, cn_pf0f, cn_pf1f, cn_pf2f, cn_pf3f, cn_pf0t, cn_pf1t, cn_pf2t, cn_pf3t, cn_new, cn_nw1, cn_newi, cn_newl, cn_anew, cn_an1, cn_inv_v, cn_inv_s, cn_inv_p, cn_ca1, cn_cb1, cn_pop0, cn_pops, cn_rk0, cn_rk1, cn_kcn, cn_kcs, cn_ireturn, cn_lreturn, cn_areturn, cn_return, cn_re0, cn_re1, cn_re2, cn_re3, cn_re4, cn_re5, cn_wp0, cn_wps, cn_m0, cn_m1, cn_e0, cn_en, cn_ei, cn_er, cn_eu, cn_el, cn_nl0, cn_nls, cn_nb0, cn_nb1, cn_nb2, cn_nb3, cn_bd0, cn_bds, cn_cwi, cn_cwr, cn_cwl, cn_cwn, cn_wi2, cn_wl1, cn_wl3, cn_wr1, cn_wr2, cn_wi_eq, cn_wl_eq, cb_0, cb_n0, cb_b, cm_okb0, cm_okb1, Classical.not_not, true_and, and_true, Nat.reduceAdd, Nat.reduceSub, Nat.reduceLT, Nat.reduceLeDiff, Int.reduceToNat, Int.reduceNatCast', Nat.zero_le, Nat.reduceEqDiff, false_or, or_false, or_true, true_or, Int.reduceNeg, reduceCtorEq, false_implies, implies_true, forall_const, true_implies, not_true_eq_false, not_false_eq_true, Nat.le_refl, ne_eq, if_true, if_false, ite_true, ite_false, List.cons_append, List.nil_append]
        exact hS M FrC.rf hC rfl
      · have nf : ((16 : Int) ≤ ((bkv M (x + 3)).1 : Int)) = False := eq_false (by omega)
        unfold lotB at hS
        rw [if_neg (by omega)] at hS
        have c64 : (w3 64 = 0) = False := eq_false (by decide)
        have c4 : (w3 4 = 0) = False := eq_false (by decide)
        have c3 : (w3 3 = 0) = False := eq_false (by decide)
        have c10 : (w3 10 = 0) = False := eq_false (by decide)
        have c16 : (w3 16384 = 0) = False := eq_false (by decide)
        have c1k : (w3 1024 = 0) = False := eq_false (by decide)
        have c40 : (w3 4096 = 0) = False := eq_false (by decide)
        have D64 : w3 l / w3 64 = w3 (l / 64) := w3_dv hl0 hl1 (by omega) (by omega)
        have D4 : w3 l / w3 4 = w3 (l / 4) := w3_dv hl0 hl1 (by omega) (by omega)
        have D16 : w3 l / w3 16384 = w3 (l / 16384) := w3_dv hl0 hl1 (by omega) (by omega)
        have D10 : w3 l / w3 1024 = w3 (l / 1024) := w3_dv hl0 hl1 (by omega) (by omega)
        have D40 : w3 l / w3 4096 = w3 (l / 4096) := w3_dv hl0 hl1 (by omega) (by omega)
        have hpi0 : 0 ≤ l / 64 % ((bkv M (x + 3)).1 : Int) := Int.emod_nonneg _ (by omega)
        have hpi1 : l / 64 % ((bkv M (x + 3)).1 : Int) < ((bkv M (x + 3)).1 : Int) := Int.emod_lt_of_pos _ (by omega)
        have hom0 : 0 ≤ l / 4096 % ((bkv M (x + 3)).1 : Int) := Int.emod_nonneg _ (by omega)
        have hom1 : l / 4096 % ((bkv M (x + 3)).1 : Int) < ((bkv M (x + 3)).1 : Int) := Int.emod_lt_of_pos _ (by omega)
        have rp0 : w3 (l / 64) - w3 (l / 64) / w3 ((bkv M (x + 3)).1 : Int) * w3 ((bkv M (x + 3)).1 : Int) = w3 (l / 64 % ((bkv M (x + 3)).1 : Int)) := w3_rm (by omega) (by omega) (by omega) (by omega)
        have ro : w3 (l / 4096) - w3 (l / 4096) / w3 ((bkv M (x + 3)).1 : Int) * w3 ((bkv M (x + 3)).1 : Int) = w3 (l / 4096 % ((bkv M (x + 3)).1 : Int)) := w3_rm (by omega) (by omega) (by omega) (by omega)
        have rf0 : w3 (l / 4) - w3 (l / 4) / w3 3 * w3 3 = w3 (l / 4 % 3) := w3_rm (by omega) (by omega) (by omega) (by omega)
        have r4 : w3 l - w3 (l / 4) * w3 4 = w3 (l % 4) := by rw [← D4]; exact w3_rm hl0 hl1 (by omega) (by omega)
        obtain ⟨π, hpi⟩ : ∃ π : Nat, l / 64 % ((bkv M (x + 3)).1 : Int) = (π : Int) := ⟨(l / 64 % ((bkv M (x + 3)).1 : Int)).toNat, by omega⟩
        obtain ⟨φ, hfi⟩ : ∃ φ : Nat, l / 4 % 3 = (φ : Int) := ⟨(l / 4 % 3).toNat, by omega⟩
        have hπ : π < (bkv M (x + 3)).1 := by omega
        have hφ : φ < 3 := by omega
        have rp : w3 (l / 64) - w3 (l / 64) / w3 ((bkv M (x + 3)).1 : Int) * w3 ((bkv M (x + 3)).1 : Int) = w3 (π : Int) := by rw [rp0, hpi]
        have rf : w3 (l / 4) - w3 (l / 4) / w3 3 * w3 3 = w3 (φ : Int) := by rw [rf0, hfi]
        rw [hpi, hfi, show ((π : Int)).toNat = π by omega, show ((φ : Int)).toNat = φ by omega] at hS
        have epi : (w3 (π : Int)).toInt = (π : Int) := w3_toInt (by omega) (by omega)
        have efi : (w3 (φ : Int)).toInt = (φ : Int) := w3_toInt (by omega) (by omega)
        have eom : (w3 (l / 4096 % ((bkv M (x + 3)).1 : Int))).toInt = l / 4096 % ((bkv M (x + 3)).1 : Int) := w3_toInt (by omega) (by omega)
        have ixpi : cm_ix (w3 (π : Int)) 16 := by rw [w3_ix (by omega) (by omega)]; exact ⟨by omega, by omega⟩
        have ixfi : cm_ix (w3 (φ : Int)) 3 := by rw [w3_ix (by omega) (by omega)]; exact ⟨by omega, by omega⟩
        have tG := HT π (by omega)
        obtain ⟨g1, g2, g3, g4, g5, g6⟩ := tr_f tG hφ
        have rv := RV π (by omega)
        have u1 := tG.1.1
        have u2 := tG.1.2.1
        have u3 := tG.1.2.2.1
        have u4 := tG.1.2.2.2.1
        have e1w : (w3 1).toInt = 1 := by decide
        have hpk : pk ((bkv M (x + 3)).2 π).1 φ = fl M (x + 3 + 6 + 8 * π + 2 + 2 * φ) := by rw [bkv_lt hπ]; exact pk_tr hφ
        have hbA := cnt_bal (HW.2.1 π hπ).1 hφ
        have lnA := cnt_40 g5
        have hzf : M.1 (x + 3 + 6 + 8 * π + 2 + 2 * φ) 1 = w3 (sz M (x + 3 + 6 + 8 * π + 2 + 2 * φ)) := (w3_self _).symm
        have z51 := g5.1
        have z52 := g5.2
        have mxz := mxs g3
        have mb := meas_bd g3 1
        have mxw : (if w3 (sz M (x + 3 + 6 + 8 * π + 2 + 2 * φ)) < w3 0 then w3 0 else w3 (sz M (x + 3 + 6 + 8 * π + 2 + 2 * φ))) = w3 ((cnt (fl M (x + 3 + 6 + 8 * π + 2 + 2 * φ))).length : Int) := by rw [w3_mx3 (by omega) (by omega) (by omega) (by omega), mxz]
        unfold lotC at hS
        rw [hpk] at hS hbA
        by_cases h4 : l % 4 = 0
        · rw [if_neg (fun w => w.1 h4)] at hS
          have q4 : (w3 (l % 4) = 0) = True := eq_true (by rw [h4]; rfl)
          have mz : (0 : Int) = 0 := rfl
          have q8 : (0 : Int) = 0 := rfl
          refine cm_go hX6_doByLot 300 oX6_doByLot (eX6_doByLot d hd) lX6_doByLot_0 ?_
          simp only [jX6_doByLot, kX6_doByLot_0, kX6_doByLot_1, fl_6_21, fl_6_130, fl_6_154, fl_6_173, fl_6_107, fl_6_39, hz0, SX0_isFull, SJ9_max_7cf53, SX5_measure, e1w, hn, nf, nz, D64, D4, rp, rf, D16, D10, r4, c64, c4, c3, c10, c16, c1k, hzf, mxw, mz, q4, q8, epi, ixpi, efi, ixfi, rv, u1, u2, u3, u4, g1, g2, g3, k0, r0, r1, r2, r3, r4, r5, r6, r7, r8, r13, k1, k2, k137, k305, l1, l2, l137, l305, K0, R1, R2, R3, R4, R5, KK1, K2, K3, K4, K5, L1, L2, L3, L4, L5, w3_00, w3_10, D40, ro, c40, cn_iconst, cn_lconst0, cn_lconst1, cn_null, cn_iload, cn_aload, cn_lload, cn_lo1, cn_loa1, cn_loa2, cn_lol1, cn_get0, cn_gets, cn_put0, cn_puts, cn_istore, cn_astore, cn_astoreN, cn_lstore, cn_iinc, cn_in1, cn_iadd, cn_isub, cn_imul, cn_iand, cn_ior, cn_ixor, cn_ishl, cn_ishr, cn_iushr, cn_idiv, cn_irem, cn_ladd, cn_lmul, cn_ldiv, cn_lrem, cn_i2l, cn_l2i, cn_i2b, cn_lcmp, cn_dupi, cn_dupr, cn_dup2, cn_popi, cn_popr, cn_goto, cn_if_eq, cn_if_ne, cn_if_lt, cn_if_ge, cn_if_gt, cn_if_le, cn_ic_eq, cn_ic_ne, cn_ic_lt, cn_ic_ge, cn_ic_gt, cn_ic_le, cn_ifnullN, cn_ifnullR, cn_ifnonnullN, cn_ifnonnullR, cn_tswS, cn_tsw0, cn_tsw1, cn_lswS, cn_lsw0, cn_lsw1, cn_alen, cn_iaload, cn_laload, cn_rr1, cn_rr0, cn_aaload, cn_iastore, cn_lastore, cn_aastore, cn_getfield, cn_gf0, cn_gf1, cn_gf2, cn_gf3, cn_putfield, cn_pf0f, cn_pf1f, cn_pf2f, cn_pf3f, cn_pf0t, cn_pf1t, cn_pf2t, cn_pf3t, cn_new, cn_nw1, cn_newi, cn_newl, cn_anew, cn_an1, cn_inv_v, cn_inv_s, cn_inv_p, cn_ca1, cn_cb1, cn_pop0, cn_pops, cn_rk0, cn_rk1, cn_kcn, cn_kcs, cn_ireturn, cn_lreturn, cn_areturn, cn_return, cn_re0, cn_re1, cn_re2, cn_re3, cn_re4, cn_re5, cn_wp0, cn_wps, cn_m0, cn_m1, cn_e0, cn_en, cn_ei, cn_er, cn_eu, cn_el, cn_nl0, cn_nls, cn_nb0, cn_nb1, cn_nb2, cn_nb3, cn_bd0, cn_bds, cn_cwi, cn_cwr, cn_cwl, cn_cwn, cn_wi2, cn_wl1, cn_wl3, cn_wr1, cn_wr2, cn_wi_eq, cn_wl_eq, cb_0, cb_n0, cb_b, cm_okb0, cm_okb1, Classical.not_not, true_and, and_true, Nat.reduceAdd, Nat.reduceSub, Nat.reduceLT, Nat.reduceLeDiff, Int.reduceToNat, Int.reduceNatCast', Nat.zero_le, Nat.reduceEqDiff, false_or, or_false, or_true, true_or, Int.reduceNeg, reduceCtorEq, false_implies, implies_true, forall_const, true_implies, not_true_eq_false, not_false_eq_true, Nat.le_refl, ne_eq, if_true, if_false, ite_true, ite_false, List.cons_append, List.nil_append]
          refine ⟨L, false, hC, rfl, Or.inl rfl, fun M1 f1 c1 s1 o1 x1 => ?_⟩
          rw [epi, eom] at x1 ⊢
          obtain ⟨k0', ⟨r0', r1', r2', r3', r4', r5', r6', r7', r8', r13'⟩, -⟩ := id c1.2.1
          have eb1 : bkv M1 (x + 3) = bkv M (x + 3) := congrArg (fun s : St => s.2.2.1) s1
          rcases mgA_c (B := bkv M (x + 3)) (tn := false) (a := (π : Int)) (b := l / 4096 % ((bkv M (x + 3)).1 : Int)) with ⟨X, e, hP, -, -⟩ | ⟨r, e, hr'⟩
          · rw [e] at x1 hS ⊢
            obtain ⟨x2, x3⟩ := x1 X rfl
            obtain ⟨⟨pa1, pa2⟩, ⟨pb1, pb2⟩, -⟩ := hP
            simp only [jX6_doByLot, kX6_doByLot_0, kX6_doByLot_1, fl_6_21, fl_6_130, fl_6_154, fl_6_173, fl_6_107, fl_6_39, w3_00, K0, k0, r2', r5', cn_iconst, cn_lconst0, cn_lconst1, cn_null, cn_iload, cn_aload, cn_lload, cn_lo1, cn_loa1, cn_loa2, cn_lol1, cn_get0, cn_gets, cn_put0, cn_puts, cn_istore, cn_astore, cn_astoreN, cn_lstore, cn_iinc, cn_in1, cn_iadd, cn_isub, cn_imul, cn_iand, cn_ior, cn_ixor, cn_ishl, cn_ishr, cn_iushr, cn_idiv, cn_irem, cn_ladd, cn_lmul, cn_ldiv, cn_lrem, cn_i2l, cn_l2i, cn_i2b, cn_lcmp, cn_dupi, cn_dupr, cn_dup2, cn_popi, cn_popr, cn_goto, cn_if_eq, cn_if_ne, cn_if_lt, cn_if_ge, cn_if_gt, cn_if_le, cn_ic_eq, cn_ic_ne, cn_ic_lt, cn_ic_ge, cn_ic_gt, cn_ic_le, cn_ifnullN, cn_ifnullR, cn_ifnonnullN, cn_ifnonnullR, cn_tswS, cn_tsw0, cn_tsw1, cn_lswS, cn_lsw0, cn_lsw1, cn_alen, cn_iaload, cn_laload, cn_rr1, cn_rr0, cn_aaload, cn_iastore, cn_lastore, cn_aastore, cn_getfield, cn_gf0, cn_gf1, cn_gf2, cn_gf3, cn_putfield, cn_pf0f, cn_pf1f, cn_pf2f, cn_pf3f, cn_pf0t, cn_pf1t, cn_pf2t, cn_pf3t, cn_new, cn_nw1, cn_newi, cn_newl, cn_anew, cn_an1, cn_inv_v, cn_inv_s, cn_inv_p, cn_ca1, cn_cb1, cn_pop0, cn_pops, cn_rk0, cn_rk1, cn_kcn, cn_kcs, cn_ireturn, cn_lreturn, cn_areturn, cn_return, cn_re0, cn_re1, cn_re2, cn_re3, cn_re4, cn_re5, cn_wp0, cn_wps, cn_m0, cn_m1, cn_e0, cn_en, cn_ei, cn_er, cn_eu, cn_el, cn_nl0, cn_nls, cn_nb0, cn_nb1, cn_nb2, cn_nb3, cn_bd0, cn_bds, cn_cwi, cn_cwr, cn_cwl, cn_cwn, cn_wi2, cn_wl1, cn_wl3, cn_wr1, cn_wr2, cn_wi_eq, cn_wl_eq, cb_0, cb_n0, cb_b, cm_okb0, cm_okb1, Classical.not_not, true_and, and_true, Nat.reduceAdd, Nat.reduceSub, Nat.reduceLT, Nat.reduceLeDiff, Int.reduceToNat, Int.reduceNatCast', Nat.zero_le, Nat.reduceEqDiff, false_or, or_false, or_true, true_or, Int.reduceNeg, reduceCtorEq, false_implies, implies_true, forall_const, true_implies, not_true_eq_false, not_false_eq_true, Nat.le_refl, ne_eq, if_true, if_false, ite_true, ite_false, List.cons_append, List.nil_append]
            refine ⟨c1.2.2.1, fun q => ?_, fun q => ⟨c1.2.2.2.2.1.2.2.1.1, ?_, by rw [x2]; exact x3, ?_, fun M2 F2 G2 b2 => ?_⟩⟩
            · rw [eb1] at q; omega
            · rw [eb1] at q ⊢
              exact ⟨by omega, by unfold dj; omega⟩
            · rw [eb1, epi, eom]
              exact ⟨fun z => by omega, fun _ => ⟨by omega, by omega, Or.inr ⟨by omega, by omega⟩⟩⟩
            · rw [eb1] at q b2 ⊢
              simp only [jX6_doByLot, kX6_doByLot_0, kX6_doByLot_1, fl_6_21, fl_6_130, fl_6_154, fl_6_173, fl_6_107, fl_6_39, K0, cn_iconst, cn_lconst0, cn_lconst1, cn_null, cn_iload, cn_aload, cn_lload, cn_lo1, cn_loa1, cn_loa2, cn_lol1, cn_get0, cn_gets, cn_put0, cn_puts, cn_istore, cn_astore, cn_astoreN, cn_lstore, cn_iinc, cn_in1, cn_iadd, cn_isub, cn_imul, cn_iand, cn_ior, cn_ixor, cn_ishl, cn_ishr, cn_iushr, cn_idiv, cn_irem, cn_ladd, cn_lmul, cn_ldiv, cn_lrem, cn_i2l, cn_l2i, cn_i2b, cn_lcmp, cn_dupi, cn_dupr, cn_dup2, cn_popi, cn_popr, cn_goto, cn_if_eq, cn_if_ne, cn_if_lt, cn_if_ge, cn_if_gt, cn_if_le, cn_ic_eq, cn_ic_ne, cn_ic_lt, cn_ic_ge, cn_ic_gt, cn_ic_le, cn_ifnullN, cn_ifnullR, cn_ifnonnullN, cn_ifnonnullR, cn_tswS, cn_tsw0, cn_tsw1, cn_lswS, cn_lsw0, cn_lsw1, cn_alen, cn_iaload, cn_laload, cn_rr1, cn_rr0, cn_aaload, cn_iastore, cn_lastore, cn_aastore, cn_getfield, cn_gf0, cn_gf1, cn_gf2, cn_gf3, cn_putfield, cn_pf0f, cn_pf1f, cn_pf2f, cn_pf3f, cn_pf0t, cn_pf1t, cn_pf2t, cn_pf3t, cn_new, cn_nw1, cn_newi, cn_newl, cn_anew, cn_an1, cn_inv_v, cn_inv_s, cn_inv_p, cn_ca1, cn_cb1, cn_pop0, cn_pops, cn_rk0, cn_rk1, cn_kcn, cn_kcs, cn_ireturn, cn_lreturn, cn_areturn, cn_return, cn_re0, cn_re1, cn_re2, cn_re3, cn_re4, cn_re5, cn_wp0, cn_wps, cn_m0, cn_m1, cn_e0, cn_en, cn_ei, cn_er, cn_eu, cn_el, cn_nl0, cn_nls, cn_nb0, cn_nb1, cn_nb2, cn_nb3, cn_bd0, cn_bds, cn_cwi, cn_cwr, cn_cwl, cn_cwn, cn_wi2, cn_wl1, cn_wl3, cn_wr1, cn_wr2, cn_wi_eq, cn_wl_eq, cb_0, cb_n0, cb_b, cm_okb0, cm_okb1, Classical.not_not, true_and, and_true, Nat.reduceAdd, Nat.reduceSub, Nat.reduceLT, Nat.reduceLeDiff, Int.reduceToNat, Int.reduceNatCast', Nat.zero_le, Nat.reduceEqDiff, false_or, or_false, or_true, true_or, Int.reduceNeg, reduceCtorEq, false_implies, implies_true, forall_const, true_implies, not_true_eq_false, not_false_eq_true, Nat.le_refl, ne_eq, if_true, if_false, ite_true, ite_false, List.cons_append, List.nil_append]
              obtain ⟨d1, d2, d3⟩ := cs_book c1 F2 G2
              refine hS M2 (f1.trans d3) d1 ?_
              rw [d2, s1, b2, x2, epi, eom]
          · rw [e] at x1 hS ⊢
            simp only [jX6_doByLot, kX6_doByLot_0, kX6_doByLot_1, fl_6_21, fl_6_130, fl_6_154, fl_6_173, fl_6_107, fl_6_39, hr', k0, r2', r5', cn_iconst, cn_lconst0, cn_lconst1, cn_null, cn_iload, cn_aload, cn_lload, cn_lo1, cn_loa1, cn_loa2, cn_lol1, cn_get0, cn_gets, cn_put0, cn_puts, cn_istore, cn_astore, cn_astoreN, cn_lstore, cn_iinc, cn_in1, cn_iadd, cn_isub, cn_imul, cn_iand, cn_ior, cn_ixor, cn_ishl, cn_ishr, cn_iushr, cn_idiv, cn_irem, cn_ladd, cn_lmul, cn_ldiv, cn_lrem, cn_i2l, cn_l2i, cn_i2b, cn_lcmp, cn_dupi, cn_dupr, cn_dup2, cn_popi, cn_popr, cn_goto, cn_if_eq, cn_if_ne, cn_if_lt, cn_if_ge, cn_if_gt, cn_if_le, cn_ic_eq, cn_ic_ne, cn_ic_lt, cn_ic_ge, cn_ic_gt, cn_ic_le, cn_ifnullN, cn_ifnullR, cn_ifnonnullN, cn_ifnonnullR, cn_tswS, cn_tsw0, cn_tsw1, cn_lswS, cn_lsw0, cn_lsw1, cn_alen, cn_iaload, cn_laload, cn_rr1, cn_rr0, cn_aaload, cn_iastore, cn_lastore, cn_aastore, cn_getfield, cn_gf0, cn_gf1, cn_gf2, cn_gf3, cn_putfield, cn_pf0f, cn_pf1f, cn_pf2f, cn_pf3f, cn_pf0t, cn_pf1t, cn_pf2t, cn_pf3t, cn_new, cn_nw1, cn_newi, cn_newl, cn_anew, cn_an1, cn_inv_v, cn_inv_s, cn_inv_p, cn_ca1, cn_cb1, cn_pop0, cn_pops, cn_rk0, cn_rk1, cn_kcn, cn_kcs, cn_ireturn, cn_lreturn, cn_areturn, cn_return, cn_re0, cn_re1, cn_re2, cn_re3, cn_re4, cn_re5, cn_wp0, cn_wps, cn_m0, cn_m1, cn_e0, cn_en, cn_ei, cn_er, cn_eu, cn_el, cn_nl0, cn_nls, cn_nb0, cn_nb1, cn_nb2, cn_nb3, cn_bd0, cn_bds, cn_cwi, cn_cwr, cn_cwl, cn_cwn, cn_wi2, cn_wl1, cn_wl3, cn_wr1, cn_wr2, cn_wi_eq, cn_wl_eq, cb_0, cb_n0, cb_b, cm_okb0, cm_okb1, Classical.not_not, true_and, and_true, Nat.reduceAdd, Nat.reduceSub, Nat.reduceLT, Nat.reduceLeDiff, Int.reduceToNat, Int.reduceNatCast', Nat.zero_le, Nat.reduceEqDiff, false_or, or_false, or_true, true_or, Int.reduceNeg, reduceCtorEq, false_implies, implies_true, forall_const, true_implies, not_true_eq_false, not_false_eq_true, Nat.le_refl, ne_eq, if_true, if_false, ite_true, ite_false, List.cons_append, List.nil_append]
            exact hS M1 f1 c1 s1
        · have q4 : (w3 (l % 4) = 0) = False := eq_false (by rw [w3_z, w3_eq (by omega) (by omega) (by omega) (by omega)]; exact h4)
          by_cases hm : meas (fl M (x + 3 + 6 + 8 * π + 2 + 2 * φ)) 1 = 0
          · have mz : (w3 (meas (fl M (x + 3 + 6 + 8 * π + 2 + 2 * φ)) 1) = 0) = True := eq_true (by rw [hm]; rfl)
            by_cases h8 : (cnt (fl M (x + 3 + 6 + 8 * π + 2 + 2 * φ))).length < 8
            · have q8 : (w3 8 ≤ w3 ((cnt (fl M (x + 3 + 6 + 8 * π + 2 + 2 * φ))).length : Int)) = False := eq_false (by rw [w3_le (by omega) (by omega) (by omega) (by omega)]; omega)
              rw [if_pos ⟨h4, hm, h8⟩] at hS
              have c91 : w3 ((cnt (fl M (x + 3 + 6 + 8 * π + 2 + 2 * φ))).length : Int) + w3 1 = w3 (((cnt (fl M (x + 3 + 6 + 8 * π + 2 + 2 * φ))).length : Int) + 1) := w3_add _ _
              have c92 : (w3 (((cnt (fl M (x + 3 + 6 + 8 * π + 2 + 2 * φ))).length : Int) + 1) = 0) = False := eq_false (by rw [w3_z, w3_eq (by omega) (by omega) (by omega) (by omega)]; omega)
              have hc0 : 0 ≤ l / 16384 % (((cnt (fl M (x + 3 + 6 + 8 * π + 2 + 2 * φ))).length : Int) + 1) := Int.emod_nonneg _ (by omega)
              have hc1 : l / 16384 % (((cnt (fl M (x + 3 + 6 + 8 * π + 2 + 2 * φ))).length : Int) + 1) < ((cnt (fl M (x + 3 + 6 + 8 * π + 2 + 2 * φ))).length : Int) + 1 := Int.emod_lt_of_pos _ (by omega)
              obtain ⟨c, hc⟩ : ∃ c : Nat, l / 16384 % (((cnt (fl M (x + 3 + 6 + 8 * π + 2 + 2 * φ))).length : Int) + 1) = (c : Int) := ⟨(l / 16384 % (((cnt (fl M (x + 3 + 6 + 8 * π + 2 + 2 * φ))).length : Int) + 1)).toNat, by omega⟩
              have c93 : w3 (l / 16384) - w3 (l / 16384) / w3 (((cnt (fl M (x + 3 + 6 + 8 * π + 2 + 2 * φ))).length : Int) + 1) * w3 (((cnt (fl M (x + 3 + 6 + 8 * π + 2 + 2 * φ))).length : Int) + 1) = w3 (c : Int) := by rw [w3_rm (by omega) (by omega) (by omega) (by omega), hc]
              have c94 : w3 (l / 1024) - w3 (l / 1024) / w3 10 * w3 10 = w3 (l / 1024 % 10) := w3_rm (by omega) (by omega) (by omega) (by omega)
              rw [hc, show ((c : Int)).toNat = c by omega] at hS
              refine cm_go hX6_doByLot 300 oX6_doByLot (eX6_doByLot d hd) lX6_doByLot_0 ?_
              simp only [jX6_doByLot, kX6_doByLot_0, kX6_doByLot_1, fl_6_21, fl_6_130, fl_6_154, fl_6_173, fl_6_107, fl_6_39, hz0, SX0_isFull, SJ9_max_7cf53, SX5_measure, e1w, hn, nf, nz, D64, D4, rp, rf, D16, D10, r4, c64, c4, c3, c10, c16, c1k, hzf, mxw, mz, q4, q8, epi, ixpi, efi, ixfi, rv, u1, u2, u3, u4, g1, g2, g3, k0, r0, r1, r2, r3, r4, r5, r6, r7, r8, r13, k1, k2, k137, k305, l1, l2, l137, l305, K0, R1, R2, R3, R4, R5, KK1, K2, K3, K4, K5, L1, L2, L3, L4, L5, w3_00, w3_10, c91, c92, c93, c94, cn_iconst, cn_lconst0, cn_lconst1, cn_null, cn_iload, cn_aload, cn_lload, cn_lo1, cn_loa1, cn_loa2, cn_lol1, cn_get0, cn_gets, cn_put0, cn_puts, cn_istore, cn_astore, cn_astoreN, cn_lstore, cn_iinc, cn_in1, cn_iadd, cn_isub, cn_imul, cn_iand, cn_ior, cn_ixor, cn_ishl, cn_ishr, cn_iushr, cn_idiv, cn_irem, cn_ladd, cn_lmul, cn_ldiv, cn_lrem, cn_i2l, cn_l2i, cn_i2b, cn_lcmp, cn_dupi, cn_dupr, cn_dup2, cn_popi, cn_popr, cn_goto, cn_if_eq, cn_if_ne, cn_if_lt, cn_if_ge, cn_if_gt, cn_if_le, cn_ic_eq, cn_ic_ne, cn_ic_lt, cn_ic_ge, cn_ic_gt, cn_ic_le, cn_ifnullN, cn_ifnullR, cn_ifnonnullN, cn_ifnonnullR, cn_tswS, cn_tsw0, cn_tsw1, cn_lswS, cn_lsw0, cn_lsw1, cn_alen, cn_iaload, cn_laload, cn_rr1, cn_rr0, cn_aaload, cn_iastore, cn_lastore, cn_aastore, cn_getfield, cn_gf0, cn_gf1, cn_gf2, cn_gf3, cn_putfield, cn_pf0f, cn_pf1f, cn_pf2f, cn_pf3f, cn_pf0t, cn_pf1t, cn_pf2t, cn_pf3t, cn_new, cn_nw1, cn_newi, cn_newl, cn_anew, cn_an1, cn_inv_v, cn_inv_s, cn_inv_p, cn_ca1, cn_cb1, cn_pop0, cn_pops, cn_rk0, cn_rk1, cn_kcn, cn_kcs, cn_ireturn, cn_lreturn, cn_areturn, cn_return, cn_re0, cn_re1, cn_re2, cn_re3, cn_re4, cn_re5, cn_wp0, cn_wps, cn_m0, cn_m1, cn_e0, cn_en, cn_ei, cn_er, cn_eu, cn_el, cn_nl0, cn_nls, cn_nb0, cn_nb1, cn_nb2, cn_nb3, cn_bd0, cn_bds, cn_cwi, cn_cwr, cn_cwl, cn_cwn, cn_wi2, cn_wl1, cn_wl3, cn_wr1, cn_wr2, cn_wi_eq, cn_wl_eq, cb_0, cb_n0, cb_b, cm_okb0, cm_okb1, Classical.not_not, true_and, and_true, Nat.reduceAdd, Nat.reduceSub, Nat.reduceLT, Nat.reduceLeDiff, Int.reduceToNat, Int.reduceNatCast', Nat.zero_le, Nat.reduceEqDiff, false_or, or_false, or_true, true_or, Int.reduceNeg, reduceCtorEq, false_implies, implies_true, forall_const, true_implies, not_true_eq_false, not_false_eq_true, Nat.le_refl, ne_eq, if_true, if_false, ite_true, ite_false, List.cons_append, List.nil_append]
              refine ⟨hB, by rw [epi]; exact ⟨by omega, by omega⟩, by omega, fun M1 F1 G1 b1 => ?_⟩
              have e1 := F1.2
              have h16 : (bkv M (x + 3)).1 < 16 := by omega
              have en : (w3 ((bkv M (x + 3)).1 : Int)).toInt = ((bkv M (x + 3)).1 : Int) := w3_toInt (by omega) (by omega)
              have ixn : cm_ix (w3 ((bkv M (x + 3)).1 : Int)) 16 := by rw [w3_ix (by omega) (by omega)]; exact ⟨by omega, by omega⟩
              have rn := RV (bkv M (x + 3)).1 h16
              have tN := HT (bkv M (x + 3)).1 h16
              obtain ⟨y1, y2, y3, y4, y5, y6⟩ := tr_f tN hφ
              have w1 := tN.1.1
              have w2 := tN.1.2.1
              have wz3 := tN.1.2.2.1
              have w4 := tN.1.2.2.2.1
              have tN1 := G1.2.2.1 (bkv M (x + 3)).1 h16
              obtain ⟨z1, z2, z3, z4, z5, z6⟩ := tr_f tN1 hφ
              simp only [jX6_doByLot, kX6_doByLot_0, kX6_doByLot_1, fl_6_21, fl_6_130, fl_6_154, fl_6_173, fl_6_107, fl_6_39, e1, efi, ixfi, en, ixn, rn, w1, w2, wz3, w4, y1, y2, D16, D10, c10, c16, c1k, c91, c92, c93, c94, k0, r0, r1, r2, r3, r4, r5, r6, r7, r8, r13, k1, k2, k137, k305, l1, l2, l137, l305, K0, R1, R2, R3, R4, R5, KK1, K2, K3, K4, K5, L1, L2, L3, L4, L5, w3_00, w3_10, cn_iconst, cn_lconst0, cn_lconst1, cn_null, cn_iload, cn_aload, cn_lload, cn_lo1, cn_loa1, cn_loa2, cn_lol1, cn_get0, cn_gets, cn_put0, cn_puts, cn_istore, cn_astore, cn_astoreN, cn_lstore, cn_iinc, cn_in1, cn_iadd, cn_isub, cn_imul, cn_iand, cn_ior, cn_ixor, cn_ishl, cn_ishr, cn_iushr, cn_idiv, cn_irem, cn_ladd, cn_lmul, cn_ldiv, cn_lrem, cn_i2l, cn_l2i, cn_i2b, cn_lcmp, cn_dupi, cn_dupr, cn_dup2, cn_popi, cn_popr, cn_goto, cn_if_eq, cn_if_ne, cn_if_lt, cn_if_ge, cn_if_gt, cn_if_le, cn_ic_eq, cn_ic_ne, cn_ic_lt, cn_ic_ge, cn_ic_gt, cn_ic_le, cn_ifnullN, cn_ifnullR, cn_ifnonnullN, cn_ifnonnullR, cn_tswS, cn_tsw0, cn_tsw1, cn_lswS, cn_lsw0, cn_lsw1, cn_alen, cn_iaload, cn_laload, cn_rr1, cn_rr0, cn_aaload, cn_iastore, cn_lastore, cn_aastore, cn_getfield, cn_gf0, cn_gf1, cn_gf2, cn_gf3, cn_putfield, cn_pf0f, cn_pf1f, cn_pf2f, cn_pf3f, cn_pf0t, cn_pf1t, cn_pf2t, cn_pf3t, cn_new, cn_nw1, cn_newi, cn_newl, cn_anew, cn_an1, cn_inv_v, cn_inv_s, cn_inv_p, cn_ca1, cn_cb1, cn_pop0, cn_pops, cn_rk0, cn_rk1, cn_kcn, cn_kcs, cn_ireturn, cn_lreturn, cn_areturn, cn_return, cn_re0, cn_re1, cn_re2, cn_re3, cn_re4, cn_re5, cn_wp0, cn_wps, cn_m0, cn_m1, cn_e0, cn_en, cn_ei, cn_er, cn_eu, cn_el, cn_nl0, cn_nls, cn_nb0, cn_nb1, cn_nb2, cn_nb3, cn_bd0, cn_bds, cn_cwi, cn_cwr, cn_cwl, cn_cwn, cn_wi2, cn_wl1, cn_wl3, cn_wr1, cn_wr2, cn_wi_eq, cn_wl_eq, cb_0, cb_n0, cb_b, cm_okb0, cm_okb1, Classical.not_not, true_and, and_true, Nat.reduceAdd, Nat.reduceSub, Nat.reduceLT, Nat.reduceLeDiff, Int.reduceToNat, Int.reduceNatCast', Nat.zero_le, Nat.reduceEqDiff, false_or, or_false, or_true, true_or, Int.reduceNeg, reduceCtorEq, false_implies, implies_true, forall_const, true_implies, not_true_eq_false, not_false_eq_true, Nat.le_refl, ne_eq, if_true, if_false, ite_true, ite_false, List.cons_append, List.nil_append]
              rw [epi, show ((π : Int)).toNat = π by omega] at b1
              have n1 : π < (bkv M1 (x + 3)).1 := by rw [b1]; show π < (bkv M (x + 3)).1 + 1; omega
              have tr1 : trv M1 (x + 3 + 6 + 8 * π) = ((bkv M (x + 3)).2 π).1 := by
                have h0 := bkv_lt n1
                have h1 : (bkv M1 (x + 3)).2 π = (bkv M (x + 3)).2 π := by rw [b1]; exact if_neg (by omega)
                rw [h1] at h0
                rw [h0]
              have tA := G1.2.2.1 π (by omega)
              obtain ⟨a1, a2, a3, a4, a5, a6⟩ := tr_f tA hφ
              have fA : fl M1 (x + 3 + 6 + 8 * π + 2 + 2 * φ) = fl M (x + 3 + 6 + 8 * π + 2 + 2 * φ) := by rw [← pk_tr hφ, tr1, hpk]
              have mx1 := mxs a3
              rw [fA] at mx1
              refine ⟨((cnt (fl M (x + 3 + 6 + 8 * π + 2 + 2 * φ))).length : Int), (c : Int), z3, a3, by rw [z4, a4]; omega, ne_off (by omega), mx1.symm, by rw [z4, z6]; omega, rfl, by omega, by omega, ?_⟩
              simp only [jX6_doByLot, kX6_doByLot_0, kX6_doByLot_1, fl_6_21, fl_6_130, fl_6_154, fl_6_173, fl_6_107, fl_6_39, k0, r0, r1, r2, r3, r4, r5, r6, r7, r8, r13, k1, k2, k137, k305, l1, l2, l137, l305, K0, R1, R2, R3, R4, R5, KK1, K2, K3, K4, K5, L1, L2, L3, L4, L5, w3_00, w3_10, cn_iconst, cn_lconst0, cn_lconst1, cn_null, cn_iload, cn_aload, cn_lload, cn_lo1, cn_loa1, cn_loa2, cn_lol1, cn_get0, cn_gets, cn_put0, cn_puts, cn_istore, cn_astore, cn_astoreN, cn_lstore, cn_iinc, cn_in1, cn_iadd, cn_isub, cn_imul, cn_iand, cn_ior, cn_ixor, cn_ishl, cn_ishr, cn_iushr, cn_idiv, cn_irem, cn_ladd, cn_lmul, cn_ldiv, cn_lrem, cn_i2l, cn_l2i, cn_i2b, cn_lcmp, cn_dupi, cn_dupr, cn_dup2, cn_popi, cn_popr, cn_goto, cn_if_eq, cn_if_ne, cn_if_lt, cn_if_ge, cn_if_gt, cn_if_le, cn_ic_eq, cn_ic_ne, cn_ic_lt, cn_ic_ge, cn_ic_gt, cn_ic_le, cn_ifnullN, cn_ifnullR, cn_ifnonnullN, cn_ifnonnullR, cn_tswS, cn_tsw0, cn_tsw1, cn_lswS, cn_lsw0, cn_lsw1, cn_alen, cn_iaload, cn_laload, cn_rr1, cn_rr0, cn_aaload, cn_iastore, cn_lastore, cn_aastore, cn_getfield, cn_gf0, cn_gf1, cn_gf2, cn_gf3, cn_putfield, cn_pf0f, cn_pf1f, cn_pf2f, cn_pf3f, cn_pf0t, cn_pf1t, cn_pf2t, cn_pf3t, cn_new, cn_nw1, cn_newi, cn_newl, cn_anew, cn_an1, cn_inv_v, cn_inv_s, cn_inv_p, cn_ca1, cn_cb1, cn_pop0, cn_pops, cn_rk0, cn_rk1, cn_kcn, cn_kcs, cn_ireturn, cn_lreturn, cn_areturn, cn_return, cn_re0, cn_re1, cn_re2, cn_re3, cn_re4, cn_re5, cn_wp0, cn_wps, cn_m0, cn_m1, cn_e0, cn_en, cn_ei, cn_er, cn_eu, cn_el, cn_nl0, cn_nls, cn_nb0, cn_nb1, cn_nb2, cn_nb3, cn_bd0, cn_bds, cn_cwi, cn_cwr, cn_cwl, cn_cwn, cn_wi2, cn_wl1, cn_wl3, cn_wr1, cn_wr2, cn_wi_eq, cn_wl_eq, cb_0, cb_n0, cb_b, cm_okb0, cm_okb1, Classical.not_not, true_and, and_true, Nat.reduceAdd, Nat.reduceSub, Nat.reduceLT, Nat.reduceLeDiff, Int.reduceToNat, Int.reduceNatCast', Nat.zero_le, Nat.reduceEqDiff, false_or, or_false, or_true, true_or, Int.reduceNeg, reduceCtorEq, false_implies, implies_true, forall_const, true_implies, not_true_eq_false, not_false_eq_true, Nat.le_refl, ne_eq, if_true, if_false, ite_true, ite_false, List.cons_append, List.nil_append]
              have hfl : fl (mRow M1 (x + 3 + 6 + 8 * (bkv M (x + 3)).1 + 2 + 2 * φ) (((cnt (fl M (x + 3 + 6 + 8 * π + 2 + 2 * φ))).length : Int) + 1) (fun j => if j < (c : Int) then M1.1 (pl M1 (x + 3 + 6 + 8 * π + 2 + 2 * φ)) j else if j = (c : Int) then w3 (l / 1024 % 10) else M1.1 (pl M1 (x + 3 + 6 + 8 * π + 2 + 2 * φ)) (j - 1))) (x + 3 + 6 + 8 * (bkv M (x + 3)).1 + 2 + 2 * φ) = some (insL (cnt (fl M (x + 3 + 6 + 8 * π + 2 + 2 * φ))) c (w3 (l / 1024 % 10))) := by
                rw [fl_row (by omega) (by omega) (by omega)]
                have rdj : ∀ j : Nat, j < (cnt (fl M (x + 3 + 6 + 8 * π + 2 + 2 * φ))).length → M1.1 (pl M1 (x + 3 + 6 + 8 * π + 2 + 2 * φ)) (j : Int) = gt (cnt (fl M (x + 3 + 6 + 8 * π + 2 + 2 * φ))) j := by
                  intro j hj
                  cases eK : fl M (x + 3 + 6 + 8 * π + 2 + 2 * φ) with
                  | none => rw [eK] at hj; exact absurd hj (Nat.not_lt_zero _)
                  | some K =>
                    rw [eK] at hj
                    exact (Sg_len a3 (fA.trans eK)).2.2 j hj
                refine flm_mk (by rw [insL_len (by omega)]; omega) (fun k hk => ?_)
                rw [insL_len (by omega)] at hk
                rw [insL_at (by omega), Int.zero_add]
                by_cases k1 : k < c
                · rw [if_pos k1, if_pos (by omega), rdj k (by omega)]
                · by_cases k2 : k = c
                  · rw [if_neg k1, if_pos k2, if_neg (by omega), if_pos (by omega)]
                  · rw [if_neg k1, if_neg k2, if_neg (by omega), if_neg (by omega), show (k : Int) - 1 = ((k - 1 : Nat) : Int) by omega, rdj (k - 1) (by omega)]
              have hsz : sz (mRow M1 (x + 3 + 6 + 8 * (bkv M (x + 3)).1 + 2 + 2 * φ) (((cnt (fl M (x + 3 + 6 + 8 * π + 2 + 2 * φ))).length : Int) + 1) (fun j => if j < (c : Int) then M1.1 (pl M1 (x + 3 + 6 + 8 * π + 2 + 2 * φ)) j else if j = (c : Int) then w3 (l / 1024 % 10) else M1.1 (pl M1 (x + 3 + 6 + 8 * π + 2 + 2 * φ)) (j - 1))) (x + 3 + 6 + 8 * (bkv M (x + 3)).1 + 2 + 2 * φ) = ((cnt (fl M (x + 3 + 6 + 8 * π + 2 + 2 * φ))).length : Int) + 1 := mRow_sz (by omega) (by omega)
              have hdv : dstep (w3 (l / 1024 % 10)) = 0 := dstep_small (by rw [w3_toInt (by omega) (by omega)]; omega)
              have F : Fr M1 (mRow M1 (x + 3 + 6 + 8 * (bkv M (x + 3)).1 + 2 + 2 * φ) (((cnt (fl M (x + 3 + 6 + 8 * π + 2 + 2 * φ))).length : Int) + 1) (fun j => if j < (c : Int) then M1.1 (pl M1 (x + 3 + 6 + 8 * π + 2 + 2 * φ)) j else if j = (c : Int) then w3 (l / 1024 % 10) else M1.1 (pl M1 (x + 3 + 6 + 8 * π + 2 + 2 * φ)) (j - 1))) (x + 3 + 6 + 8 * (bkv M (x + 3)).1 + 2 + 2 * φ) 2 := Fr.row (by omega) (by omega) (by omega) (by omega)
              obtain ⟨c1, c2, c3⟩ := cs_child hC F1 G1 b1 h16 hφ F ⟨by rw [hsz]; omega, by rw [hsz]; omega⟩ (by rw [hfl]; exact insL_bal hbA (by omega) hdv)
              rw [hfl] at c2
              exact hS _ c3 c1 c2
            · have q8 : (w3 8 ≤ w3 ((cnt (fl M (x + 3 + 6 + 8 * π + 2 + 2 * φ))).length : Int)) = True := eq_true (by rw [w3_le (by omega) (by omega) (by omega) (by omega)]; omega)
              rw [if_neg (fun w => h8 w.2.2)] at hS
              refine cm_go hX6_doByLot 300 oX6_doByLot (eX6_doByLot d hd) lX6_doByLot_0 ?_
              simp only [jX6_doByLot, kX6_doByLot_0, kX6_doByLot_1, fl_6_21, fl_6_130, fl_6_154, fl_6_173, fl_6_107, fl_6_39, hz0, SX0_isFull, SJ9_max_7cf53, SX5_measure, e1w, hn, nf, nz, D64, D4, rp, rf, D16, D10, r4, c64, c4, c3, c10, c16, c1k, hzf, mxw, mz, q4, q8, epi, ixpi, efi, ixfi, rv, u1, u2, u3, u4, g1, g2, g3, k0, r0, r1, r2, r3, r4, r5, r6, r7, r8, r13, k1, k2, k137, k305, l1, l2, l137, l305, K0, R1, R2, R3, R4, R5, KK1, K2, K3, K4, K5, L1, L2, L3, L4, L5, w3_00, w3_10, D40, ro, c40, cn_iconst, cn_lconst0, cn_lconst1, cn_null, cn_iload, cn_aload, cn_lload, cn_lo1, cn_loa1, cn_loa2, cn_lol1, cn_get0, cn_gets, cn_put0, cn_puts, cn_istore, cn_astore, cn_astoreN, cn_lstore, cn_iinc, cn_in1, cn_iadd, cn_isub, cn_imul, cn_iand, cn_ior, cn_ixor, cn_ishl, cn_ishr, cn_iushr, cn_idiv, cn_irem, cn_ladd, cn_lmul, cn_ldiv, cn_lrem, cn_i2l, cn_l2i, cn_i2b, cn_lcmp, cn_dupi, cn_dupr, cn_dup2, cn_popi, cn_popr, cn_goto, cn_if_eq, cn_if_ne, cn_if_lt, cn_if_ge, cn_if_gt, cn_if_le, cn_ic_eq, cn_ic_ne, cn_ic_lt, cn_ic_ge, cn_ic_gt, cn_ic_le, cn_ifnullN, cn_ifnullR, cn_ifnonnullN, cn_ifnonnullR, cn_tswS, cn_tsw0, cn_tsw1, cn_lswS, cn_lsw0, cn_lsw1, cn_alen, cn_iaload, cn_laload, cn_rr1, cn_rr0, cn_aaload, cn_iastore, cn_lastore, cn_aastore, cn_getfield, cn_gf0, cn_gf1, cn_gf2, cn_gf3, cn_putfield, cn_pf0f, cn_pf1f, cn_pf2f, cn_pf3f, cn_pf0t, cn_pf1t, cn_pf2t, cn_pf3t, cn_new, cn_nw1, cn_newi, cn_newl, cn_anew, cn_an1, cn_inv_v, cn_inv_s, cn_inv_p, cn_ca1, cn_cb1, cn_pop0, cn_pops, cn_rk0, cn_rk1, cn_kcn, cn_kcs, cn_ireturn, cn_lreturn, cn_areturn, cn_return, cn_re0, cn_re1, cn_re2, cn_re3, cn_re4, cn_re5, cn_wp0, cn_wps, cn_m0, cn_m1, cn_e0, cn_en, cn_ei, cn_er, cn_eu, cn_el, cn_nl0, cn_nls, cn_nb0, cn_nb1, cn_nb2, cn_nb3, cn_bd0, cn_bds, cn_cwi, cn_cwr, cn_cwl, cn_cwn, cn_wi2, cn_wl1, cn_wl3, cn_wr1, cn_wr2, cn_wi_eq, cn_wl_eq, cb_0, cb_n0, cb_b, cm_okb0, cm_okb1, Classical.not_not, true_and, and_true, Nat.reduceAdd, Nat.reduceSub, Nat.reduceLT, Nat.reduceLeDiff, Int.reduceToNat, Int.reduceNatCast', Nat.zero_le, Nat.reduceEqDiff, false_or, or_false, or_true, true_or, Int.reduceNeg, reduceCtorEq, false_implies, implies_true, forall_const, true_implies, not_true_eq_false, not_false_eq_true, Nat.le_refl, ne_eq, if_true, if_false, ite_true, ite_false, List.cons_append, List.nil_append]
              refine ⟨L, false, hC, rfl, Or.inl rfl, fun M1 f1 c1 s1 o1 x1 => ?_⟩
              rw [epi, eom] at x1 ⊢
              obtain ⟨k0', ⟨r0', r1', r2', r3', r4', r5', r6', r7', r8', r13'⟩, -⟩ := id c1.2.1
              have eb1 : bkv M1 (x + 3) = bkv M (x + 3) := congrArg (fun s : St => s.2.2.1) s1
              rcases mgA_c (B := bkv M (x + 3)) (tn := false) (a := (π : Int)) (b := l / 4096 % ((bkv M (x + 3)).1 : Int)) with ⟨X, e, hP, -, -⟩ | ⟨r, e, hr'⟩
              · rw [e] at x1 hS ⊢
                obtain ⟨x2, x3⟩ := x1 X rfl
                obtain ⟨⟨pa1, pa2⟩, ⟨pb1, pb2⟩, -⟩ := hP
                simp only [jX6_doByLot, kX6_doByLot_0, kX6_doByLot_1, fl_6_21, fl_6_130, fl_6_154, fl_6_173, fl_6_107, fl_6_39, w3_00, K0, k0, r2', r5', cn_iconst, cn_lconst0, cn_lconst1, cn_null, cn_iload, cn_aload, cn_lload, cn_lo1, cn_loa1, cn_loa2, cn_lol1, cn_get0, cn_gets, cn_put0, cn_puts, cn_istore, cn_astore, cn_astoreN, cn_lstore, cn_iinc, cn_in1, cn_iadd, cn_isub, cn_imul, cn_iand, cn_ior, cn_ixor, cn_ishl, cn_ishr, cn_iushr, cn_idiv, cn_irem, cn_ladd, cn_lmul, cn_ldiv, cn_lrem, cn_i2l, cn_l2i, cn_i2b, cn_lcmp, cn_dupi, cn_dupr, cn_dup2, cn_popi, cn_popr, cn_goto, cn_if_eq, cn_if_ne, cn_if_lt, cn_if_ge, cn_if_gt, cn_if_le, cn_ic_eq, cn_ic_ne, cn_ic_lt, cn_ic_ge, cn_ic_gt, cn_ic_le, cn_ifnullN, cn_ifnullR, cn_ifnonnullN, cn_ifnonnullR, cn_tswS, cn_tsw0, cn_tsw1, cn_lswS, cn_lsw0, cn_lsw1, cn_alen, cn_iaload, cn_laload, cn_rr1, cn_rr0, cn_aaload, cn_iastore, cn_lastore, cn_aastore, cn_getfield, cn_gf0, cn_gf1, cn_gf2, cn_gf3, cn_putfield, cn_pf0f, cn_pf1f, cn_pf2f, cn_pf3f, cn_pf0t, cn_pf1t, cn_pf2t, cn_pf3t, cn_new, cn_nw1, cn_newi, cn_newl, cn_anew, cn_an1, cn_inv_v, cn_inv_s, cn_inv_p, cn_ca1, cn_cb1, cn_pop0, cn_pops, cn_rk0, cn_rk1, cn_kcn, cn_kcs, cn_ireturn, cn_lreturn, cn_areturn, cn_return, cn_re0, cn_re1, cn_re2, cn_re3, cn_re4, cn_re5, cn_wp0, cn_wps, cn_m0, cn_m1, cn_e0, cn_en, cn_ei, cn_er, cn_eu, cn_el, cn_nl0, cn_nls, cn_nb0, cn_nb1, cn_nb2, cn_nb3, cn_bd0, cn_bds, cn_cwi, cn_cwr, cn_cwl, cn_cwn, cn_wi2, cn_wl1, cn_wl3, cn_wr1, cn_wr2, cn_wi_eq, cn_wl_eq, cb_0, cb_n0, cb_b, cm_okb0, cm_okb1, Classical.not_not, true_and, and_true, Nat.reduceAdd, Nat.reduceSub, Nat.reduceLT, Nat.reduceLeDiff, Int.reduceToNat, Int.reduceNatCast', Nat.zero_le, Nat.reduceEqDiff, false_or, or_false, or_true, true_or, Int.reduceNeg, reduceCtorEq, false_implies, implies_true, forall_const, true_implies, not_true_eq_false, not_false_eq_true, Nat.le_refl, ne_eq, if_true, if_false, ite_true, ite_false, List.cons_append, List.nil_append]
                refine ⟨c1.2.2.1, fun q => ?_, fun q => ⟨c1.2.2.2.2.1.2.2.1.1, ?_, by rw [x2]; exact x3, ?_, fun M2 F2 G2 b2 => ?_⟩⟩
                · rw [eb1] at q; omega
                · rw [eb1] at q ⊢
                  exact ⟨by omega, by unfold dj; omega⟩
                · rw [eb1, epi, eom]
                  exact ⟨fun z => by omega, fun _ => ⟨by omega, by omega, Or.inr ⟨by omega, by omega⟩⟩⟩
                · rw [eb1] at q b2 ⊢
                  simp only [jX6_doByLot, kX6_doByLot_0, kX6_doByLot_1, fl_6_21, fl_6_130, fl_6_154, fl_6_173, fl_6_107, fl_6_39, K0, cn_iconst, cn_lconst0, cn_lconst1, cn_null, cn_iload, cn_aload, cn_lload, cn_lo1, cn_loa1, cn_loa2, cn_lol1, cn_get0, cn_gets, cn_put0, cn_puts, cn_istore, cn_astore, cn_astoreN, cn_lstore, cn_iinc, cn_in1, cn_iadd, cn_isub, cn_imul, cn_iand, cn_ior, cn_ixor, cn_ishl, cn_ishr, cn_iushr, cn_idiv, cn_irem, cn_ladd, cn_lmul, cn_ldiv, cn_lrem, cn_i2l, cn_l2i, cn_i2b, cn_lcmp, cn_dupi, cn_dupr, cn_dup2, cn_popi, cn_popr, cn_goto, cn_if_eq, cn_if_ne, cn_if_lt, cn_if_ge, cn_if_gt, cn_if_le, cn_ic_eq, cn_ic_ne, cn_ic_lt, cn_ic_ge, cn_ic_gt, cn_ic_le, cn_ifnullN, cn_ifnullR, cn_ifnonnullN, cn_ifnonnullR, cn_tswS, cn_tsw0, cn_tsw1, cn_lswS, cn_lsw0, cn_lsw1, cn_alen, cn_iaload, cn_laload, cn_rr1, cn_rr0, cn_aaload, cn_iastore, cn_lastore, cn_aastore, cn_getfield, cn_gf0, cn_gf1, cn_gf2, cn_gf3, cn_putfield, cn_pf0f, cn_pf1f, cn_pf2f, cn_pf3f, cn_pf0t, cn_pf1t, cn_pf2t, cn_pf3t, cn_new, cn_nw1, cn_newi, cn_newl, cn_anew, cn_an1, cn_inv_v, cn_inv_s, cn_inv_p, cn_ca1, cn_cb1, cn_pop0, cn_pops, cn_rk0, cn_rk1, cn_kcn, cn_kcs, cn_ireturn, cn_lreturn, cn_areturn, cn_return, cn_re0, cn_re1, cn_re2, cn_re3, cn_re4, cn_re5, cn_wp0, cn_wps, cn_m0, cn_m1, cn_e0, cn_en, cn_ei, cn_er, cn_eu, cn_el, cn_nl0, cn_nls, cn_nb0, cn_nb1, cn_nb2, cn_nb3, cn_bd0, cn_bds, cn_cwi, cn_cwr, cn_cwl, cn_cwn, cn_wi2, cn_wl1, cn_wl3, cn_wr1, cn_wr2, cn_wi_eq, cn_wl_eq, cb_0, cb_n0, cb_b, cm_okb0, cm_okb1, Classical.not_not, true_and, and_true, Nat.reduceAdd, Nat.reduceSub, Nat.reduceLT, Nat.reduceLeDiff, Int.reduceToNat, Int.reduceNatCast', Nat.zero_le, Nat.reduceEqDiff, false_or, or_false, or_true, true_or, Int.reduceNeg, reduceCtorEq, false_implies, implies_true, forall_const, true_implies, not_true_eq_false, not_false_eq_true, Nat.le_refl, ne_eq, if_true, if_false, ite_true, ite_false, List.cons_append, List.nil_append]
                  obtain ⟨d1, d2, d3⟩ := cs_book c1 F2 G2
                  refine hS M2 (f1.trans d3) d1 ?_
                  rw [d2, s1, b2, x2, epi, eom]
              · rw [e] at x1 hS ⊢
                simp only [jX6_doByLot, kX6_doByLot_0, kX6_doByLot_1, fl_6_21, fl_6_130, fl_6_154, fl_6_173, fl_6_107, fl_6_39, hr', k0, r2', r5', cn_iconst, cn_lconst0, cn_lconst1, cn_null, cn_iload, cn_aload, cn_lload, cn_lo1, cn_loa1, cn_loa2, cn_lol1, cn_get0, cn_gets, cn_put0, cn_puts, cn_istore, cn_astore, cn_astoreN, cn_lstore, cn_iinc, cn_in1, cn_iadd, cn_isub, cn_imul, cn_iand, cn_ior, cn_ixor, cn_ishl, cn_ishr, cn_iushr, cn_idiv, cn_irem, cn_ladd, cn_lmul, cn_ldiv, cn_lrem, cn_i2l, cn_l2i, cn_i2b, cn_lcmp, cn_dupi, cn_dupr, cn_dup2, cn_popi, cn_popr, cn_goto, cn_if_eq, cn_if_ne, cn_if_lt, cn_if_ge, cn_if_gt, cn_if_le, cn_ic_eq, cn_ic_ne, cn_ic_lt, cn_ic_ge, cn_ic_gt, cn_ic_le, cn_ifnullN, cn_ifnullR, cn_ifnonnullN, cn_ifnonnullR, cn_tswS, cn_tsw0, cn_tsw1, cn_lswS, cn_lsw0, cn_lsw1, cn_alen, cn_iaload, cn_laload, cn_rr1, cn_rr0, cn_aaload, cn_iastore, cn_lastore, cn_aastore, cn_getfield, cn_gf0, cn_gf1, cn_gf2, cn_gf3, cn_putfield, cn_pf0f, cn_pf1f, cn_pf2f, cn_pf3f, cn_pf0t, cn_pf1t, cn_pf2t, cn_pf3t, cn_new, cn_nw1, cn_newi, cn_newl, cn_anew, cn_an1, cn_inv_v, cn_inv_s, cn_inv_p, cn_ca1, cn_cb1, cn_pop0, cn_pops, cn_rk0, cn_rk1, cn_kcn, cn_kcs, cn_ireturn, cn_lreturn, cn_areturn, cn_return, cn_re0, cn_re1, cn_re2, cn_re3, cn_re4, cn_re5, cn_wp0, cn_wps, cn_m0, cn_m1, cn_e0, cn_en, cn_ei, cn_er, cn_eu, cn_el, cn_nl0, cn_nls, cn_nb0, cn_nb1, cn_nb2, cn_nb3, cn_bd0, cn_bds, cn_cwi, cn_cwr, cn_cwl, cn_cwn, cn_wi2, cn_wl1, cn_wl3, cn_wr1, cn_wr2, cn_wi_eq, cn_wl_eq, cb_0, cb_n0, cb_b, cm_okb0, cm_okb1, Classical.not_not, true_and, and_true, Nat.reduceAdd, Nat.reduceSub, Nat.reduceLT, Nat.reduceLeDiff, Int.reduceToNat, Int.reduceNatCast', Nat.zero_le, Nat.reduceEqDiff, false_or, or_false, or_true, true_or, Int.reduceNeg, reduceCtorEq, false_implies, implies_true, forall_const, true_implies, not_true_eq_false, not_false_eq_true, Nat.le_refl, ne_eq, if_true, if_false, ite_true, ite_false, List.cons_append, List.nil_append]
                exact hS M1 f1 c1 s1
          · have mz : (w3 (meas (fl M (x + 3 + 6 + 8 * π + 2 + 2 * φ)) 1) = 0) = False := eq_false (by rw [w3_z, w3_eq (by omega) (by omega) (by omega) (by omega)]; exact hm)
            rw [if_neg (fun w => hm w.2.1)] at hS
            have q8 : (0 : Int) = 0 := rfl
            refine cm_go hX6_doByLot 300 oX6_doByLot (eX6_doByLot d hd) lX6_doByLot_0 ?_
            simp only [jX6_doByLot, kX6_doByLot_0, kX6_doByLot_1, fl_6_21, fl_6_130, fl_6_154, fl_6_173, fl_6_107, fl_6_39, hz0, SX0_isFull, SJ9_max_7cf53, SX5_measure, e1w, hn, nf, nz, D64, D4, rp, rf, D16, D10, r4, c64, c4, c3, c10, c16, c1k, hzf, mxw, mz, q4, q8, epi, ixpi, efi, ixfi, rv, u1, u2, u3, u4, g1, g2, g3, k0, r0, r1, r2, r3, r4, r5, r6, r7, r8, r13, k1, k2, k137, k305, l1, l2, l137, l305, K0, R1, R2, R3, R4, R5, KK1, K2, K3, K4, K5, L1, L2, L3, L4, L5, w3_00, w3_10, D40, ro, c40, cn_iconst, cn_lconst0, cn_lconst1, cn_null, cn_iload, cn_aload, cn_lload, cn_lo1, cn_loa1, cn_loa2, cn_lol1, cn_get0, cn_gets, cn_put0, cn_puts, cn_istore, cn_astore, cn_astoreN, cn_lstore, cn_iinc, cn_in1, cn_iadd, cn_isub, cn_imul, cn_iand, cn_ior, cn_ixor, cn_ishl, cn_ishr, cn_iushr, cn_idiv, cn_irem, cn_ladd, cn_lmul, cn_ldiv, cn_lrem, cn_i2l, cn_l2i, cn_i2b, cn_lcmp, cn_dupi, cn_dupr, cn_dup2, cn_popi, cn_popr, cn_goto, cn_if_eq, cn_if_ne, cn_if_lt, cn_if_ge, cn_if_gt, cn_if_le, cn_ic_eq, cn_ic_ne, cn_ic_lt, cn_ic_ge, cn_ic_gt, cn_ic_le, cn_ifnullN, cn_ifnullR, cn_ifnonnullN, cn_ifnonnullR, cn_tswS, cn_tsw0, cn_tsw1, cn_lswS, cn_lsw0, cn_lsw1, cn_alen, cn_iaload, cn_laload, cn_rr1, cn_rr0, cn_aaload, cn_iastore, cn_lastore, cn_aastore, cn_getfield, cn_gf0, cn_gf1, cn_gf2, cn_gf3, cn_putfield, cn_pf0f, cn_pf1f, cn_pf2f, cn_pf3f, cn_pf0t, cn_pf1t, cn_pf2t, cn_pf3t, cn_new, cn_nw1, cn_newi, cn_newl, cn_anew, cn_an1, cn_inv_v, cn_inv_s, cn_inv_p, cn_ca1, cn_cb1, cn_pop0, cn_pops, cn_rk0, cn_rk1, cn_kcn, cn_kcs, cn_ireturn, cn_lreturn, cn_areturn, cn_return, cn_re0, cn_re1, cn_re2, cn_re3, cn_re4, cn_re5, cn_wp0, cn_wps, cn_m0, cn_m1, cn_e0, cn_en, cn_ei, cn_er, cn_eu, cn_el, cn_nl0, cn_nls, cn_nb0, cn_nb1, cn_nb2, cn_nb3, cn_bd0, cn_bds, cn_cwi, cn_cwr, cn_cwl, cn_cwn, cn_wi2, cn_wl1, cn_wl3, cn_wr1, cn_wr2, cn_wi_eq, cn_wl_eq, cb_0, cb_n0, cb_b, cm_okb0, cm_okb1, Classical.not_not, true_and, and_true, Nat.reduceAdd, Nat.reduceSub, Nat.reduceLT, Nat.reduceLeDiff, Int.reduceToNat, Int.reduceNatCast', Nat.zero_le, Nat.reduceEqDiff, false_or, or_false, or_true, true_or, Int.reduceNeg, reduceCtorEq, false_implies, implies_true, forall_const, true_implies, not_true_eq_false, not_false_eq_true, Nat.le_refl, ne_eq, if_true, if_false, ite_true, ite_false, List.cons_append, List.nil_append]
            refine ⟨L, false, hC, rfl, Or.inl rfl, fun M1 f1 c1 s1 o1 x1 => ?_⟩
            rw [epi, eom] at x1 ⊢
            obtain ⟨k0', ⟨r0', r1', r2', r3', r4', r5', r6', r7', r8', r13'⟩, -⟩ := id c1.2.1
            have eb1 : bkv M1 (x + 3) = bkv M (x + 3) := congrArg (fun s : St => s.2.2.1) s1
            rcases mgA_c (B := bkv M (x + 3)) (tn := false) (a := (π : Int)) (b := l / 4096 % ((bkv M (x + 3)).1 : Int)) with ⟨X, e, hP, -, -⟩ | ⟨r, e, hr'⟩
            · rw [e] at x1 hS ⊢
              obtain ⟨x2, x3⟩ := x1 X rfl
              obtain ⟨⟨pa1, pa2⟩, ⟨pb1, pb2⟩, -⟩ := hP
              simp only [jX6_doByLot, kX6_doByLot_0, kX6_doByLot_1, fl_6_21, fl_6_130, fl_6_154, fl_6_173, fl_6_107, fl_6_39, w3_00, K0, k0, r2', r5', cn_iconst, cn_lconst0, cn_lconst1, cn_null, cn_iload, cn_aload, cn_lload, cn_lo1, cn_loa1, cn_loa2, cn_lol1, cn_get0, cn_gets, cn_put0, cn_puts, cn_istore, cn_astore, cn_astoreN, cn_lstore, cn_iinc, cn_in1, cn_iadd, cn_isub, cn_imul, cn_iand, cn_ior, cn_ixor, cn_ishl, cn_ishr, cn_iushr, cn_idiv, cn_irem, cn_ladd, cn_lmul, cn_ldiv, cn_lrem, cn_i2l, cn_l2i, cn_i2b, cn_lcmp, cn_dupi, cn_dupr, cn_dup2, cn_popi, cn_popr, cn_goto, cn_if_eq, cn_if_ne, cn_if_lt, cn_if_ge, cn_if_gt, cn_if_le, cn_ic_eq, cn_ic_ne, cn_ic_lt, cn_ic_ge, cn_ic_gt, cn_ic_le, cn_ifnullN, cn_ifnullR, cn_ifnonnullN, cn_ifnonnullR, cn_tswS, cn_tsw0, cn_tsw1, cn_lswS, cn_lsw0, cn_lsw1, cn_alen, cn_iaload, cn_laload, cn_rr1, cn_rr0, cn_aaload, cn_iastore, cn_lastore, cn_aastore, cn_getfield, cn_gf0, cn_gf1, cn_gf2, cn_gf3, cn_putfield, cn_pf0f, cn_pf1f, cn_pf2f, cn_pf3f, cn_pf0t, cn_pf1t, cn_pf2t, cn_pf3t, cn_new, cn_nw1, cn_newi, cn_newl, cn_anew, cn_an1, cn_inv_v, cn_inv_s, cn_inv_p, cn_ca1, cn_cb1, cn_pop0, cn_pops, cn_rk0, cn_rk1, cn_kcn, cn_kcs, cn_ireturn, cn_lreturn, cn_areturn, cn_return, cn_re0, cn_re1, cn_re2, cn_re3, cn_re4, cn_re5, cn_wp0, cn_wps, cn_m0, cn_m1, cn_e0, cn_en, cn_ei, cn_er, cn_eu, cn_el, cn_nl0, cn_nls, cn_nb0, cn_nb1, cn_nb2, cn_nb3, cn_bd0, cn_bds, cn_cwi, cn_cwr, cn_cwl, cn_cwn, cn_wi2, cn_wl1, cn_wl3, cn_wr1, cn_wr2, cn_wi_eq, cn_wl_eq, cb_0, cb_n0, cb_b, cm_okb0, cm_okb1, Classical.not_not, true_and, and_true, Nat.reduceAdd, Nat.reduceSub, Nat.reduceLT, Nat.reduceLeDiff, Int.reduceToNat, Int.reduceNatCast', Nat.zero_le, Nat.reduceEqDiff, false_or, or_false, or_true, true_or, Int.reduceNeg, reduceCtorEq, false_implies, implies_true, forall_const, true_implies, not_true_eq_false, not_false_eq_true, Nat.le_refl, ne_eq, if_true, if_false, ite_true, ite_false, List.cons_append, List.nil_append]
              refine ⟨c1.2.2.1, fun q => ?_, fun q => ⟨c1.2.2.2.2.1.2.2.1.1, ?_, by rw [x2]; exact x3, ?_, fun M2 F2 G2 b2 => ?_⟩⟩
              · rw [eb1] at q; omega
              · rw [eb1] at q ⊢
                exact ⟨by omega, by unfold dj; omega⟩
              · rw [eb1, epi, eom]
                exact ⟨fun z => by omega, fun _ => ⟨by omega, by omega, Or.inr ⟨by omega, by omega⟩⟩⟩
              · rw [eb1] at q b2 ⊢
                simp only [jX6_doByLot, kX6_doByLot_0, kX6_doByLot_1, fl_6_21, fl_6_130, fl_6_154, fl_6_173, fl_6_107, fl_6_39, K0, cn_iconst, cn_lconst0, cn_lconst1, cn_null, cn_iload, cn_aload, cn_lload, cn_lo1, cn_loa1, cn_loa2, cn_lol1, cn_get0, cn_gets, cn_put0, cn_puts, cn_istore, cn_astore, cn_astoreN, cn_lstore, cn_iinc, cn_in1, cn_iadd, cn_isub, cn_imul, cn_iand, cn_ior, cn_ixor, cn_ishl, cn_ishr, cn_iushr, cn_idiv, cn_irem, cn_ladd, cn_lmul, cn_ldiv, cn_lrem, cn_i2l, cn_l2i, cn_i2b, cn_lcmp, cn_dupi, cn_dupr, cn_dup2, cn_popi, cn_popr, cn_goto, cn_if_eq, cn_if_ne, cn_if_lt, cn_if_ge, cn_if_gt, cn_if_le, cn_ic_eq, cn_ic_ne, cn_ic_lt, cn_ic_ge, cn_ic_gt, cn_ic_le, cn_ifnullN, cn_ifnullR, cn_ifnonnullN, cn_ifnonnullR, cn_tswS, cn_tsw0, cn_tsw1, cn_lswS, cn_lsw0, cn_lsw1, cn_alen, cn_iaload, cn_laload, cn_rr1, cn_rr0, cn_aaload, cn_iastore, cn_lastore, cn_aastore, cn_getfield, cn_gf0, cn_gf1, cn_gf2, cn_gf3, cn_putfield, cn_pf0f, cn_pf1f, cn_pf2f, cn_pf3f, cn_pf0t, cn_pf1t, cn_pf2t, cn_pf3t, cn_new, cn_nw1, cn_newi, cn_newl, cn_anew, cn_an1, cn_inv_v, cn_inv_s, cn_inv_p, cn_ca1, cn_cb1, cn_pop0, cn_pops, cn_rk0, cn_rk1, cn_kcn, cn_kcs, cn_ireturn, cn_lreturn, cn_areturn, cn_return, cn_re0, cn_re1, cn_re2, cn_re3, cn_re4, cn_re5, cn_wp0, cn_wps, cn_m0, cn_m1, cn_e0, cn_en, cn_ei, cn_er, cn_eu, cn_el, cn_nl0, cn_nls, cn_nb0, cn_nb1, cn_nb2, cn_nb3, cn_bd0, cn_bds, cn_cwi, cn_cwr, cn_cwl, cn_cwn, cn_wi2, cn_wl1, cn_wl3, cn_wr1, cn_wr2, cn_wi_eq, cn_wl_eq, cb_0, cb_n0, cb_b, cm_okb0, cm_okb1, Classical.not_not, true_and, and_true, Nat.reduceAdd, Nat.reduceSub, Nat.reduceLT, Nat.reduceLeDiff, Int.reduceToNat, Int.reduceNatCast', Nat.zero_le, Nat.reduceEqDiff, false_or, or_false, or_true, true_or, Int.reduceNeg, reduceCtorEq, false_implies, implies_true, forall_const, true_implies, not_true_eq_false, not_false_eq_true, Nat.le_refl, ne_eq, if_true, if_false, ite_true, ite_false, List.cons_append, List.nil_append]
                obtain ⟨d1, d2, d3⟩ := cs_book c1 F2 G2
                refine hS M2 (f1.trans d3) d1 ?_
                rw [d2, s1, b2, x2, epi, eom]
            · rw [e] at x1 hS ⊢
              simp only [jX6_doByLot, kX6_doByLot_0, kX6_doByLot_1, fl_6_21, fl_6_130, fl_6_154, fl_6_173, fl_6_107, fl_6_39, hr', k0, r2', r5', cn_iconst, cn_lconst0, cn_lconst1, cn_null, cn_iload, cn_aload, cn_lload, cn_lo1, cn_loa1, cn_loa2, cn_lol1, cn_get0, cn_gets, cn_put0, cn_puts, cn_istore, cn_astore, cn_astoreN, cn_lstore, cn_iinc, cn_in1, cn_iadd, cn_isub, cn_imul, cn_iand, cn_ior, cn_ixor, cn_ishl, cn_ishr, cn_iushr, cn_idiv, cn_irem, cn_ladd, cn_lmul, cn_ldiv, cn_lrem, cn_i2l, cn_l2i, cn_i2b, cn_lcmp, cn_dupi, cn_dupr, cn_dup2, cn_popi, cn_popr, cn_goto, cn_if_eq, cn_if_ne, cn_if_lt, cn_if_ge, cn_if_gt, cn_if_le, cn_ic_eq, cn_ic_ne, cn_ic_lt, cn_ic_ge, cn_ic_gt, cn_ic_le, cn_ifnullN, cn_ifnullR, cn_ifnonnullN, cn_ifnonnullR, cn_tswS, cn_tsw0, cn_tsw1, cn_lswS, cn_lsw0, cn_lsw1, cn_alen, cn_iaload, cn_laload, cn_rr1, cn_rr0, cn_aaload, cn_iastore, cn_lastore, cn_aastore, cn_getfield, cn_gf0, cn_gf1, cn_gf2, cn_gf3, cn_putfield, cn_pf0f, cn_pf1f, cn_pf2f, cn_pf3f, cn_pf0t, cn_pf1t, cn_pf2t, cn_pf3t, cn_new, cn_nw1, cn_newi, cn_newl, cn_anew, cn_an1, cn_inv_v, cn_inv_s, cn_inv_p, cn_ca1, cn_cb1, cn_pop0, cn_pops, cn_rk0, cn_rk1, cn_kcn, cn_kcs, cn_ireturn, cn_lreturn, cn_areturn, cn_return, cn_re0, cn_re1, cn_re2, cn_re3, cn_re4, cn_re5, cn_wp0, cn_wps, cn_m0, cn_m1, cn_e0, cn_en, cn_ei, cn_er, cn_eu, cn_el, cn_nl0, cn_nls, cn_nb0, cn_nb1, cn_nb2, cn_nb3, cn_bd0, cn_bds, cn_cwi, cn_cwr, cn_cwl, cn_cwn, cn_wi2, cn_wl1, cn_wl3, cn_wr1, cn_wr2, cn_wi_eq, cn_wl_eq, cb_0, cb_n0, cb_b, cm_okb0, cm_okb1, Classical.not_not, true_and, and_true, Nat.reduceAdd, Nat.reduceSub, Nat.reduceLT, Nat.reduceLeDiff, Int.reduceToNat, Int.reduceNatCast', Nat.zero_le, Nat.reduceEqDiff, false_or, or_false, or_true, true_or, Int.reduceNeg, reduceCtorEq, false_implies, implies_true, forall_const, true_implies, not_true_eq_false, not_false_eq_true, Nat.le_refl, ne_eq, if_true, if_false, ite_true, ite_false, List.cons_append, List.nil_append]
              exact hS M1 f1 c1 s1
def SX6_lots : cm_CT := fun as T M Φ => match as with
  | [.ref x, .int n, .int z] => ∃ L, CMG T M x L ∧ cPo T M x L Φ (fLts (cst M x) n.toInt z.toInt)
  | _ => False
def JX6_lots : cm_J := (6, false, 1, [(233, 2, 7, 0, 0, SX6_doByLot)], [], [])
theorem jX6_lots : JX6_lots.1 = 6 ∧ JX6_lots.2.1 = false ∧ JX6_lots.2.2.1 = 1 ∧ cm_gv JX6_lots 233 = some (2, 7, 0, 0, SX6_doByLot) := ⟨rfl, rfl, rfl, rfl⟩
theorem eX6_lots (d : Nat) (hd : 24 ≤ d) : cm_Cok d JX6_lots := ⟨(List.forall_mem_cons.mpr ⟨q6_233 (mX6_doByLot (d - 1) (by omega)) (by omega), (fun q h => by cases h)⟩), (fun q h => by cases h), (fun q h => by cases h)⟩
set_option maxHeartbeats 4000000 in
theorem lX6_lots (d : Nat) (hd : 24 ≤ d) {T : cm_T} {M : cm_M} {Φ : Option Value → cm_T → cm_M → Prop} {x L n : Nat} {z : Int32} (hn10 : n ≤ 10) (hz0 : 0 ≤ z.toInt) (hz1 : z.toInt < 2147483647) (hS : cPo T M x L Φ (w3 ((lotI (bkv M (x + 3)) z.toInt n).1 : Int), stB (cst M x) (lotI (bkv M (x + 3)) z.toInt n))) :
    ∀ (k : Nat) (M1 : cm_M), k ≤ n → FrC M M1 x L → CMG T M1 x L → cst M1 x = stB (cst M x) (lotI (bkv M (x + 3)) z.toInt k) → cm_Go d cX6_lots 6 0 0 JX6_lots Φ 46 [some (.ref x), some (.int (w3 n)), some (.int z), some (.long (w6 (ltN z.toInt k))), none, some (.int (w3 k))] [] (0, 0) T M1 := by
  intro k
  induction hf : (n - k) using Nat.strongRecOn generalizing k with
  | _ fu ih =>
    intro M1 k1 f1 hC s1
    obtain ⟨k0, ⟨-, -, r2, -⟩, -⟩ := id hC.2.1
    have hB := hC.2.2.1
    have K0 := hB.1.1
    obtain ⟨hn, hn16⟩ := hB.n
    have eb : bkv M1 (x + 3) = lotI (bkv M (x + 3)) z.toInt k := congrArg (fun s : St => s.2.2.1) s1
    have hzz : M1.1 (x + 3) 0 = w3 ((bkv M1 (x + 3)).1 : Int) := i3_of hn
    have bd := ltN_bd hz0 hz1 k
    have bd2 := ltN_bd hz0 hz1 (k + 1)
    have ek : (w3 (k : Int)).toInt = (k : Int) := w3_toInt (by omega) (by omega)
    by_cases hk : k < n
    · have em : w6 (ltN z.toInt k) * w6 48271 = w6 (ltN z.toInt k * 48271) := w6_mul _ _
      have er : w6 (ltN z.toInt k * 48271) - w6 (ltN z.toInt k * 48271) / w6 2147483647 * w6 2147483647 = w6 (ltN z.toInt (k + 1)) := w6_rm (by omega) (by omega) (by omega) (by omega)
      have cz : (w6 2147483647 = 0) = False := eq_false (by decide)
      refine cm_go hX6_lots 200 oX6_lots (eX6_lots d hd) lX6_lots_46 ?_
      simp only [jX6_lots, kX6_lots_0, ll_6_229, fl_6_21, fl_6_130, ll_6_231, em, er, cz, w6_i, w3_add, k0, r2, K0, cn_ldi, cn_ldl, cn_lki1, cn_lkk1, cn_iconst, cn_lconst0, cn_lconst1, cn_null, cn_iload, cn_aload, cn_lload, cn_lo1, cn_loa1, cn_loa2, cn_lol1, cn_get0, cn_gets, cn_put0, cn_puts, cn_istore, cn_astore, cn_astoreN, cn_lstore, cn_iinc, cn_in1, cn_iadd, cn_isub, cn_imul, cn_iand, cn_ior, cn_ixor, cn_ishl, cn_ishr, cn_iushr, cn_idiv, cn_irem, cn_ladd, cn_lmul, cn_ldiv, cn_lrem, cn_i2l, cn_l2i, cn_i2b, cn_lcmp, cn_dupi, cn_dupr, cn_dup2, cn_popi, cn_popr, cn_goto, cn_if_eq, cn_if_ne, cn_if_lt, cn_if_ge, cn_if_gt, cn_if_le, cn_ic_eq, cn_ic_ne, cn_ic_lt, cn_ic_ge, cn_ic_gt, cn_ic_le, cn_ifnullN, cn_ifnullR, cn_ifnonnullN, cn_ifnonnullR, cn_tswS, cn_tsw0, cn_tsw1, cn_lswS, cn_lsw0, cn_lsw1, cn_alen, cn_iaload, cn_laload, cn_rr1, cn_rr0, cn_aaload, cn_iastore, cn_lastore, cn_aastore, cn_getfield, cn_gf0, cn_gf1, cn_gf2, cn_gf3, cn_putfield, cn_pf0f, cn_pf1f, cn_pf2f, cn_pf3f, cn_pf0t, cn_pf1t, cn_pf2t, cn_pf3t, cn_new, cn_nw1, cn_newi, cn_newl, cn_anew, cn_an1, cn_inv_v, cn_inv_s, cn_inv_p, cn_ca1, cn_cb1, cn_pop0, cn_pops, cn_rk0, cn_rk1, cn_kcn, cn_kcs, cn_ireturn, cn_lreturn, cn_areturn, cn_return, cn_re0, cn_re1, cn_re2, cn_re3, cn_re4, cn_re5, cn_wp0, cn_wps, cn_m0, cn_m1, cn_e0, cn_en, cn_ei, cn_er, cn_eu, cn_el, cn_nl0, cn_nls, cn_nb0, cn_nb1, cn_nb2, cn_nb3, cn_bd0, cn_bds, cn_cwi, cn_cwr, cn_cwl, cn_cwn, cn_wi2, cn_wl1, cn_wl3, cn_wr1, cn_wr2, cn_wi_eq, cn_wl_eq, cb_0, cb_n0, cb_b, cm_okb0, cm_okb1, Classical.not_not, true_and, and_true, Nat.reduceAdd, Nat.reduceSub, Nat.reduceLT, Nat.reduceLeDiff, Int.reduceToNat, Int.reduceNatCast', Nat.zero_le, Nat.reduceEqDiff, false_or, or_false, or_true, true_or, Int.reduceNeg, reduceCtorEq, false_implies, implies_true, forall_const, true_implies, not_true_eq_false, not_false_eq_true, Nat.le_refl, ne_eq, if_true, if_false, ite_true, ite_false, List.cons_append, List.nil_append]
      simp (disch := omega) only [w3_le]
      refine ⟨fun q => by omega, fun q => ?_⟩
      refine ⟨L, ltN z.toInt (k + 1), hC, rfl, by omega, by omega, fun M2 f2 c2 s2 => ?_⟩
      simp only [jX6_lots, kX6_lots_0, ll_6_229, fl_6_21, fl_6_130, ll_6_231, w3_add, cn_iconst, cn_lconst0, cn_lconst1, cn_null, cn_iload, cn_aload, cn_lload, cn_lo1, cn_loa1, cn_loa2, cn_lol1, cn_get0, cn_gets, cn_put0, cn_puts, cn_istore, cn_astore, cn_astoreN, cn_lstore, cn_iinc, cn_in1, cn_iadd, cn_isub, cn_imul, cn_iand, cn_ior, cn_ixor, cn_ishl, cn_ishr, cn_iushr, cn_idiv, cn_irem, cn_ladd, cn_lmul, cn_ldiv, cn_lrem, cn_i2l, cn_l2i, cn_i2b, cn_lcmp, cn_dupi, cn_dupr, cn_dup2, cn_popi, cn_popr, cn_goto, cn_if_eq, cn_if_ne, cn_if_lt, cn_if_ge, cn_if_gt, cn_if_le, cn_ic_eq, cn_ic_ne, cn_ic_lt, cn_ic_ge, cn_ic_gt, cn_ic_le, cn_ifnullN, cn_ifnullR, cn_ifnonnullN, cn_ifnonnullR, cn_tswS, cn_tsw0, cn_tsw1, cn_lswS, cn_lsw0, cn_lsw1, cn_alen, cn_iaload, cn_laload, cn_rr1, cn_rr0, cn_aaload, cn_iastore, cn_lastore, cn_aastore, cn_getfield, cn_gf0, cn_gf1, cn_gf2, cn_gf3, cn_putfield, cn_pf0f, cn_pf1f, cn_pf2f, cn_pf3f, cn_pf0t, cn_pf1t, cn_pf2t, cn_pf3t, cn_new, cn_nw1, cn_newi, cn_newl, cn_anew, cn_an1, cn_inv_v, cn_inv_s, cn_inv_p, cn_ca1, cn_cb1, cn_pop0, cn_pops, cn_rk0, cn_rk1, cn_kcn, cn_kcs, cn_ireturn, cn_lreturn, cn_areturn, cn_return, cn_re0, cn_re1, cn_re2, cn_re3, cn_re4, cn_re5, cn_wp0, cn_wps, cn_m0, cn_m1, cn_e0, cn_en, cn_ei, cn_er, cn_eu, cn_el, cn_nl0, cn_nls, cn_nb0, cn_nb1, cn_nb2, cn_nb3, cn_bd0, cn_bds, cn_cwi, cn_cwr, cn_cwl, cn_cwn, cn_wi2, cn_wl1, cn_wl3, cn_wr1, cn_wr2, cn_wi_eq, cn_wl_eq, cb_0, cb_n0, cb_b, cm_okb0, cm_okb1, Classical.not_not, true_and, and_true, Nat.reduceAdd, Nat.reduceSub, Nat.reduceLT, Nat.reduceLeDiff, Int.reduceToNat, Int.reduceNatCast', Nat.zero_le, Nat.reduceEqDiff, false_or, or_false, or_true, true_or, Int.reduceNeg, reduceCtorEq, false_implies, implies_true, forall_const, true_implies, not_true_eq_false, not_false_eq_true, Nat.le_refl, ne_eq, if_true, if_false, ite_true, ite_false, List.cons_append, List.nil_append]
      exact ih (n - (k + 1)) (by omega) (k + 1) rfl M2 (by omega) (f1.trans f2) c2 (by rw [s2, s1, eb]; rfl)
    · have ekn : k = n := by omega
      subst ekn
      refine cm_go hX6_lots 200 oX6_lots (eX6_lots d hd) lX6_lots_46 ?_
      simp only [jX6_lots, kX6_lots_0, ll_6_229, fl_6_21, fl_6_130, ll_6_231, k0, r2, K0, hzz, cn_ldi, cn_ldl, cn_lki1, cn_lkk1, cn_iconst, cn_lconst0, cn_lconst1, cn_null, cn_iload, cn_aload, cn_lload, cn_lo1, cn_loa1, cn_loa2, cn_lol1, cn_get0, cn_gets, cn_put0, cn_puts, cn_istore, cn_astore, cn_astoreN, cn_lstore, cn_iinc, cn_in1, cn_iadd, cn_isub, cn_imul, cn_iand, cn_ior, cn_ixor, cn_ishl, cn_ishr, cn_iushr, cn_idiv, cn_irem, cn_ladd, cn_lmul, cn_ldiv, cn_lrem, cn_i2l, cn_l2i, cn_i2b, cn_lcmp, cn_dupi, cn_dupr, cn_dup2, cn_popi, cn_popr, cn_goto, cn_if_eq, cn_if_ne, cn_if_lt, cn_if_ge, cn_if_gt, cn_if_le, cn_ic_eq, cn_ic_ne, cn_ic_lt, cn_ic_ge, cn_ic_gt, cn_ic_le, cn_ifnullN, cn_ifnullR, cn_ifnonnullN, cn_ifnonnullR, cn_tswS, cn_tsw0, cn_tsw1, cn_lswS, cn_lsw0, cn_lsw1, cn_alen, cn_iaload, cn_laload, cn_rr1, cn_rr0, cn_aaload, cn_iastore, cn_lastore, cn_aastore, cn_getfield, cn_gf0, cn_gf1, cn_gf2, cn_gf3, cn_putfield, cn_pf0f, cn_pf1f, cn_pf2f, cn_pf3f, cn_pf0t, cn_pf1t, cn_pf2t, cn_pf3t, cn_new, cn_nw1, cn_newi, cn_newl, cn_anew, cn_an1, cn_inv_v, cn_inv_s, cn_inv_p, cn_ca1, cn_cb1, cn_pop0, cn_pops, cn_rk0, cn_rk1, cn_kcn, cn_kcs, cn_ireturn, cn_lreturn, cn_areturn, cn_return, cn_re0, cn_re1, cn_re2, cn_re3, cn_re4, cn_re5, cn_wp0, cn_wps, cn_m0, cn_m1, cn_e0, cn_en, cn_ei, cn_er, cn_eu, cn_el, cn_nl0, cn_nls, cn_nb0, cn_nb1, cn_nb2, cn_nb3, cn_bd0, cn_bds, cn_cwi, cn_cwr, cn_cwl, cn_cwn, cn_wi2, cn_wl1, cn_wl3, cn_wr1, cn_wr2, cn_wi_eq, cn_wl_eq, cb_0, cb_n0, cb_b, cm_okb0, cm_okb1, Classical.not_not, true_and, and_true, Nat.reduceAdd, Nat.reduceSub, Nat.reduceLT, Nat.reduceLeDiff, Int.reduceToNat, Int.reduceNatCast', Nat.zero_le, Nat.reduceEqDiff, false_or, or_false, or_true, true_or, Int.reduceNeg, reduceCtorEq, false_implies, implies_true, forall_const, true_implies, not_true_eq_false, not_false_eq_true, Nat.le_refl, ne_eq, if_true, if_false, ite_true, ite_false, List.cons_append, List.nil_append]
      simp (disch := omega) only [w3_le]
      refine ⟨fun _ => ?_, fun q => absurd (Int.le_refl _) q⟩
      rw [eb]
      exact hS M1 f1 hC s1
set_option maxHeartbeats 4000000 in
theorem mX6_lots (d : Nat) (hd : 24 ≤ d) : cm_Met d yX6_lots cX6_lots 6 (some .int) 0 0 SX6_lots := by
  refine cm_meets (J := JX6_lots) (by decide) rfl (fun h => by cases h) trivial ?_
  intro as T M Φ hS
  match as, hS with
  | [.ref x, .int n, .int z], ⟨L, hC, hS⟩ =>
    refine ⟨Nat.le_of_ble_eq_true rfl, ?_⟩
    obtain ⟨k0, ⟨r0, r1, r2, r3, r4, r5, r6, r7, r8, r13⟩, ⟨k1, k2, k137, k305⟩, ⟨l1, l2, l137, l305⟩, hr, ht⟩ := id hC.2.1
    have hB := hC.2.2.1
    obtain ⟨⟨K0, ⟨R1, R2, R3, R4, R5⟩, ⟨KK1, K2, K3, K4, K5⟩, ⟨L1, L2, L3, L4, L5⟩, RV⟩, HZ, HT, HW, HA⟩ := id hB
    obtain ⟨hn, hn16⟩ := hB.n
    have hz0 : M.1 (x + 3) 0 = w3 ((bkv M (x + 3)).1 : Int) := i3_of hn
    have e1 : (w3 1).toInt = 1 := by decide
    have e10 : (w3 10).toInt = 10 := by decide
    have em : (w6 2147483647).toInt = 2147483647 := by decide
    have zlo := w3_lo z
    have zhi := w3_hi z
    have lc : (lg_cmp (w6 z.toInt) (w6 2147483647) < 0) = (z.toInt < 2147483647) := by
      rw [propext (lg_cmp_lt _ _), propext Int64.lt_iff_toInt_lt, em, w6_toInt (by omega) (by omega)]
    have n0 : (w3 ((bkv M (x + 3)).1 : Int) = 0) = ((bkv M (x + 3)).1 = 0) := by rw [w3_z, w3_eq (by omega) (by omega) (by omega) (by omega)]; exact propext ⟨fun h => by omega, fun h => by omega⟩
    unfold fLts at hS
    rw [cst_b] at hS
    refine cm_go hX6_lots 200 oX6_lots (eX6_lots d hd) lX6_lots_0 ?_
    simp only [jX6_lots, kX6_lots_0, ll_6_229, fl_6_21, fl_6_130, ll_6_231, hz0, n0, i3_l, lc, cn_ldi, cn_ldl, cn_lki1, cn_lkk1, k0, r0, r1, r2, r3, r4, r5, r6, r7, r8, r13, k1, k2, k137, k305, l1, l2, l137, l305, K0, R1, R2, R3, R4, R5, KK1, K2, K3, K4, K5, L1, L2, L3, L4, L5, w3_00, w3_10, cn_iconst, cn_lconst0, cn_lconst1, cn_null, cn_iload, cn_aload, cn_lload, cn_lo1, cn_loa1, cn_loa2, cn_lol1, cn_get0, cn_gets, cn_put0, cn_puts, cn_istore, cn_astore, cn_astoreN, cn_lstore, cn_iinc, cn_in1, cn_iadd, cn_isub, cn_imul, cn_iand, cn_ior, cn_ixor, cn_ishl, cn_ishr, cn_iushr, cn_idiv, cn_irem, cn_ladd, cn_lmul, cn_ldiv, cn_lrem, cn_i2l, cn_l2i, cn_i2b, cn_lcmp, cn_dupi, cn_dupr, cn_dup2, cn_popi, cn_popr, cn_goto, cn_if_eq, cn_if_ne, cn_if_lt, cn_if_ge, cn_if_gt, cn_if_le, cn_ic_eq, cn_ic_ne, cn_ic_lt, cn_ic_ge, cn_ic_gt, cn_ic_le, cn_ifnullN, cn_ifnullR, cn_ifnonnullN, cn_ifnonnullR, cn_tswS, cn_tsw0, cn_tsw1, cn_lswS, cn_lsw0, cn_lsw1, cn_alen, cn_iaload, cn_laload, cn_rr1, cn_rr0, cn_aaload, cn_iastore, cn_lastore, cn_aastore, cn_getfield, cn_gf0, cn_gf1, cn_gf2, cn_gf3, cn_putfield, cn_pf0f, cn_pf1f, cn_pf2f, cn_pf3f, cn_pf0t, cn_pf1t, cn_pf2t, cn_pf3t, cn_new, cn_nw1, cn_newi, cn_newl, cn_anew, cn_an1, cn_inv_v, cn_inv_s, cn_inv_p, cn_ca1, cn_cb1, cn_pop0, cn_pops, cn_rk0, cn_rk1, cn_kcn, cn_kcs, cn_ireturn, cn_lreturn, cn_areturn, cn_return, cn_re0, cn_re1, cn_re2, cn_re3, cn_re4, cn_re5, cn_wp0, cn_wps, cn_m0, cn_m1, cn_e0, cn_en, cn_ei, cn_er, cn_eu, cn_el, cn_nl0, cn_nls, cn_nb0, cn_nb1, cn_nb2, cn_nb3, cn_bd0, cn_bds, cn_cwi, cn_cwr, cn_cwl, cn_cwn, cn_wi2, cn_wl1, cn_wl3, cn_wr1, cn_wr2, cn_wi_eq, cn_wl_eq, cb_0, cb_n0, cb_b, cm_okb0, cm_okb1, Classical.not_not, true_and, and_true, Nat.reduceAdd, Nat.reduceSub, Nat.reduceLT, Nat.reduceLeDiff, Int.reduceToNat, Int.reduceNatCast', Nat.zero_le, Nat.reduceEqDiff, false_or, or_false, or_true, true_or, Int.reduceNeg, reduceCtorEq, false_implies, implies_true, forall_const, true_implies, not_true_eq_false, not_false_eq_true, Nat.le_refl, ne_eq, if_true, if_false, ite_true, ite_false, List.cons_append, List.nil_append]
    simp only [i3_lt, i3_le, e1, e10]
    by_cases hq : (1 ≤ n.toInt ∧ n.toInt ≤ 10) ∧ 1 ≤ z.toInt ∧ z.toInt < 2147483647
    · rw [if_pos hq] at hS
      refine ⟨fun q => by omega, fun q => ⟨fun q => by omega, fun _ => ⟨fun q => by omega, fun _ => ⟨fun _ => ⟨fun q2 => ?_, fun q2 => ?_⟩, fun q => by omega⟩⟩⟩⟩
      · rw [if_neg q2] at hS
        have h0 : cst M x = stB (cst M x) (lotI (bkv M (x + 3)) z.toInt 0) := rfl
        have := lX6_lots d hd (n := n.toInt.toNat) (by omega) (by omega) (by omega) hS 0 M (Nat.zero_le _) FrC.rf hC h0
        rw [Int.toNat_of_nonneg (by omega), w3_self] at this
        exact this
      · rw [if_pos q2] at hS
        exact hS.k hC
    · rw [if_neg hq] at hS
      have h1 := hS.k hC
      exact ⟨fun _ => h1, fun q => ⟨fun _ => h1, fun q1 => ⟨fun _ => h1, fun q3 => ⟨fun q4 => absurd ⟨⟨by omega, by omega⟩, by omega, q4⟩ hq, fun _ => h1⟩⟩⟩⟩

def mL (L : List Int32) : Nat → Int
  | 0 => 0
  | k + 1 => mL L k + (if dp L (k + 1) = 0 then 1 else 0)
def mC (L : List Int32) : Nat → Int
  | 0 => 0
  | k + 1 => mC L k + (if gt L k = w3 13 ∧ dp L (k + 1) = 0 then 1 else 0)
def mD (L : List Int32) : Nat → Int
  | 0 => 0
  | k + 1 => if gt L k = w3 10 then max (mD L k) (dp L (k + 1)) else mD L k
def meas (F : Fl) (w : Int) : Int := match F with
  | none => 0
  | some L => if w = 0 then mL L L.length else if w = 1 then mC L L.length else mD L L.length
theorem dp_bd (L : List Int32) : ∀ k : Nat, -(k : Int) ≤ dp L k ∧ dp L k ≤ (k : Int)
  | 0 => by simp [dp]
  | k + 1 => by
    have := dp_bd L k
    simp only [dp, dstep]
    split
    · omega
    · split <;> omega
theorem mL_bd (L : List Int32) : ∀ k : Nat, 0 ≤ mL L k ∧ mL L k ≤ (k : Int)
  | 0 => by simp [mL]
  | k + 1 => by
    have := mL_bd L k
    simp only [mL]
    split <;> omega
theorem mC_bd (L : List Int32) : ∀ k : Nat, 0 ≤ mC L k ∧ mC L k ≤ (k : Int)
  | 0 => by simp [mC]
  | k + 1 => by
    have := mC_bd L k
    simp only [mC]
    split <;> omega
theorem mD_bd (L : List Int32) : ∀ k : Nat, 0 ≤ mD L k ∧ mD L k ≤ (k : Int)
  | 0 => by simp [mD]
  | k + 1 => by
    have := mD_bd L k
    have := dp_bd L (k + 1)
    simp only [mD]
    split <;> omega
theorem w_10_13 : (w3 10 = w3 13) = False := eq_false (by decide)
theorem w_13_10 : (w3 13 = w3 10) = False := eq_false (by decide)
theorem w3_mx {a b : Int} : (if a < b then w3 b else w3 a) = w3 (max a b) := by
  split
  · rw [show max a b = b by omega]
  · rw [show max a b = a by omega]
theorem Sg_len {T : cm_T} {M : cm_M} {a : Nat} (hg : Sg T M a) {L : List Int32} (h : fl M a = some L) : sz M a = (L.length : Int) ∧ L.length ≤ 60 ∧ ∀ k : Nat, k < L.length → M.1 (pl M a) (k : Int) = gt L k := by
  obtain ⟨h1, h2⟩ := flm_some h
  have h3 := hg.2.2.2.2.1
  have h4 := hg.2.2.2.2.2
  refine ⟨h1, by omega, fun k hk => ?_⟩
  rw [← h2 k hk, Int.zero_add]
set_option maxRecDepth 100000 in
theorem kzX5_measure_0 : cm_cd tX5_measure [] 0 = some (.iconst 0, 1) ∧ cm_cd tX5_measure [] 1 = some (.istore 2, 1) ∧ cm_cd tX5_measure [] 2 = some (.iconst 0, 1) ∧ cm_cd tX5_measure [] 3 = some (.istore 3, 1) ∧ cm_cd tX5_measure [] 4 = some (.iconst 0, 1) ∧ cm_cd tX5_measure [] 5 = some (.istore 4, 2) ∧ cm_cd tX5_measure [] 7 = some (.iconst 0, 1) ∧ cm_cd tX5_measure [] 8 = some (.istore 5, 2) ∧ cm_cd tX5_measure [] 10 = some (.iconst 0, 1) ∧ cm_cd tX5_measure [] 11 = some (.istore 6, 2) ∧ cm_cd tX5_measure [] 13 = some (.iload 6, 2) ∧ cm_cd tX5_measure [] 15 = some (.aload 0, 1) ∧ cm_cd tX5_measure [] 16 = some (.getfield 24, 3) ∧ cm_cd tX5_measure [] 19 = some (.if_icmp .ge 94, 3) ∧ cm_cd tX5_measure [] 22 = some (.aload 0, 1) ∧ cm_cd tX5_measure [] 23 = some (.iload 6, 2) ∧ cm_cd tX5_measure [] 25 = some (.invokevirtual 49, 3) ∧ cm_cd tX5_measure [] 28 = some (.istore 7, 2) ∧ cm_cd tX5_measure [] 30 = some (.iload 7, 2) ∧ cm_cd tX5_measure [] 32 = some (.iconst 10, 2) ∧ cm_cd tX5_measure [] 34 = some (.if_icmp .ne 52, 3) ∧ cm_cd tX5_measure [] 37 = some (.iinc 5 1, 3) ∧ cm_cd tX5_measure [] 40 = some (.iload 4, 2) ∧ cm_cd tX5_measure [] 42 = some (.iload 5, 2) ∧ cm_cd tX5_measure [] 44 = some (.invokestatic 43, 3) ∧ cm_cd tX5_measure [] 47 = some (.istore 4, 2) ∧ cm_cd tX5_measure [] 49 = some (.goto 75, 3) ∧ cm_cd tX5_measure [] 52 = some (.iload 7, 2) ∧ cm_cd tX5_measure [] 54 = some (.iconst 13, 2) ∧ cm_cd tX5_measure [] 56 = some (.if_icmp .ne 75, 3) ∧ cm_cd tX5_measure [] 59 = some (.iinc 5 (-1), 3) ∧ cm_cd tX5_measure [] 62 = some (.iload 3, 1) ∧ cm_cd tX5_measure [] 63 = some (.iload 5, 2) ∧ cm_cd tX5_measure [] 65 = some (.ifCond .ne 72, 3) ∧ cm_cd tX5_measure [] 68 = some (.iconst 1, 1) ∧ cm_cd tX5_measure [] 69 = some (.goto 73, 3) ∧ cm_cd tX5_measure [] 72 = some (.iconst 0, 1) ∧ cm_cd tX5_measure [] 73 = some (.iadd, 1) ∧ cm_cd tX5_measure [] 74 = some (.istore 3, 1) ∧ cm_cd tX5_measure [] 75 = some (.iload 2, 1) ∧ cm_cd tX5_measure [] 76 = some (.iload 5, 2) ∧ cm_cd tX5_measure [] 78 = some (.ifCond .ne 85, 3) ∧ cm_cd tX5_measure [] 81 = some (.iconst 1, 1) ∧ cm_cd tX5_measure [] 82 = some (.goto 86, 3) ∧ cm_cd tX5_measure [] 85 = some (.iconst 0, 1) ∧ cm_cd tX5_measure [] 86 = some (.iadd, 1) ∧ cm_cd tX5_measure [] 87 = some (.istore 2, 1) ∧ cm_cd tX5_measure [] 88 = some (.iinc 6 1, 3) ∧ cm_cd tX5_measure [] 91 = some (.goto 13, 3) ∧ cm_cd tX5_measure [] 94 = some (.iload 1, 1) ∧ cm_cd tX5_measure [] 95 = some (.ifCond .ne 100, 3) ∧ cm_cd tX5_measure [] 98 = some (.iload 2, 1) ∧ cm_cd tX5_measure [] 99 = some (.ireturn, 1) ∧ cm_cd tX5_measure [] 100 = some (.iload 1, 1) ∧ cm_cd tX5_measure [] 101 = some (.iconst 1, 1) ∧ cm_cd tX5_measure [] 102 = some (.if_icmp .ne 109, 3) ∧ cm_cd tX5_measure [] 105 = some (.iload 3, 1) ∧ cm_cd tX5_measure [] 106 = some (.goto 111, 3) ∧ cm_cd tX5_measure [] 109 = some (.iload 4, 2) ∧ cm_cd tX5_measure [] 111 = some (.ireturn, 1) := ⟨rfl, rfl, rfl, rfl, rfl, rfl, rfl, rfl, rfl, rfl, rfl, rfl, rfl, rfl, rfl, rfl, rfl, rfl, rfl, rfl, rfl, rfl, rfl, rfl, rfl, rfl, rfl, rfl, rfl, rfl, rfl, rfl, rfl, rfl, rfl, rfl, rfl, rfl, rfl, rfl, rfl, rfl, rfl, rfl, rfl, rfl, rfl, rfl, rfl, rfl, rfl, rfl, rfl, rfl, rfl, rfl, rfl, rfl, rfl, rfl⟩
def SX5_measure : cm_CT := fun as T M Φ => match as with
  | [.ref a, .int w] => Sg T M a ∧ Φ (some (.int (w3 (meas (fl M a) w.toInt)))) T M
  | _ => False
def JX5_measure : cm_J := (5, false, 1, [(49, 2, 5, 0, 0, SX4_get)], [(43, 2, 0, 0, 0, SJ9_max_7cf53)], [])
theorem jX5_measure : JX5_measure.1 = 5 ∧ JX5_measure.2.1 = false ∧ JX5_measure.2.2.1 = 1 ∧ cm_gv JX5_measure 49 = some (2, 5, 0, 0, SX4_get) ∧ cm_gs JX5_measure 43 = some (2, 0, 0, 0, SJ9_max_7cf53) := ⟨rfl, rfl, rfl, rfl, rfl⟩
theorem eX5_measure (d : Nat) (hd : 2 ≤ d) : cm_Cok d JX5_measure := ⟨(List.forall_mem_cons.mpr ⟨q5_49 (mX4_get (d - 1) (by omega)) (by omega), (fun q h => by cases h)⟩), (List.forall_mem_cons.mpr ⟨(cm_calMx (cm_w 461 (by decide +kernel) rfl)), (fun q h => by cases h)⟩), (fun q h => by cases h)⟩
set_option maxHeartbeats 4000000 in
theorem lX5_measure (d : Nat) (hd : 2 ≤ d) {T : cm_T} {M : cm_M} {Φ : Option Value → cm_T → cm_M → Prop} {a : Nat} {w : Int32} {L : List Int32} (hg : Sg T M a) (hL : fl M a = some L) (hS : Φ (some (.int (w3 (meas (some L) w.toInt)))) T M) :
    ∀ (k : Nat) (o7 : Option Value), k ≤ L.length → cm_Go d cX5_measure 8 0 0 JX5_measure Φ 13 [some (.ref a), some (.int w), some (.int (w3 (mL L k))), some (.int (w3 (mC L k))), some (.int (w3 (mD L k))), some (.int (w3 (dp L k))), some (.int (w3 k)), o7] [] (0, 0) T M := by
  intro k
  induction hf : (L.length - k) using Nat.strongRecOn generalizing k with
  | _ f ih =>
    intro o7 k1
    obtain ⟨hz, h60, hat⟩ := Sg_len hg hL
    have hsz : M.1 a 1 = w3 (L.length : Int) := by rw [sz_w, hz]
    have h1 := hg.1
    have b1 := dp_bd L k
    have b2 := mL_bd L k
    have b3 := mC_bd L k
    have b4 := mD_bd L k
    refine cm_go hX5_measure 200 oX5_measure (eX5_measure d hd) lX5_measure_13 ?_
    simp only [jX5_measure, kX5_measure_0, fl_5_24, h1, hg, hsz, SX4_get, SJ9_max_7cf53, cn_iconst, cn_lconst0, cn_lconst1, cn_null, cn_iload, cn_aload, cn_lload, cn_lo1, cn_loa1, cn_loa2, cn_lol1, cn_get0, cn_gets, cn_put0, cn_puts, cn_istore, cn_astore, cn_astoreN, cn_lstore, cn_iinc, cn_in1, cn_iadd, cn_isub, cn_imul, cn_iand, cn_ior, cn_ixor, cn_ishl, cn_ishr, cn_iushr, cn_idiv, cn_irem, cn_ladd, cn_lmul, cn_ldiv, cn_lrem, cn_i2l, cn_l2i, cn_i2b, cn_lcmp, cn_dupi, cn_dupr, cn_dup2, cn_popi, cn_popr, cn_goto, cn_if_eq, cn_if_ne, cn_if_lt, cn_if_ge, cn_if_gt, cn_if_le, cn_ic_eq, cn_ic_ne, cn_ic_lt, cn_ic_ge, cn_ic_gt, cn_ic_le, cn_ifnullN, cn_ifnullR, cn_ifnonnullN, cn_ifnonnullR, cn_tswS, cn_tsw0, cn_tsw1, cn_lswS, cn_lsw0, cn_lsw1, cn_alen, cn_iaload, cn_laload, cn_rr1, cn_rr0, cn_aaload, cn_iastore, cn_lastore, cn_aastore, cn_getfield, cn_gf0, cn_gf1, cn_gf2, cn_gf3, cn_putfield, cn_pf0f, cn_pf1f, cn_pf2f, cn_pf3f, cn_pf0t, cn_pf1t, cn_pf2t, cn_pf3t, cn_new, cn_nw1, cn_newi, cn_newl, cn_anew, cn_an1, cn_inv_v, cn_inv_s, cn_inv_p, cn_ca1, cn_cb1, cn_pop0, cn_pops, cn_rk0, cn_rk1, cn_kcn, cn_kcs, cn_ireturn, cn_lreturn, cn_areturn, cn_return, cn_re0, cn_re1, cn_re2, cn_re3, cn_re4, cn_re5, cn_wp0, cn_wps, cn_m0, cn_m1, cn_e0, cn_en, cn_ei, cn_er, cn_eu, cn_el, cn_nl0, cn_nls, cn_nb0, cn_nb1, cn_nb2, cn_nb3, cn_bd0, cn_bds, cn_cwi, cn_cwr, cn_cwl, cn_cwn, cn_wi2, cn_wl1, cn_wl3, cn_wr1, cn_wr2, cn_wi_eq, cn_wl_eq, cb_0, cb_n0, cb_b, cm_okb0, cm_okb1, Classical.not_not, true_and, and_true, Nat.reduceAdd, Nat.reduceSub, Nat.reduceLT, Nat.reduceLeDiff, Int.reduceToNat, Int.reduceNatCast', Nat.zero_le, Nat.reduceEqDiff, false_or, or_false, or_true, true_or, Int.reduceNeg, reduceCtorEq, false_implies, implies_true, forall_const, true_implies, not_true_eq_false, not_false_eq_true, Nat.le_refl, ne_eq, if_true, if_false, ite_true, ite_false, List.cons_append, List.nil_append]
    simp (disch := omega) only [w3_le, w3_lt, w3_eq, w3_ix, w3_add, w3_sub, w3_mul, w3_toInt, w3_z]
    simp only [hz]
    refine ⟨fun h => ?_, fun h => ?_⟩
    · have e : k = L.length := by omega
      subst e
      unfold meas at hS
      refine ⟨fun h2 => ⟨fun h3 => ?_, fun h3 => ?_⟩, fun h2 => ?_⟩
      · have q1 : ¬ w.toInt = 0 := fun q => h2 (by rw [← w3_self w, q])
        have q2 : ¬ w.toInt = 1 := fun q => h3 (by rw [← w3_self w, q])
        simp only [q1, q2, if_false] at hS
        exact hS
      · rw [h3] at hS
        exact hS
      · rw [h2] at hS
        exact hS
    · have hk : k < L.length := by omega
      simp only [show (0 : Int) ≤ (k : Int) ∧ (k : Int) < (L.length : Int) from ⟨by omega, by omega⟩, and_self, if_true, hat k hk]
      have c1 : dp L (k + 1) = dp L k + dstep (gt L k) := rfl
      have c2 : mL L (k + 1) = mL L k + (if dp L (k + 1) = 0 then 1 else 0) := rfl
      have c3 : mC L (k + 1) = mC L k + (if gt L k = w3 13 ∧ dp L (k + 1) = 0 then 1 else 0) := rfl
      have c4 : mD L (k + 1) = if gt L k = w3 10 then max (mD L k) (dp L (k + 1)) else mD L k := rfl
      have key := fun o => ih _ (show L.length - (k + 1) < f by omega) (k + 1) rfl o (by omega)
      rw [c2, c3, c4] at key
      have ek : (((k + 1 : Nat)) : Int) = (k : Int) + 1 := by omega
      rw [ek, c1] at key
      generalize gt L k = x at *
      refine ⟨fun c10 => ⟨fun c13 => ⟨fun z => ?_, fun z => ?_⟩, fun c13 => ⟨fun z => ⟨fun _ => ?_, fun z2 => absurd z2 z⟩, fun z => ⟨fun z2 => absurd z z2, fun _ => ?_⟩⟩⟩, fun c10 => ⟨fun z => ?_, fun z => ?_⟩⟩
      · simp only [dstep, c10, c13, z, Int.add_zero, if_false, false_and] at key ⊢
        exact key _
      · simp only [dstep, c10, c13, z, Int.add_zero, if_false, false_and, if_true] at key ⊢
        exact key _
      · simp only [dstep, c10, c13, w_13_10, z, Int.add_zero, if_false, true_and, if_true] at key ⊢
        exact key _
      · simp only [dstep, c10, c13, w_13_10, z, Int.add_zero, if_false, true_and, if_true, and_self] at key ⊢
        exact key _
      · simp only [dstep, c10, w_10_13, z, w3_mx, Int.add_zero, if_false, false_and, if_true] at key ⊢
        exact key _
      · simp only [dstep, c10, w_10_13, z, w3_mx, Int.add_zero, if_false, false_and, if_true] at key ⊢
        exact key _
set_option maxHeartbeats 4000000 in
theorem mX5_measure (d : Nat) (hd : 2 ≤ d) : cm_Met d yX5_measure cX5_measure 8 (some .int) 0 0 SX5_measure := by
  refine cm_meets (J := JX5_measure) (by decide) rfl (fun h => by cases h) trivial ?_
  intro as T M Φ hS
  match as, hS with
  | [.ref a, .int w], ⟨hg, hS⟩ =>
    refine ⟨Nat.le_of_ble_eq_true rfl, ?_⟩
    cases hL : fl M a with
    | none =>
      have hz := flm_none hL
      have h4 := hg.2.2.2.1
      have hsz : M.1 a 1 = w3 (-1) := by rw [sz_w]; congr 1; omega
      rw [hL] at hS
      have h1 := hg.1
      refine cm_go [] 300 oX5_measure (eX5_measure d hd) lX5_measure_0 ?_
      simp (disch := omega) only [jX5_measure, kzX5_measure_0, fl_5_24, h1, hsz, cn_iconst, cn_lconst0, cn_lconst1, cn_null, cn_iload, cn_aload, cn_lload, cn_lo1, cn_loa1, cn_loa2, cn_lol1, cn_get0, cn_gets, cn_put0, cn_puts, cn_istore, cn_astore, cn_astoreN, cn_lstore, cn_iinc, cn_in1, cn_iadd, cn_isub, cn_imul, cn_iand, cn_ior, cn_ixor, cn_ishl, cn_ishr, cn_iushr, cn_idiv, cn_irem, cn_ladd, cn_lmul, cn_ldiv, cn_lrem, cn_i2l, cn_l2i, cn_i2b, cn_lcmp, cn_dupi, cn_dupr, cn_dup2, cn_popi, cn_popr, cn_goto, cn_if_eq, cn_if_ne, cn_if_lt, cn_if_ge, cn_if_gt, cn_if_le, cn_ic_eq, cn_ic_ne, cn_ic_lt, cn_ic_ge, cn_ic_gt, cn_ic_le, cn_ifnullN, cn_ifnullR, cn_ifnonnullN, cn_ifnonnullR, cn_tswS, cn_tsw0, cn_tsw1, cn_lswS, cn_lsw0, cn_lsw1, cn_alen, cn_iaload, cn_laload, cn_rr1, cn_rr0, cn_aaload, cn_iastore, cn_lastore, cn_aastore, cn_getfield, cn_gf0, cn_gf1, cn_gf2, cn_gf3, cn_putfield, cn_pf0f, cn_pf1f, cn_pf2f, cn_pf3f, cn_pf0t, cn_pf1t, cn_pf2t, cn_pf3t, cn_new, cn_nw1, cn_newi, cn_newl, cn_anew, cn_an1, cn_inv_v, cn_inv_s, cn_inv_p, cn_ca1, cn_cb1, cn_pop0, cn_pops, cn_rk0, cn_rk1, cn_kcn, cn_kcs, cn_ireturn, cn_lreturn, cn_areturn, cn_return, cn_re0, cn_re1, cn_re2, cn_re3, cn_re4, cn_re5, cn_wp0, cn_wps, cn_m0, cn_m1, cn_e0, cn_en, cn_ei, cn_er, cn_eu, cn_el, cn_nl0, cn_nls, cn_nb0, cn_nb1, cn_nb2, cn_nb3, cn_bd0, cn_bds, cn_cwi, cn_cwr, cn_cwl, cn_cwn, cn_wi2, cn_wl1, cn_wl3, cn_wr1, cn_wr2, cn_wi_eq, cn_wl_eq, cb_0, cb_n0, cb_b, cm_okb0, cm_okb1, Classical.not_not, true_and, and_true, Nat.reduceAdd, Nat.reduceSub, Nat.reduceLT, Nat.reduceLeDiff, Int.reduceToNat, Int.reduceNatCast', Nat.zero_le, Nat.reduceEqDiff, false_or, or_false, or_true, true_or, Int.reduceNeg, reduceCtorEq, false_implies, implies_true, forall_const, true_implies, not_true_eq_false, not_false_eq_true, Nat.le_refl, ne_eq, if_true, if_false, ite_true, ite_false, List.cons_append, List.nil_append, w3_add, w3_sub, w3_le, w3_lt, w3_eq, w3_toInt, w3_ix, Int.reduceLE, Int.reduceLT, Int.reduceAdd, Int.reduceSub, Int.reduceEq, Int.le_refl, Int.lt_irrefl]
      exact ⟨fun h2 => ⟨fun h3 => hS, fun h3 => hS⟩, fun h2 => hS⟩
    | some L =>
      rw [hL] at hS
      refine cm_go hX5_measure 200 oX5_measure (eX5_measure d hd) lX5_measure_0 ?_
      simp only [jX5_measure, kX5_measure_0, fl_5_24, cn_iconst, cn_lconst0, cn_lconst1, cn_null, cn_iload, cn_aload, cn_lload, cn_lo1, cn_loa1, cn_loa2, cn_lol1, cn_get0, cn_gets, cn_put0, cn_puts, cn_istore, cn_astore, cn_astoreN, cn_lstore, cn_iinc, cn_in1, cn_iadd, cn_isub, cn_imul, cn_iand, cn_ior, cn_ixor, cn_ishl, cn_ishr, cn_iushr, cn_idiv, cn_irem, cn_ladd, cn_lmul, cn_ldiv, cn_lrem, cn_i2l, cn_l2i, cn_i2b, cn_lcmp, cn_dupi, cn_dupr, cn_dup2, cn_popi, cn_popr, cn_goto, cn_if_eq, cn_if_ne, cn_if_lt, cn_if_ge, cn_if_gt, cn_if_le, cn_ic_eq, cn_ic_ne, cn_ic_lt, cn_ic_ge, cn_ic_gt, cn_ic_le, cn_ifnullN, cn_ifnullR, cn_ifnonnullN, cn_ifnonnullR, cn_tswS, cn_tsw0, cn_tsw1, cn_lswS, cn_lsw0, cn_lsw1, cn_alen, cn_iaload, cn_laload, cn_rr1, cn_rr0, cn_aaload, cn_iastore, cn_lastore, cn_aastore, cn_getfield, cn_gf0, cn_gf1, cn_gf2, cn_gf3, cn_putfield, cn_pf0f, cn_pf1f, cn_pf2f, cn_pf3f, cn_pf0t, cn_pf1t, cn_pf2t, cn_pf3t, cn_new, cn_nw1, cn_newi, cn_newl, cn_anew, cn_an1, cn_inv_v, cn_inv_s, cn_inv_p, cn_ca1, cn_cb1, cn_pop0, cn_pops, cn_rk0, cn_rk1, cn_kcn, cn_kcs, cn_ireturn, cn_lreturn, cn_areturn, cn_return, cn_re0, cn_re1, cn_re2, cn_re3, cn_re4, cn_re5, cn_wp0, cn_wps, cn_m0, cn_m1, cn_e0, cn_en, cn_ei, cn_er, cn_eu, cn_el, cn_nl0, cn_nls, cn_nb0, cn_nb1, cn_nb2, cn_nb3, cn_bd0, cn_bds, cn_cwi, cn_cwr, cn_cwl, cn_cwn, cn_wi2, cn_wl1, cn_wl3, cn_wr1, cn_wr2, cn_wi_eq, cn_wl_eq, cb_0, cb_n0, cb_b, cm_okb0, cm_okb1, Classical.not_not, true_and, and_true, Nat.reduceAdd, Nat.reduceSub, Nat.reduceLT, Nat.reduceLeDiff, Int.reduceToNat, Int.reduceNatCast', Nat.zero_le, Nat.reduceEqDiff, false_or, or_false, or_true, true_or, Int.reduceNeg, reduceCtorEq, false_implies, implies_true, forall_const, true_implies, not_true_eq_false, not_false_eq_true, Nat.le_refl, ne_eq, if_true, if_false, ite_true, ite_false, List.cons_append, List.nil_append]
      exact lX5_measure d hd hg hL hS 0 none (Nat.zero_le _)
def SX4_isLike : cm_CT := fun as T M Φ => match as with
  | [.ref a, .ref b] => Sg T M a ∧ Sg T M b ∧ Φ (some (.int (cb (fl M a = fl M b)))) T M
  | _ => False
def JX4_isLike : cm_J := (4, false, 2, [], [], [])
theorem jX4_isLike : JX4_isLike.1 = 4 ∧ JX4_isLike.2.1 = false ∧ JX4_isLike.2.2.1 = 2 := ⟨rfl, rfl, rfl⟩
theorem eX4_isLike (d : Nat) (hd : 0 ≤ d) : cm_Cok d JX4_isLike := ⟨(fun q h => by cases h), (fun q h => by cases h), (fun q h => by cases h)⟩
set_option maxHeartbeats 4000000 in
theorem lX4_isLike (d : Nat) (hd : 0 ≤ d) {T : cm_T} {M : cm_M} {Φ : Option Value → cm_T → cm_M → Prop} {a b pa pb : Nat} {z : Int} (h1 : T.1 a = 5) (h2 : M.2.2 a 0 = some pa) (h3 : T.1 pa = 20) (g1 : T.1 b = 5) (g2 : M.2.2 b 0 = some pb) (g3 : T.1 pb = 20) (h4 : M.1 a 1 = w3 z) (h5 : z ≤ (T.2.1 pa : Int)) (g5 : z ≤ (T.2.1 pb : Int)) (h6 : T.2.1 pa ≤ 60) (zl : -1 ≤ z) (hS : Φ (some (.int (cb (∀ k : Int, 0 ≤ k → k < z → M.1 pa k = M.1 pb k)))) T M) :
    ∀ k : Int, 0 ≤ k → k ≤ max z 0 → (∀ j : Int, 0 ≤ j → j < k → M.1 pa j = M.1 pb j) → cm_Go d cX4_isLike 3 0 0 JX4_isLike Φ 15 [some (.ref a), some (.ref b), some (.int (w3 k))] [] (0, 0) T M := by
  intro k
  induction hf : (z - k).toNat using Nat.strongRecOn generalizing k with
  | _ f ih =>
    intro k0 k1 hj
    refine cm_go hX4_isLike 200 oX4_isLike (eX4_isLike d hd) lX4_isLike_15 ?_
    simp only [jX4_isLike, kX4_isLike_0, fl_4_9, fl_4_21, h1, h2, h3, h4, g1, g2, g3, cn_iconst, cn_lconst0, cn_lconst1, cn_null, cn_iload, cn_aload, cn_lload, cn_lo1, cn_loa1, cn_loa2, cn_lol1, cn_get0, cn_gets, cn_put0, cn_puts, cn_istore, cn_astore, cn_astoreN, cn_lstore, cn_iinc, cn_in1, cn_iadd, cn_isub, cn_imul, cn_iand, cn_ior, cn_ixor, cn_ishl, cn_ishr, cn_iushr, cn_idiv, cn_irem, cn_ladd, cn_lmul, cn_ldiv, cn_lrem, cn_i2l, cn_l2i, cn_i2b, cn_lcmp, cn_dupi, cn_dupr, cn_dup2, cn_popi, cn_popr, cn_goto, cn_if_eq, cn_if_ne, cn_if_lt, cn_if_ge, cn_if_gt, cn_if_le, cn_ic_eq, cn_ic_ne, cn_ic_lt, cn_ic_ge, cn_ic_gt, cn_ic_le, cn_ifnullN, cn_ifnullR, cn_ifnonnullN, cn_ifnonnullR, cn_tswS, cn_tsw0, cn_tsw1, cn_lswS, cn_lsw0, cn_lsw1, cn_alen, cn_iaload, cn_laload, cn_rr1, cn_rr0, cn_aaload, cn_iastore, cn_lastore, cn_aastore, cn_getfield, cn_gf0, cn_gf1, cn_gf2, cn_gf3, cn_putfield, cn_pf0f, cn_pf1f, cn_pf2f, cn_pf3f, cn_pf0t, cn_pf1t, cn_pf2t, cn_pf3t, cn_new, cn_nw1, cn_newi, cn_newl, cn_anew, cn_an1, cn_inv_v, cn_inv_s, cn_inv_p, cn_ca1, cn_cb1, cn_pop0, cn_pops, cn_rk0, cn_rk1, cn_kcn, cn_kcs, cn_ireturn, cn_lreturn, cn_areturn, cn_return, cn_re0, cn_re1, cn_re2, cn_re3, cn_re4, cn_re5, cn_wp0, cn_wps, cn_m0, cn_m1, cn_e0, cn_en, cn_ei, cn_er, cn_eu, cn_el, cn_nl0, cn_nls, cn_nb0, cn_nb1, cn_nb2, cn_nb3, cn_bd0, cn_bds, cn_cwi, cn_cwr, cn_cwl, cn_cwn, cn_wi2, cn_wl1, cn_wl3, cn_wr1, cn_wr2, cn_wi_eq, cn_wl_eq, cb_0, cb_n0, cb_b, cm_okb0, cm_okb1, Classical.not_not, true_and, and_true, Nat.reduceAdd, Nat.reduceSub, Nat.reduceLT, Nat.reduceLeDiff, Int.reduceToNat, Int.reduceNatCast', Nat.zero_le, Nat.reduceEqDiff, false_or, or_false, or_true, true_or, Int.reduceNeg, reduceCtorEq, false_implies, implies_true, forall_const, true_implies, not_true_eq_false, not_false_eq_true, Nat.le_refl, ne_eq, if_true, if_false, ite_true, ite_false, List.cons_append, List.nil_append]
    simp (disch := omega) only [w3_le, w3_lt, w3_eq, w3_ix, w3_add, w3_sub, w3_mul, w3_toInt, w3_z]
    refine ⟨fun h => ?_, fun h => ⟨⟨by omega, by omega⟩, ⟨by omega, by omega⟩, fun h7 => ?_, fun h7 => ?_⟩⟩
    · rw [cb_t (fun j a1 a2 => hj j a1 (by omega))] at hS; exact hS
    · exact ih _ (by omega) (k + 1) rfl (by omega) (by omega) (fun j a1 a2 => by
        by_cases e : j = k
        · rw [e]; exact h7
        · exact hj j a1 (by omega))
    · rw [cb_f (fun w => h7 (w k (by omega) (by omega)))] at hS; exact hS
set_option maxHeartbeats 4000000 in
theorem mX4_isLike (d : Nat) (hd : 0 ≤ d) : cm_Met d yX4_isLike cX4_isLike 3 (some .boolean) 0 0 SX4_isLike := by
  refine cm_meets (J := JX4_isLike) (by decide) rfl (fun h => by cases h) trivial ?_
  intro as T M Φ hS
  match as, hS with
  | [.ref a, .ref b], ⟨hg, hh, hS⟩ =>
    refine ⟨Nat.le_of_ble_eq_true rfl, ?_⟩
    obtain ⟨h1, h2, h3, h4, h5, h6⟩ := id hg
    obtain ⟨g1, g2, g3, g4, g5, g6⟩ := id hh
    have hz : M.1 b 1 = w3 (sz M b) := sz_w
    have hy : M.1 a 1 = w3 (sz M a) := sz_w
    unfold fl at hS
    rw [flm_inj h4 g4] at hS
    simp only [Int.zero_add] at hS
    generalize hpa : pl M a = pa at *
    generalize hpb : pl M b = pb at *
    generalize hzz : sz M b = z at *
    generalize hyy : sz M a = y at *
    refine cm_go hX4_isLike 200 oX4_isLike (eX4_isLike d hd) lX4_isLike_0 ?_
    simp only [jX4_isLike, kX4_isLike_0, fl_4_9, fl_4_21, h1, h2, h3, g1, g2, g3, hz, hy, cn_iconst, cn_lconst0, cn_lconst1, cn_null, cn_iload, cn_aload, cn_lload, cn_lo1, cn_loa1, cn_loa2, cn_lol1, cn_get0, cn_gets, cn_put0, cn_puts, cn_istore, cn_astore, cn_astoreN, cn_lstore, cn_iinc, cn_in1, cn_iadd, cn_isub, cn_imul, cn_iand, cn_ior, cn_ixor, cn_ishl, cn_ishr, cn_iushr, cn_idiv, cn_irem, cn_ladd, cn_lmul, cn_ldiv, cn_lrem, cn_i2l, cn_l2i, cn_i2b, cn_lcmp, cn_dupi, cn_dupr, cn_dup2, cn_popi, cn_popr, cn_goto, cn_if_eq, cn_if_ne, cn_if_lt, cn_if_ge, cn_if_gt, cn_if_le, cn_ic_eq, cn_ic_ne, cn_ic_lt, cn_ic_ge, cn_ic_gt, cn_ic_le, cn_ifnullN, cn_ifnullR, cn_ifnonnullN, cn_ifnonnullR, cn_tswS, cn_tsw0, cn_tsw1, cn_lswS, cn_lsw0, cn_lsw1, cn_alen, cn_iaload, cn_laload, cn_rr1, cn_rr0, cn_aaload, cn_iastore, cn_lastore, cn_aastore, cn_getfield, cn_gf0, cn_gf1, cn_gf2, cn_gf3, cn_putfield, cn_pf0f, cn_pf1f, cn_pf2f, cn_pf3f, cn_pf0t, cn_pf1t, cn_pf2t, cn_pf3t, cn_new, cn_nw1, cn_newi, cn_newl, cn_anew, cn_an1, cn_inv_v, cn_inv_s, cn_inv_p, cn_ca1, cn_cb1, cn_pop0, cn_pops, cn_rk0, cn_rk1, cn_kcn, cn_kcs, cn_ireturn, cn_lreturn, cn_areturn, cn_return, cn_re0, cn_re1, cn_re2, cn_re3, cn_re4, cn_re5, cn_wp0, cn_wps, cn_m0, cn_m1, cn_e0, cn_en, cn_ei, cn_er, cn_eu, cn_el, cn_nl0, cn_nls, cn_nb0, cn_nb1, cn_nb2, cn_nb3, cn_bd0, cn_bds, cn_cwi, cn_cwr, cn_cwl, cn_cwn, cn_wi2, cn_wl1, cn_wl3, cn_wr1, cn_wr2, cn_wi_eq, cn_wl_eq, cb_0, cb_n0, cb_b, cm_okb0, cm_okb1, Classical.not_not, true_and, and_true, Nat.reduceAdd, Nat.reduceSub, Nat.reduceLT, Nat.reduceLeDiff, Int.reduceToNat, Int.reduceNatCast', Nat.zero_le, Nat.reduceEqDiff, false_or, or_false, or_true, true_or, Int.reduceNeg, reduceCtorEq, false_implies, implies_true, forall_const, true_implies, not_true_eq_false, not_false_eq_true, Nat.le_refl, ne_eq, if_true, if_false, ite_true, ite_false, List.cons_append, List.nil_append]
    simp (disch := omega) only [w3_le, w3_lt, w3_eq, w3_ix, w3_add, w3_sub, w3_mul, w3_toInt, w3_z]
    refine ⟨fun h => ?_, fun h => ?_⟩
    · subst h
      have e : (y = y ∧ ∀ k : Int, 0 ≤ k → k < y → M.1 pa k = M.1 pb k) = (∀ k : Int, 0 ≤ k → k < y → M.1 pa k = M.1 pb k) := by simp only [true_and]
      rw [e] at hS
      exact lX4_isLike d hd h1 h2 h3 g1 g2 g3 hy h5 g5 h6 h4 hS 0 (by omega) (by omega) (fun j a1 a2 => by omega)
    · rw [cb_f (fun w => h w.1)] at hS; exact hS
/-- a tree at t: its row of files, three rows with their places, one behind the other -/
def TTr (T : cm_T) (R : Nat → Int → Option Nat) (t : Nat) : Prop := T.1 t = 6 ∧ R t 0 = some (t + 1) ∧ T.1 (t + 1) = 26 ∧ T.2.1 (t + 1) = 3 ∧ (R (t + 1) 0 = some (t + 2) ∧ R (t + 1) 1 = some (t + 4) ∧ R (t + 1) 2 = some (t + 6)) ∧ (T.1 (t + 2) = 5 ∧ T.1 (t + 4) = 5 ∧ T.1 (t + 6) = 5) ∧ (R (t + 2) 0 = some (t + 3) ∧ R (t + 4) 0 = some (t + 5) ∧ R (t + 6) 0 = some (t + 7)) ∧ (T.1 (t + 3) = 20 ∧ T.1 (t + 5) = 20 ∧ T.1 (t + 7) = 20) ∧ (T.2.1 (t + 3) = 40 ∧ T.2.1 (t + 5) = 40 ∧ T.2.1 (t + 7) = 40)
def szb (M : cm_M) (a : Nat) : Prop := -1 ≤ sz M a ∧ sz M a ≤ 40
def dj (t u : Nat) : Prop := t + 8 ≤ u ∨ u + 8 ≤ t
def TrG (T : cm_T) (M : cm_M) (t : Nat) : Prop := TTr T M.2.2 t ∧ szb M (t + 2) ∧ szb M (t + 4) ∧ szb M (t + 6)
theorem TrG.sg {T : cm_T} {M : cm_M} {t : Nat} (h : TrG T M t) : (Sg T M (t + 2) ∧ pl M (t + 2) = t + 3) ∧ (Sg T M (t + 4) ∧ pl M (t + 4) = t + 5) ∧ (Sg T M (t + 6) ∧ pl M (t + 6) = t + 7) := by
  obtain ⟨⟨h1, h2, h3, h4, ⟨a1, a2, a3⟩, ⟨b1, b2, b3⟩, ⟨c1, c2, c3⟩, ⟨d1, d2, d3⟩, e1, e2, e3⟩, s1, s2, s3⟩ := h
  have p1 := pl_eq c1
  have p2 := pl_eq c2
  have p3 := pl_eq c3
  refine ⟨⟨⟨b1, by rw [p1]; exact c1, by rw [p1]; exact d1, s1.1, by rw [p1, e1]; exact s1.2, by rw [p1, e1]; omega⟩, p1⟩, ⟨⟨b2, by rw [p2]; exact c2, by rw [p2]; exact d2, s2.1, by rw [p2, e2]; exact s2.2, by rw [p2, e2]; omega⟩, p2⟩, ⟨⟨b3, by rw [p3]; exact c3, by rw [p3]; exact d3, s3.1, by rw [p3, e3]; exact s3.2, by rw [p3, e3]; omega⟩, p3⟩⟩
def tot (M : cm_M) (t : Nat) (w : Int) : Int := meas (fl M (t + 2)) w + meas (fl M (t + 4)) w + meas (fl M (t + 6)) w
theorem meas_bd {T : cm_T} {M : cm_M} {a : Nat} (h : Sg T M a) (w : Int) : 0 ≤ meas (fl M a) w ∧ meas (fl M a) w ≤ 60 := by
  cases hL : fl M a with
  | none => exact ⟨Int.le_refl _, (by decide : (0 : Int) ≤ 60)⟩
  | some L =>
    obtain ⟨-, h60, -⟩ := Sg_len h hL
    have b2 := mL_bd L L.length
    have b3 := mC_bd L L.length
    have b4 := mD_bd L L.length
    unfold meas
    dsimp only
    split
    · omega
    · split <;> omega
set_option maxRecDepth 100000 in
theorem kzX5_total_0 : cm_cd tX5_total [] 0 = some (.iconst 0, 1) ∧ cm_cd tX5_total [] 1 = some (.istore 2, 1) ∧ cm_cd tX5_total [] 2 = some (.iconst 0, 1) ∧ cm_cd tX5_total [] 3 = some (.istore 3, 1) ∧ cm_cd tX5_total [] 4 = some (.iload 3, 1) ∧ cm_cd tX5_total [] 5 = some (.iconst 3, 1) ∧ cm_cd tX5_total [] 6 = some (.if_icmp .ge 28, 3) ∧ cm_cd tX5_total [] 9 = some (.iload 2, 1) ∧ cm_cd tX5_total [] 10 = some (.aload 0, 1) ∧ cm_cd tX5_total [] 11 = some (.getfield 11, 3) ∧ cm_cd tX5_total [] 14 = some (.iload 3, 1) ∧ cm_cd tX5_total [] 15 = some (.aaload, 1) ∧ cm_cd tX5_total [] 16 = some (.iload 1, 1) ∧ cm_cd tX5_total [] 17 = some (.invokestatic 39, 3) ∧ cm_cd tX5_total [] 20 = some (.iadd, 1) ∧ cm_cd tX5_total [] 21 = some (.istore 2, 1) ∧ cm_cd tX5_total [] 22 = some (.iinc 3 1, 3) ∧ cm_cd tX5_total [] 25 = some (.goto 4, 3) ∧ cm_cd tX5_total [] 28 = some (.iload 2, 1) ∧ cm_cd tX5_total [] 29 = some (.ireturn, 1) := ⟨rfl, rfl, rfl, rfl, rfl, rfl, rfl, rfl, rfl, rfl, rfl, rfl, rfl, rfl, rfl, rfl, rfl, rfl, rfl, rfl⟩
set_option maxRecDepth 100000 in
theorem kzX5_deepest_0 : cm_cd tX5_deepest [] 0 = some (.iconst 0, 1) ∧ cm_cd tX5_deepest [] 1 = some (.istore 1, 1) ∧ cm_cd tX5_deepest [] 2 = some (.iconst 0, 1) ∧ cm_cd tX5_deepest [] 3 = some (.istore 2, 1) ∧ cm_cd tX5_deepest [] 4 = some (.iload 2, 1) ∧ cm_cd tX5_deepest [] 5 = some (.iconst 3, 1) ∧ cm_cd tX5_deepest [] 6 = some (.if_icmp .ge 30, 3) ∧ cm_cd tX5_deepest [] 9 = some (.iload 1, 1) ∧ cm_cd tX5_deepest [] 10 = some (.aload 0, 1) ∧ cm_cd tX5_deepest [] 11 = some (.getfield 11, 3) ∧ cm_cd tX5_deepest [] 14 = some (.iload 2, 1) ∧ cm_cd tX5_deepest [] 15 = some (.aaload, 1) ∧ cm_cd tX5_deepest [] 16 = some (.iconst 2, 1) ∧ cm_cd tX5_deepest [] 17 = some (.invokestatic 39, 3) ∧ cm_cd tX5_deepest [] 20 = some (.invokestatic 43, 3) ∧ cm_cd tX5_deepest [] 23 = some (.istore 1, 1) ∧ cm_cd tX5_deepest [] 24 = some (.iinc 2 1, 3) ∧ cm_cd tX5_deepest [] 27 = some (.goto 4, 3) ∧ cm_cd tX5_deepest [] 30 = some (.iload 1, 1) ∧ cm_cd tX5_deepest [] 31 = some (.ireturn, 1) := ⟨rfl, rfl, rfl, rfl, rfl, rfl, rfl, rfl, rfl, rfl, rfl, rfl, rfl, rfl, rfl, rfl, rfl, rfl, rfl, rfl⟩
set_option maxRecDepth 100000 in
theorem kzX5_present_0 : cm_cd tX5_present [] 0 = some (.iconst 0, 1) ∧ cm_cd tX5_present [] 1 = some (.istore 1, 1) ∧ cm_cd tX5_present [] 2 = some (.iconst 0, 1) ∧ cm_cd tX5_present [] 3 = some (.istore 2, 1) ∧ cm_cd tX5_present [] 4 = some (.iload 2, 1) ∧ cm_cd tX5_present [] 5 = some (.iconst 3, 1) ∧ cm_cd tX5_present [] 6 = some (.if_icmp .ge 33, 3) ∧ cm_cd tX5_present [] 9 = some (.aload 0, 1) ∧ cm_cd tX5_present [] 10 = some (.getfield 11, 3) ∧ cm_cd tX5_present [] 13 = some (.iload 2, 1) ∧ cm_cd tX5_present [] 14 = some (.aaload, 1) ∧ cm_cd tX5_present [] 15 = some (.invokevirtual 35, 3) ∧ cm_cd tX5_present [] 18 = some (.ifCond .eq 27, 3) ∧ cm_cd tX5_present [] 21 = some (.iload 1, 1) ∧ cm_cd tX5_present [] 22 = some (.iconst 1, 1) ∧ cm_cd tX5_present [] 23 = some (.iload 2, 1) ∧ cm_cd tX5_present [] 24 = some (.ishl, 1) ∧ cm_cd tX5_present [] 25 = some (.ior, 1) ∧ cm_cd tX5_present [] 26 = some (.istore 1, 1) ∧ cm_cd tX5_present [] 27 = some (.iinc 2 1, 3) ∧ cm_cd tX5_present [] 30 = some (.goto 4, 3) ∧ cm_cd tX5_present [] 33 = some (.iload 1, 1) ∧ cm_cd tX5_present [] 34 = some (.ireturn, 1) := ⟨rfl, rfl, rfl, rfl, rfl, rfl, rfl, rfl, rfl, rfl, rfl, rfl, rfl, rfl, rfl, rfl, rfl, rfl, rfl, rfl, rfl, rfl, rfl⟩
set_option maxRecDepth 100000 in
theorem kzX5_isLike_0 : cm_cd tX5_isLike [] 0 = some (.iconst 0, 1) ∧ cm_cd tX5_isLike [] 1 = some (.istore 2, 1) ∧ cm_cd tX5_isLike [] 2 = some (.iload 2, 1) ∧ cm_cd tX5_isLike [] 3 = some (.iconst 3, 1) ∧ cm_cd tX5_isLike [] 4 = some (.if_icmp .ge 33, 3) ∧ cm_cd tX5_isLike [] 7 = some (.aload 0, 1) ∧ cm_cd tX5_isLike [] 8 = some (.getfield 11, 3) ∧ cm_cd tX5_isLike [] 11 = some (.iload 2, 1) ∧ cm_cd tX5_isLike [] 12 = some (.aaload, 1) ∧ cm_cd tX5_isLike [] 13 = some (.aload 1, 1) ∧ cm_cd tX5_isLike [] 14 = some (.getfield 11, 3) ∧ cm_cd tX5_isLike [] 17 = some (.iload 2, 1) ∧ cm_cd tX5_isLike [] 18 = some (.aaload, 1) ∧ cm_cd tX5_isLike [] 19 = some (.invokevirtual 31, 3) ∧ cm_cd tX5_isLike [] 22 = some (.ifCond .ne 27, 3) ∧ cm_cd tX5_isLike [] 25 = some (.iconst 0, 1) ∧ cm_cd tX5_isLike [] 26 = some (.ireturn, 1) ∧ cm_cd tX5_isLike [] 27 = some (.iinc 2 1, 3) ∧ cm_cd tX5_isLike [] 30 = some (.goto 2, 3) ∧ cm_cd tX5_isLike [] 33 = some (.aload 0, 1) ∧ cm_cd tX5_isLike [] 34 = some (.getfield 17, 3) ∧ cm_cd tX5_isLike [] 37 = some (.aload 1, 1) ∧ cm_cd tX5_isLike [] 38 = some (.getfield 17, 3) ∧ cm_cd tX5_isLike [] 41 = some (.if_icmp .ne 48, 3) ∧ cm_cd tX5_isLike [] 44 = some (.iconst 1, 1) ∧ cm_cd tX5_isLike [] 45 = some (.goto 49, 3) ∧ cm_cd tX5_isLike [] 48 = some (.iconst 0, 1) ∧ cm_cd tX5_isLike [] 49 = some (.ireturn, 1) := ⟨rfl, rfl, rfl, rfl, rfl, rfl, rfl, rfl, rfl, rfl, rfl, rfl, rfl, rfl, rfl, rfl, rfl, rfl, rfl, rfl, rfl, rfl, rfl, rfl, rfl, rfl, rfl, rfl⟩
set_option maxRecDepth 100000 in
theorem kzX5_clear_0 : cm_cd tX5_clear [] 0 = some (.aload 0, 1) ∧ cm_cd tX5_clear [] 1 = some (.iconst 0, 1) ∧ cm_cd tX5_clear [] 2 = some (.putfield 17, 3) ∧ cm_cd tX5_clear [] 5 = some (.iconst 0, 1) ∧ cm_cd tX5_clear [] 6 = some (.istore 1, 1) ∧ cm_cd tX5_clear [] 7 = some (.iload 1, 1) ∧ cm_cd tX5_clear [] 8 = some (.iconst 3, 1) ∧ cm_cd tX5_clear [] 9 = some (.if_icmp .ge 28, 3) ∧ cm_cd tX5_clear [] 12 = some (.aload 0, 1) ∧ cm_cd tX5_clear [] 13 = some (.getfield 11, 3) ∧ cm_cd tX5_clear [] 16 = some (.iload 1, 1) ∧ cm_cd tX5_clear [] 17 = some (.aaload, 1) ∧ cm_cd tX5_clear [] 18 = some (.iconst (-1), 1) ∧ cm_cd tX5_clear [] 19 = some (.putfield 24, 3) ∧ cm_cd tX5_clear [] 22 = some (.iinc 1 1, 3) ∧ cm_cd tX5_clear [] 25 = some (.goto 7, 3) ∧ cm_cd tX5_clear [] 28 = some (.return_, 1) := ⟨rfl, rfl, rfl, rfl, rfl, rfl, rfl, rfl, rfl, rfl, rfl, rfl, rfl, rfl, rfl, rfl, rfl⟩
set_option maxRecDepth 100000 in
theorem kzX5_become_0 : cm_cd tX5_become [] 0 = some (.aload 0, 1) ∧ cm_cd tX5_become [] 1 = some (.aload 1, 1) ∧ cm_cd tX5_become [] 2 = some (.getfield 17, 3) ∧ cm_cd tX5_become [] 5 = some (.putfield 17, 3) ∧ cm_cd tX5_become [] 8 = some (.iconst 0, 1) ∧ cm_cd tX5_become [] 9 = some (.istore 2, 1) ∧ cm_cd tX5_become [] 10 = some (.iload 2, 1) ∧ cm_cd tX5_become [] 11 = some (.iconst 3, 1) ∧ cm_cd tX5_become [] 12 = some (.if_icmp .ge 36, 3) ∧ cm_cd tX5_become [] 15 = some (.aload 0, 1) ∧ cm_cd tX5_become [] 16 = some (.getfield 11, 3) ∧ cm_cd tX5_become [] 19 = some (.iload 2, 1) ∧ cm_cd tX5_become [] 20 = some (.aaload, 1) ∧ cm_cd tX5_become [] 21 = some (.aload 1, 1) ∧ cm_cd tX5_become [] 22 = some (.getfield 11, 3) ∧ cm_cd tX5_become [] 25 = some (.iload 2, 1) ∧ cm_cd tX5_become [] 26 = some (.aaload, 1) ∧ cm_cd tX5_become [] 27 = some (.invokevirtual 27, 3) ∧ cm_cd tX5_become [] 30 = some (.iinc 2 1, 3) ∧ cm_cd tX5_become [] 33 = some (.goto 10, 3) ∧ cm_cd tX5_become [] 36 = some (.return_, 1) := ⟨rfl, rfl, rfl, rfl, rfl, rfl, rfl, rfl, rfl, rfl, rfl, rfl, rfl, rfl, rfl, rfl, rfl, rfl, rfl, rfl, rfl⟩
def SX5_total : cm_CT := fun as T M Φ => match as with
  | [.ref t, .int w] => TrG T M t ∧ Φ (some (.int (w3 (tot M t w.toInt)))) T M
  | _ => False
def JX5_total : cm_J := (5, false, 1, [], [(39, 2, 0, 0, 0, SX5_measure)], [])
theorem jX5_total : JX5_total.1 = 5 ∧ JX5_total.2.1 = false ∧ JX5_total.2.2.1 = 1 ∧ cm_gs JX5_total 39 = some (2, 0, 0, 0, SX5_measure) := ⟨rfl, rfl, rfl, rfl⟩
theorem eX5_total (d : Nat) (hd : 3 ≤ d) : cm_Cok d JX5_total := ⟨(fun q h => by cases h), (List.forall_mem_cons.mpr ⟨q5_39 (mX5_measure (d - 1) (by omega)) (by omega), (fun q h => by cases h)⟩), (fun q h => by cases h)⟩
set_option maxHeartbeats 4000000 in
theorem mX5_total (d : Nat) (hd : 3 ≤ d) : cm_Met d yX5_total cX5_total 4 (some .int) 0 0 SX5_total := by
  refine cm_meets (J := JX5_total) (by decide) rfl (fun h => by cases h) trivial ?_
  intro as T M Φ hS
  match as, hS with
  | [.ref t, .int w], ⟨hg, hS⟩ =>
    refine ⟨Nat.le_of_ble_eq_true rfl, ?_⟩
    obtain ⟨⟨h1, h2, h3, h4, ⟨a1, a2, a3⟩, ⟨b1, b2, b3⟩, ⟨c1, c2, c3⟩, ⟨d1, d2, d3⟩, e1, e2, e3⟩, s1, s2, s3⟩ := id hg
    obtain ⟨⟨g1, p1⟩, ⟨g2, p2⟩, ⟨g3, p3⟩⟩ := hg.sg
    have m1 := meas_bd g1 w.toInt
    have m2 := meas_bd g2 w.toInt
    have m3 := meas_bd g3 w.toInt
    refine cm_go [] 400 oX5_total (eX5_total d hd) lX5_total_0 ?_
    simp (disch := omega) only [jX5_total, kzX5_total_0, fl_5_11, SX5_measure, g1, g2, g3, h1, h2, h3, h4, a1, a2, a3, b1, b2, b3, cn_iconst, cn_lconst0, cn_lconst1, cn_null, cn_iload, cn_aload, cn_lload, cn_lo1, cn_loa1, cn_loa2, cn_lol1, cn_get0, cn_gets, cn_put0, cn_puts, cn_istore, cn_astore, cn_astoreN, cn_lstore, cn_iinc, cn_in1, cn_iadd, cn_isub, cn_imul, cn_iand, cn_ior, cn_ixor, cn_ishl, cn_ishr, cn_iushr, cn_idiv, cn_irem, cn_ladd, cn_lmul, cn_ldiv, cn_lrem, cn_i2l, cn_l2i, cn_i2b, cn_lcmp, cn_dupi, cn_dupr, cn_dup2, cn_popi, cn_popr, cn_goto, cn_if_eq, cn_if_ne, cn_if_lt, cn_if_ge, cn_if_gt, cn_if_le, cn_ic_eq, cn_ic_ne, cn_ic_lt, cn_ic_ge, cn_ic_gt, cn_ic_le, cn_ifnullN, cn_ifnullR, cn_ifnonnullN, cn_ifnonnullR, cn_tswS, cn_tsw0, cn_tsw1, cn_lswS, cn_lsw0, cn_lsw1, cn_alen, cn_iaload, cn_laload, cn_rr1, cn_rr0, cn_aaload, cn_iastore, cn_lastore, cn_aastore, cn_getfield, cn_gf0, cn_gf1, cn_gf2, cn_gf3, cn_putfield, cn_pf0f, cn_pf1f, cn_pf2f, cn_pf3f, cn_pf0t, cn_pf1t, cn_pf2t, cn_pf3t, cn_new, cn_nw1, cn_newi, cn_newl, cn_anew, cn_an1, cn_inv_v, cn_inv_s, cn_inv_p, cn_ca1, cn_cb1, cn_pop0, cn_pops, cn_rk0, cn_rk1, cn_kcn, cn_kcs, cn_ireturn, cn_lreturn, cn_areturn, cn_return, cn_re0, cn_re1, cn_re2, cn_re3, cn_re4, cn_re5, cn_wp0, cn_wps, cn_m0, cn_m1, cn_e0, cn_en, cn_ei, cn_er, cn_eu, cn_el, cn_nl0, cn_nls, cn_nb0, cn_nb1, cn_nb2, cn_nb3, cn_bd0, cn_bds, cn_cwi, cn_cwr, cn_cwl, cn_cwn, cn_wi2, cn_wl1, cn_wl3, cn_wr1, cn_wr2, cn_wi_eq, cn_wl_eq, cb_0, cb_n0, cb_b, cm_okb0, cm_okb1, Classical.not_not, true_and, and_true, Nat.reduceAdd, Nat.reduceSub, Nat.reduceLT, Nat.reduceLeDiff, Int.reduceToNat, Int.reduceNatCast', Nat.zero_le, Nat.reduceEqDiff, false_or, or_false, or_true, true_or, Int.reduceNeg, reduceCtorEq, false_implies, implies_true, forall_const, true_implies, not_true_eq_false, not_false_eq_true, Nat.le_refl, ne_eq, if_true, if_false, ite_true, ite_false, List.cons_append, List.nil_append, w3_add, w3_sub, w3_le, w3_lt, w3_eq, w3_toInt, w3_ix, Int.reduceLE, Int.reduceLT, Int.reduceAdd, Int.reduceSub, Int.reduceEq, Int.le_refl, Int.lt_irrefl]
    rw [Int.zero_add]
    exact hS
theorem w3_mx3 {a b : Int} (h1 : -2147483648 ≤ a) (h2 : a < 2147483648) (h3 : -2147483648 ≤ b) (h4 : b < 2147483648) : (if w3 a < w3 b then w3 b else w3 a) = w3 (max a b) := by
  by_cases h : a < b
  · rw [if_pos (by rw [w3_lt h1 h2 h3 h4]; exact h), show max a b = b by omega]
  · rw [if_neg (by rw [w3_lt h1 h2 h3 h4]; exact h), show max a b = a by omega]
def dee (M : cm_M) (t : Nat) : Int := max (max (meas (fl M (t + 2)) 2) (meas (fl M (t + 4)) 2)) (meas (fl M (t + 6)) 2)
def b1f (F : Fl) : Int := match F with
  | none => 0
  | some _ => 1
def prs (M : cm_M) (t : Nat) : Int := b1f (fl M (t + 2)) + 2 * b1f (fl M (t + 4)) + 4 * b1f (fl M (t + 6))
theorem b1f_sz {M : cm_M} {a : Nat} : b1f (fl M a) = if 0 ≤ sz M a then 1 else 0 := by
  unfold fl flm
  by_cases h : sz M a < 0
  · rw [if_pos h, if_neg (by omega)]; rfl
  · rw [if_neg h, if_pos (by omega)]; rfl
def SX5_deepest : cm_CT := fun as T M Φ => match as with
  | [.ref t] => TrG T M t ∧ Φ (some (.int (w3 (dee M t)))) T M
  | _ => False
def JX5_deepest : cm_J := (5, false, 1, [], [(39, 2, 0, 0, 0, SX5_measure), (43, 2, 0, 0, 0, SJ9_max_7cf53)], [])
theorem jX5_deepest : JX5_deepest.1 = 5 ∧ JX5_deepest.2.1 = false ∧ JX5_deepest.2.2.1 = 1 ∧ cm_gs JX5_deepest 39 = some (2, 0, 0, 0, SX5_measure) ∧ cm_gs JX5_deepest 43 = some (2, 0, 0, 0, SJ9_max_7cf53) := ⟨rfl, rfl, rfl, rfl, rfl⟩
theorem eX5_deepest (d : Nat) (hd : 3 ≤ d) : cm_Cok d JX5_deepest := ⟨(fun q h => by cases h), (List.forall_mem_cons.mpr ⟨q5_39 (mX5_measure (d - 1) (by omega)) (by omega), (List.forall_mem_cons.mpr ⟨(cm_calMx (cm_w 461 (by decide +kernel) rfl)), (fun q h => by cases h)⟩)⟩), (fun q h => by cases h)⟩
set_option maxHeartbeats 4000000 in
theorem mX5_deepest (d : Nat) (hd : 3 ≤ d) : cm_Met d yX5_deepest cX5_deepest 3 (some .int) 0 0 SX5_deepest := by
  refine cm_meets (J := JX5_deepest) (by decide) rfl (fun h => by cases h) trivial ?_
  intro as T M Φ hS
  match as, hS with
  | [.ref t], ⟨hg, hS⟩ =>
    refine ⟨Nat.le_of_ble_eq_true rfl, ?_⟩
    obtain ⟨⟨h1, h2, h3, h4, ⟨a1, a2, a3⟩, ⟨b1, b2, b3⟩, ⟨c1, c2, c3⟩, ⟨d1, d2, d3⟩, e1, e2, e3⟩, s1, s2, s3⟩ := id hg
    obtain ⟨⟨g1, p1⟩, ⟨g2, p2⟩, ⟨g3, p3⟩⟩ := hg.sg
    have m1 := meas_bd g1 2
    have m2 := meas_bd g2 2
    have m3 := meas_bd g3 2
    have q1 : max 0 (meas (fl M (t + 2)) 2) = meas (fl M (t + 2)) 2 := by omega
    refine cm_go [] 400 oX5_deepest (eX5_deepest d hd) lX5_deepest_0 ?_
    simp (disch := omega) only [jX5_deepest, kzX5_deepest_0, fl_5_11, SX5_measure, SJ9_max_7cf53, w3_mx, w3_mx3, q1, g1, g2, g3, h1, h2, h3, h4, a1, a2, a3, b1, b2, b3, cn_iconst, cn_lconst0, cn_lconst1, cn_null, cn_iload, cn_aload, cn_lload, cn_lo1, cn_loa1, cn_loa2, cn_lol1, cn_get0, cn_gets, cn_put0, cn_puts, cn_istore, cn_astore, cn_astoreN, cn_lstore, cn_iinc, cn_in1, cn_iadd, cn_isub, cn_imul, cn_iand, cn_ior, cn_ixor, cn_ishl, cn_ishr, cn_iushr, cn_idiv, cn_irem, cn_ladd, cn_lmul, cn_ldiv, cn_lrem, cn_i2l, cn_l2i, cn_i2b, cn_lcmp, cn_dupi, cn_dupr, cn_dup2, cn_popi, cn_popr, cn_goto, cn_if_eq, cn_if_ne, cn_if_lt, cn_if_ge, cn_if_gt, cn_if_le, cn_ic_eq, cn_ic_ne, cn_ic_lt, cn_ic_ge, cn_ic_gt, cn_ic_le, cn_ifnullN, cn_ifnullR, cn_ifnonnullN, cn_ifnonnullR, cn_tswS, cn_tsw0, cn_tsw1, cn_lswS, cn_lsw0, cn_lsw1, cn_alen, cn_iaload, cn_laload, cn_rr1, cn_rr0, cn_aaload, cn_iastore, cn_lastore, cn_aastore, cn_getfield, cn_gf0, cn_gf1, cn_gf2, cn_gf3, cn_putfield, cn_pf0f, cn_pf1f, cn_pf2f, cn_pf3f, cn_pf0t, cn_pf1t, cn_pf2t, cn_pf3t, cn_new, cn_nw1, cn_newi, cn_newl, cn_anew, cn_an1, cn_inv_v, cn_inv_s, cn_inv_p, cn_ca1, cn_cb1, cn_pop0, cn_pops, cn_rk0, cn_rk1, cn_kcn, cn_kcs, cn_ireturn, cn_lreturn, cn_areturn, cn_return, cn_re0, cn_re1, cn_re2, cn_re3, cn_re4, cn_re5, cn_wp0, cn_wps, cn_m0, cn_m1, cn_e0, cn_en, cn_ei, cn_er, cn_eu, cn_el, cn_nl0, cn_nls, cn_nb0, cn_nb1, cn_nb2, cn_nb3, cn_bd0, cn_bds, cn_cwi, cn_cwr, cn_cwl, cn_cwn, cn_wi2, cn_wl1, cn_wl3, cn_wr1, cn_wr2, cn_wi_eq, cn_wl_eq, cb_0, cb_n0, cb_b, cm_okb0, cm_okb1, Classical.not_not, true_and, and_true, Nat.reduceAdd, Nat.reduceSub, Nat.reduceLT, Nat.reduceLeDiff, Int.reduceToNat, Int.reduceNatCast', Nat.zero_le, Nat.reduceEqDiff, false_or, or_false, or_true, true_or, Int.reduceNeg, reduceCtorEq, false_implies, implies_true, forall_const, true_implies, not_true_eq_false, not_false_eq_true, Nat.le_refl, ne_eq, if_true, if_false, ite_true, ite_false, List.cons_append, List.nil_append, w3_add, w3_sub, w3_le, w3_lt, w3_eq, w3_toInt, w3_ix, Int.reduceLE, Int.reduceLT, Int.reduceAdd, Int.reduceSub, Int.reduceEq, Int.le_refl, Int.lt_irrefl]
    exact hS
def SX5_present : cm_CT := fun as T M Φ => match as with
  | [.ref t] => TrG T M t ∧ Φ (some (.int (w3 (prs M t)))) T M
  | _ => False
def JX5_present : cm_J := (5, false, 1, [(35, 1, 5, 0, 0, SX4_isThere)], [], [])
theorem jX5_present : JX5_present.1 = 5 ∧ JX5_present.2.1 = false ∧ JX5_present.2.2.1 = 1 ∧ cm_gv JX5_present 35 = some (1, 5, 0, 0, SX4_isThere) := ⟨rfl, rfl, rfl, rfl⟩
theorem eX5_present (d : Nat) (hd : 1 ≤ d) : cm_Cok d JX5_present := ⟨(List.forall_mem_cons.mpr ⟨q5_35 (mX4_isThere (d - 1) (by omega)) (by omega), (fun q h => by cases h)⟩), (fun q h => by cases h), (fun q h => by cases h)⟩
set_option maxHeartbeats 4000000 in
theorem mX5_present (d : Nat) (hd : 1 ≤ d) : cm_Met d yX5_present cX5_present 3 (some .int) 0 0 SX5_present := by
  refine cm_meets (J := JX5_present) (by decide) rfl (fun h => by cases h) trivial ?_
  intro as T M Φ hS
  match as, hS with
  | [.ref t], ⟨hg, hS⟩ =>
    refine ⟨Nat.le_of_ble_eq_true rfl, ?_⟩
    obtain ⟨⟨h1, h2, h3, h4, ⟨a1, a2, a3⟩, ⟨b1, b2, b3⟩, ⟨c1, c2, c3⟩, ⟨d1, d2, d3⟩, e1, e2, e3⟩, s1, s2, s3⟩ := id hg
    obtain ⟨⟨g1, p1⟩, ⟨g2, p2⟩, ⟨g3, p3⟩⟩ := hg.sg
    unfold prs at hS
    rw [b1f_sz, b1f_sz, b1f_sz] at hS
    refine cm_go [] 400 oX5_present (eX5_present d hd) lX5_present_0 ?_
    simp (disch := omega) only [jX5_present, kzX5_present_0, fl_5_11, SX4_isThere, h1, h2, h3, h4, a1, a2, a3, b1, b2, b3, cn_iconst, cn_lconst0, cn_lconst1, cn_null, cn_iload, cn_aload, cn_lload, cn_lo1, cn_loa1, cn_loa2, cn_lol1, cn_get0, cn_gets, cn_put0, cn_puts, cn_istore, cn_astore, cn_astoreN, cn_lstore, cn_iinc, cn_in1, cn_iadd, cn_isub, cn_imul, cn_iand, cn_ior, cn_ixor, cn_ishl, cn_ishr, cn_iushr, cn_idiv, cn_irem, cn_ladd, cn_lmul, cn_ldiv, cn_lrem, cn_i2l, cn_l2i, cn_i2b, cn_lcmp, cn_dupi, cn_dupr, cn_dup2, cn_popi, cn_popr, cn_goto, cn_if_eq, cn_if_ne, cn_if_lt, cn_if_ge, cn_if_gt, cn_if_le, cn_ic_eq, cn_ic_ne, cn_ic_lt, cn_ic_ge, cn_ic_gt, cn_ic_le, cn_ifnullN, cn_ifnullR, cn_ifnonnullN, cn_ifnonnullR, cn_tswS, cn_tsw0, cn_tsw1, cn_lswS, cn_lsw0, cn_lsw1, cn_alen, cn_iaload, cn_laload, cn_rr1, cn_rr0, cn_aaload, cn_iastore, cn_lastore, cn_aastore, cn_getfield, cn_gf0, cn_gf1, cn_gf2, cn_gf3, cn_putfield, cn_pf0f, cn_pf1f, cn_pf2f, cn_pf3f, cn_pf0t, cn_pf1t, cn_pf2t, cn_pf3t, cn_new, cn_nw1, cn_newi, cn_newl, cn_anew, cn_an1, cn_inv_v, cn_inv_s, cn_inv_p, cn_ca1, cn_cb1, cn_pop0, cn_pops, cn_rk0, cn_rk1, cn_kcn, cn_kcs, cn_ireturn, cn_lreturn, cn_areturn, cn_return, cn_re0, cn_re1, cn_re2, cn_re3, cn_re4, cn_re5, cn_wp0, cn_wps, cn_m0, cn_m1, cn_e0, cn_en, cn_ei, cn_er, cn_eu, cn_el, cn_nl0, cn_nls, cn_nb0, cn_nb1, cn_nb2, cn_nb3, cn_bd0, cn_bds, cn_cwi, cn_cwr, cn_cwl, cn_cwn, cn_wi2, cn_wl1, cn_wl3, cn_wr1, cn_wr2, cn_wi_eq, cn_wl_eq, cb_0, cb_n0, cb_b, cm_okb0, cm_okb1, Classical.not_not, true_and, and_true, Nat.reduceAdd, Nat.reduceSub, Nat.reduceLT, Nat.reduceLeDiff, Int.reduceToNat, Int.reduceNatCast', Nat.zero_le, Nat.reduceEqDiff, false_or, or_false, or_true, true_or, Int.reduceNeg, reduceCtorEq, false_implies, implies_true, forall_const, true_implies, not_true_eq_false, not_false_eq_true, Nat.le_refl, ne_eq, if_true, if_false, ite_true, ite_false, List.cons_append, List.nil_append, w3_add, w3_sub, w3_le, w3_lt, w3_eq, w3_toInt, w3_ix, Int.reduceLE, Int.reduceLT, Int.reduceAdd, Int.reduceSub, Int.reduceEq, Int.le_refl, Int.lt_irrefl]
    unfold sz at hS
    refine ⟨fun q1 => ⟨fun q2 => ⟨fun q3 => ?_, fun q3 => ?_⟩, fun q2 => ⟨fun q3 => ?_, fun q3 => ?_⟩⟩, fun q1 => ⟨fun q2 => ⟨fun q3 => ?_, fun q3 => ?_⟩, fun q2 => ⟨fun q3 => ?_, fun q3 => ?_⟩⟩⟩ <;> simp only [q1, q2, q3, if_true, if_false] at hS <;> exact hS
/-- whether bit k is set -/
def hb (x k : Int32) : Prop := ¬ ((x >>> (k &&& 31)) &&& w3 1 = 0)
def SX5_isTorn : cm_CT := fun as T M Φ => match as with
  | [.ref t, .int k] => T.1 t = 6 ∧ Φ (some (.int (cb (hb (M.1 t 1) k)))) T M
  | _ => False
def JX5_isTorn : cm_J := (5, false, 2, [], [], [])
theorem jX5_isTorn : JX5_isTorn.1 = 5 ∧ JX5_isTorn.2.1 = false ∧ JX5_isTorn.2.2.1 = 2 := ⟨rfl, rfl, rfl⟩
theorem eX5_isTorn (d : Nat) (hd : 0 ≤ d) : cm_Cok d JX5_isTorn := ⟨(fun q h => by cases h), (fun q h => by cases h), (fun q h => by cases h)⟩
set_option maxHeartbeats 4000000 in
theorem mX5_isTorn (d : Nat) (hd : 0 ≤ d) : cm_Met d yX5_isTorn cX5_isTorn 2 (some .boolean) 0 0 SX5_isTorn := by
  refine cm_meets (J := JX5_isTorn) (by decide) rfl (fun h => by cases h) trivial ?_
  intro as T M Φ hS
  match as, hS with
  | [.ref t, .int k], ⟨h1, hS⟩ =>
    refine ⟨Nat.le_of_ble_eq_true rfl, ?_⟩
    refine cm_go hX5_isTorn 200 oX5_isTorn (eX5_isTorn d hd) lX5_isTorn_0 ?_
    simp only [jX5_isTorn, kX5_isTorn_0, fl_5_17, h1, cn_iconst, cn_lconst0, cn_lconst1, cn_null, cn_iload, cn_aload, cn_lload, cn_lo1, cn_loa1, cn_loa2, cn_lol1, cn_get0, cn_gets, cn_put0, cn_puts, cn_istore, cn_astore, cn_astoreN, cn_lstore, cn_iinc, cn_in1, cn_iadd, cn_isub, cn_imul, cn_iand, cn_ior, cn_ixor, cn_ishl, cn_ishr, cn_iushr, cn_idiv, cn_irem, cn_ladd, cn_lmul, cn_ldiv, cn_lrem, cn_i2l, cn_l2i, cn_i2b, cn_lcmp, cn_dupi, cn_dupr, cn_dup2, cn_popi, cn_popr, cn_goto, cn_if_eq, cn_if_ne, cn_if_lt, cn_if_ge, cn_if_gt, cn_if_le, cn_ic_eq, cn_ic_ne, cn_ic_lt, cn_ic_ge, cn_ic_gt, cn_ic_le, cn_ifnullN, cn_ifnullR, cn_ifnonnullN, cn_ifnonnullR, cn_tswS, cn_tsw0, cn_tsw1, cn_lswS, cn_lsw0, cn_lsw1, cn_alen, cn_iaload, cn_laload, cn_rr1, cn_rr0, cn_aaload, cn_iastore, cn_lastore, cn_aastore, cn_getfield, cn_gf0, cn_gf1, cn_gf2, cn_gf3, cn_putfield, cn_pf0f, cn_pf1f, cn_pf2f, cn_pf3f, cn_pf0t, cn_pf1t, cn_pf2t, cn_pf3t, cn_new, cn_nw1, cn_newi, cn_newl, cn_anew, cn_an1, cn_inv_v, cn_inv_s, cn_inv_p, cn_ca1, cn_cb1, cn_pop0, cn_pops, cn_rk0, cn_rk1, cn_kcn, cn_kcs, cn_ireturn, cn_lreturn, cn_areturn, cn_return, cn_re0, cn_re1, cn_re2, cn_re3, cn_re4, cn_re5, cn_wp0, cn_wps, cn_m0, cn_m1, cn_e0, cn_en, cn_ei, cn_er, cn_eu, cn_el, cn_nl0, cn_nls, cn_nb0, cn_nb1, cn_nb2, cn_nb3, cn_bd0, cn_bds, cn_cwi, cn_cwr, cn_cwl, cn_cwn, cn_wi2, cn_wl1, cn_wl3, cn_wr1, cn_wr2, cn_wi_eq, cn_wl_eq, cb_0, cb_n0, cb_b, cm_okb0, cm_okb1, Classical.not_not, true_and, and_true, Nat.reduceAdd, Nat.reduceSub, Nat.reduceLT, Nat.reduceLeDiff, Int.reduceToNat, Int.reduceNatCast', Nat.zero_le, Nat.reduceEqDiff, false_or, or_false, or_true, true_or, Int.reduceNeg, reduceCtorEq, false_implies, implies_true, forall_const, true_implies, not_true_eq_false, not_false_eq_true, Nat.le_refl, ne_eq, if_true, if_false, ite_true, ite_false, List.cons_append, List.nil_append]
    exact ⟨fun h => by rw [cb_f (P := hb (M.1 t 1) k) (fun q => q h)] at hS; exact hS, fun h => by rw [cb_t (P := hb (M.1 t 1) k) h] at hS; exact hS⟩
def SX5_isLike : cm_CT := fun as T M Φ => match as with
  | [.ref t, .ref u] => TrG T M t ∧ TrG T M u ∧ Φ (some (.int (cb ((fl M (t + 2) = fl M (u + 2) ∧ fl M (t + 4) = fl M (u + 4) ∧ fl M (t + 6) = fl M (u + 6)) ∧ M.1 t 1 = M.1 u 1)))) T M
  | _ => False
def JX5_isLike : cm_J := (5, false, 2, [(31, 2, 5, 0, 0, SX4_isLike)], [], [])
theorem jX5_isLike : JX5_isLike.1 = 5 ∧ JX5_isLike.2.1 = false ∧ JX5_isLike.2.2.1 = 2 ∧ cm_gv JX5_isLike 31 = some (2, 5, 0, 0, SX4_isLike) := ⟨rfl, rfl, rfl, rfl⟩
theorem eX5_isLike (d : Nat) (hd : 1 ≤ d) : cm_Cok d JX5_isLike := ⟨(List.forall_mem_cons.mpr ⟨q5_31 (mX4_isLike (d - 1) (by omega)) (by omega), (fun q h => by cases h)⟩), (fun q h => by cases h), (fun q h => by cases h)⟩
set_option maxHeartbeats 4000000 in
theorem mX5_isLike (d : Nat) (hd : 1 ≤ d) : cm_Met d yX5_isLike cX5_isLike 3 (some .boolean) 0 0 SX5_isLike := by
  refine cm_meets (J := JX5_isLike) (by decide) rfl (fun h => by cases h) trivial ?_
  intro as T M Φ hS
  match as, hS with
  | [.ref t, .ref u], ⟨hg, hu, hS⟩ =>
    refine ⟨Nat.le_of_ble_eq_true rfl, ?_⟩
    obtain ⟨⟨h1, h2, h3, h4, ⟨a1, a2, a3⟩, ⟨b1, b2, b3⟩, ⟨c1, c2, c3⟩, ⟨d1, d2, d3⟩, e1, e2, e3⟩, s1, s2, s3⟩ := id hg
    obtain ⟨⟨g1, p1⟩, ⟨g2, p2⟩, ⟨g3, p3⟩⟩ := hg.sg
    obtain ⟨⟨y1, y2, y3, y4, ⟨i1, i2, i3⟩, ⟨j1, j2, j3⟩, ⟨k1, k2, k3⟩, ⟨l1, l2, l3⟩, n1, n2, n3⟩, t1, t2, t3⟩ := id hu
    obtain ⟨⟨u1, r1⟩, ⟨u2, r2⟩, ⟨u3, r3⟩⟩ := hu.sg
    refine cm_go [] 400 oX5_isLike (eX5_isLike d hd) lX5_isLike_0 ?_
    simp (disch := omega) only [jX5_isLike, kzX5_isLike_0, fl_5_11, fl_5_17, SX4_isLike, g1, g2, g3, u1, u2, u3, h1, h2, h3, h4, a1, a2, a3, b1, b2, b3, y1, y2, y3, y4, i1, i2, i3, j1, j2, j3, cn_iconst, cn_lconst0, cn_lconst1, cn_null, cn_iload, cn_aload, cn_lload, cn_lo1, cn_loa1, cn_loa2, cn_lol1, cn_get0, cn_gets, cn_put0, cn_puts, cn_istore, cn_astore, cn_astoreN, cn_lstore, cn_iinc, cn_in1, cn_iadd, cn_isub, cn_imul, cn_iand, cn_ior, cn_ixor, cn_ishl, cn_ishr, cn_iushr, cn_idiv, cn_irem, cn_ladd, cn_lmul, cn_ldiv, cn_lrem, cn_i2l, cn_l2i, cn_i2b, cn_lcmp, cn_dupi, cn_dupr, cn_dup2, cn_popi, cn_popr, cn_goto, cn_if_eq, cn_if_ne, cn_if_lt, cn_if_ge, cn_if_gt, cn_if_le, cn_ic_eq, cn_ic_ne, cn_ic_lt, cn_ic_ge, cn_ic_gt, cn_ic_le, cn_ifnullN, cn_ifnullR, cn_ifnonnullN, cn_ifnonnullR, cn_tswS, cn_tsw0, cn_tsw1, cn_lswS, cn_lsw0, cn_lsw1, cn_alen, cn_iaload, cn_laload, cn_rr1, cn_rr0, cn_aaload, cn_iastore, cn_lastore, cn_aastore, cn_getfield, cn_gf0, cn_gf1, cn_gf2, cn_gf3, cn_putfield, cn_pf0f, cn_pf1f, cn_pf2f, cn_pf3f, cn_pf0t, cn_pf1t, cn_pf2t, cn_pf3t, cn_new, cn_nw1, cn_newi, cn_newl, cn_anew, cn_an1, cn_inv_v, cn_inv_s, cn_inv_p, cn_ca1, cn_cb1, cn_pop0, cn_pops, cn_rk0, cn_rk1, cn_kcn, cn_kcs, cn_ireturn, cn_lreturn, cn_areturn, cn_return, cn_re0, cn_re1, cn_re2, cn_re3, cn_re4, cn_re5, cn_wp0, cn_wps, cn_m0, cn_m1, cn_e0, cn_en, cn_ei, cn_er, cn_eu, cn_el, cn_nl0, cn_nls, cn_nb0, cn_nb1, cn_nb2, cn_nb3, cn_bd0, cn_bds, cn_cwi, cn_cwr, cn_cwl, cn_cwn, cn_wi2, cn_wl1, cn_wl3, cn_wr1, cn_wr2, cn_wi_eq, cn_wl_eq, cb_0, cb_n0, cb_b, cm_okb0, cm_okb1, Classical.not_not, true_and, and_true, Nat.reduceAdd, Nat.reduceSub, Nat.reduceLT, Nat.reduceLeDiff, Int.reduceToNat, Int.reduceNatCast', Nat.zero_le, Nat.reduceEqDiff, false_or, or_false, or_true, true_or, Int.reduceNeg, reduceCtorEq, false_implies, implies_true, forall_const, true_implies, not_true_eq_false, not_false_eq_true, Nat.le_refl, ne_eq, if_true, if_false, ite_true, ite_false, List.cons_append, List.nil_append, w3_add, w3_sub, w3_le, w3_lt, w3_eq, w3_toInt, w3_ix, Int.reduceLE, Int.reduceLT, Int.reduceAdd, Int.reduceSub, Int.reduceEq, Int.le_refl, Int.lt_irrefl]
    refine ⟨fun q1 => ⟨fun q2 => ⟨fun q3 => ⟨fun q4 => ?_, fun q4 => ?_⟩, fun q3 => ?_⟩, fun q2 => ?_⟩, fun q1 => ?_⟩
    · rw [cb_f (fun q => q4 q.2)] at hS; exact hS
    · rw [cb_t ⟨⟨q1, q2, q3⟩, q4⟩] at hS; exact hS
    · rw [cb_f (fun q => q3 q.1.2.2)] at hS; exact hS
    · rw [cb_f (fun q => q2 q.1.2.1)] at hS; exact hS
    · rw [cb_f (fun q => q1 q.1.1)] at hS; exact hS
/-- nothing but the cells lo .. lo + n - 1 has changed -/
def Fr (M M' : cm_M) (lo n : Nat) : Prop := (∀ q : Nat, q < lo ∨ lo + n ≤ q → M'.1 q = M.1 q) ∧ M'.2 = M.2
theorem Fr.rf {M : cm_M} {lo n : Nat} : Fr M M lo n := ⟨fun _ _ => rfl, rfl⟩
theorem Fr.trans {M M1 M2 : cm_M} {lo n : Nat} (h : Fr M M1 lo n) (g : Fr M1 M2 lo n) : Fr M M2 lo n := ⟨fun q hq => (g.1 q hq).trans (h.1 q hq), g.2.trans h.2⟩
theorem Fr.wide {M M1 : cm_M} {lo n lo' n' : Nat} (h : Fr M M1 lo n) (h1 : lo' ≤ lo) (h2 : lo + n ≤ lo' + n') : Fr M M1 lo' n' := ⟨fun q hq => h.1 q (by omega), h.2⟩
theorem Fr.wi {M : cm_M} {a lo n : Nat} {k : Int} {v : Int32} (h1 : lo ≤ a) (h2 : a < lo + n) : Fr M (cm_wi M a k v) lo n := ⟨fun q hq => funext fun j => cn_wi_ne (Or.inl (by omega)), rfl⟩
theorem Fr.row {M : cm_M} {a lo n : Nat} {z : Int} {f : Int → Int32} (h1 : lo ≤ a) (h2 : a < lo + n) (h3 : lo ≤ pl M a) (h4 : pl M a < lo + n) : Fr M (mRow M a z f) lo n := ⟨fun q hq => funext fun j => mRow_ne (Or.inl (by omega)) (Or.inl (by omega)), rfl⟩
theorem Fr.plq {M M' : cm_M} {lo n a : Nat} (h : Fr M M' lo n) : pl M' a = pl M a := by unfold pl; rw [h.2]
theorem Fr.szq {M M' : cm_M} {lo n a : Nat} (h : Fr M M' lo n) (ha : a < lo ∨ lo + n ≤ a) : sz M' a = sz M a := by unfold sz; rw [h.1 a ha]
theorem Fr.flq {M M' : cm_M} {lo n a : Nat} (h : Fr M M' lo n) (ha : a < lo ∨ lo + n ≤ a) (hp : pl M a < lo ∨ lo + n ≤ pl M a) : fl M' a = fl M a := fl_keep (by rw [h.2]) (by rw [h.1 a ha]) (h.1 _ hp)
theorem Fr.sgq {T : cm_T} {M M' : cm_M} {lo n a : Nat} (h : Fr M M' lo n) (ha : a < lo ∨ lo + n ≤ a) (hg : Sg T M a) : Sg T M' a := Sg_of hg (by rw [h.2]) (by rw [h.szq ha]; exact hg.2.2.2.1) (by rw [h.szq ha]; exact hg.2.2.2.2.1)
theorem Fr.trq {T : cm_T} {M M' : cm_M} {lo n t : Nat} (h : Fr M M' lo n) (ht : t + 8 ≤ lo ∨ lo + n ≤ t) (hg : TrG T M t) : TrG T M' t := by
  obtain ⟨h1, s1, s2, s3⟩ := hg
  refine ⟨by rw [h.2]; exact h1, ?_, ?_, ?_⟩
  · unfold szb; rw [h.szq (by omega)]; exact s1
  · unfold szb; rw [h.szq (by omega)]; exact s2
  · unfold szb; rw [h.szq (by omega)]; exact s3
/-- what a tree holds -/
def trv (M : cm_M) (t : Nat) : Int32 × Fl × Fl × Fl := (M.1 t 1, fl M (t + 2), fl M (t + 4), fl M (t + 6))
theorem Fr.tvq {T : cm_T} {M M' : cm_M} {lo n t : Nat} (h : Fr M M' lo n) (ht : t + 8 ≤ lo ∨ lo + n ≤ t) (hg : TrG T M t) : trv M' t = trv M t := by
  obtain ⟨⟨g1, p1⟩, ⟨g2, p2⟩, ⟨g3, p3⟩⟩ := hg.sg
  unfold trv
  rw [h.1 t (by omega), h.flq (by omega) (by rw [p1]; omega), h.flq (by omega) (by rw [p2]; omega), h.flq (by omega) (by rw [p3]; omega)]
/-- a row of a tree is made another one -/
theorem tr_row {T : cm_T} {M : cm_M} {t f : Nat} {z : Int} {g : Int → Int32} (hg : TrG T M t) (hf : f = 0 ∨ f = 1 ∨ f = 2) (h1 : -1 ≤ z) (h2 : z ≤ 40) : TrG T (mRow M (t + 2 + 2 * f) z g) t ∧ Fr M (mRow M (t + 2 + 2 * f) z g) (t + 2 + 2 * f) 2 ∧ fl (mRow M (t + 2 + 2 * f) z g) (t + 2 + 2 * f) = flm g 0 z := by
  obtain ⟨⟨g1, p1⟩, ⟨g2, p2⟩, ⟨g3, p3⟩⟩ := hg.sg
  obtain ⟨k1, s1, s2, s3⟩ := hg
  have hp : pl M (t + 2 + 2 * f) = t + 3 + 2 * f := by
    rcases hf with rfl | rfl | rfl
    · exact p1
    · exact p2
    · exact p3
  have hF : Fr M (mRow M (t + 2 + 2 * f) z g) (t + 2 + 2 * f) 2 := Fr.row (by omega) (by omega) (by omega) (by omega)
  have hz : szb (mRow M (t + 2 + 2 * f) z g) (t + 2 + 2 * f) := by unfold szb; rw [mRow_sz (by omega) (by omega)]; exact ⟨h1, h2⟩
  refine ⟨⟨k1, ?_⟩, hF, fl_row (by omega) (by omega) (by omega)⟩
  unfold szb at *
  rcases hf with rfl | rfl | rfl
  · exact ⟨hz, by rw [hF.szq (by omega)]; exact s2, by rw [hF.szq (by omega)]; exact s3⟩
  · exact ⟨by rw [hF.szq (by omega)]; exact s1, hz, by rw [hF.szq (by omega)]; exact s3⟩
  · exact ⟨by rw [hF.szq (by omega)]; exact s1, by rw [hF.szq (by omega)]; exact s2, hz⟩
theorem tr_torn {T : cm_T} {M : cm_M} {t : Nat} {v : Int32} (hg : TrG T M t) : TrG T (cm_wi M t 1 v) t ∧ Fr M (cm_wi M t 1 v) t 1 ∧ (cm_wi M t 1 v).1 t 1 = v := by
  have hF : Fr M (cm_wi M t 1 v) t 1 := Fr.wi (by omega) (by omega)
  obtain ⟨k1, s1, s2, s3⟩ := hg
  unfold szb at *
  exact ⟨⟨k1, by unfold szb; rw [hF.szq (by omega)]; exact s1, by unfold szb; rw [hF.szq (by omega)]; exact s2, by unfold szb; rw [hF.szq (by omega)]; exact s3⟩, hF, cn_wi_eq⟩
theorem bc_tr {T : cm_T} {M : cm_M} {t u f : Nat} {K : Option Value → cm_T → cm_M → Prop} (hg : TrG T M t) (hu : TrG T M u) (h8 : t + 8 ≤ u ∨ u + 8 ≤ t) (hf : f = 0 ∨ f = 1 ∨ f = 2)
    (hK : ∀ M1, Fr M M1 (t + 2 + 2 * f) 2 → TrG T M1 t → TrG T M1 u → fl M1 (t + 2 + 2 * f) = fl M (u + 2 + 2 * f) → K none T M1) : SX4_become [.ref (t + 2 + 2 * f), .ref (u + 2 + 2 * f)] T M K := by
  obtain ⟨⟨g1, p1⟩, ⟨g2, p2⟩, ⟨g3, p3⟩⟩ := hg.sg
  obtain ⟨⟨u1, r1⟩, ⟨u2, r2⟩, ⟨u3, r3⟩⟩ := hu.sg
  obtain ⟨k1, s1, s2, s3⟩ := id hg
  obtain ⟨l1, t1, t2, t3⟩ := id hu
  obtain ⟨-, -, -, -, -, -, -, -, e1, e2, e3⟩ := k1
  have a1 : Sg T M (t + 2 + 2 * f) ∧ Sg T M (u + 2 + 2 * f) ∧ szb M (u + 2 + 2 * f) ∧ (T.2.1 (pl M (t + 2 + 2 * f)) : Int) = 40 := by
    rcases hf with rfl | rfl | rfl
    · exact ⟨g1, u1, t1, by rw [p1, e1]; rfl⟩
    · exact ⟨g2, u2, t2, by rw [p2, e2]; rfl⟩
    · exact ⟨g3, u3, t3, by rw [p3, e3]; rfl⟩
  obtain ⟨a1, a2, a3, a4⟩ := a1
  obtain ⟨q1, q2, q3⟩ := tr_row (z := sz M (u + 2 + 2 * f)) (g := M.1 (pl M (u + 2 + 2 * f))) hg hf a3.1 a3.2
  exact ⟨a1, a2, by rw [a4]; exact a3.2, hK _ q2 q1 (q2.trq (by omega) hu) q3⟩
def SX5_become : cm_CT := fun as T M Φ => match as with
  | [.ref t, .ref u] => TrG T M t ∧ TrG T M u ∧ dj t u ∧ ∀ M1, Fr M M1 t 8 → TrG T M1 t → trv M1 t = trv M u → Φ none T M1
  | _ => False
def JX5_become : cm_J := (5, false, 0, [(27, 2, 5, 0, 0, SX4_become)], [], [])
theorem jX5_become : JX5_become.1 = 5 ∧ JX5_become.2.1 = false ∧ JX5_become.2.2.1 = 0 ∧ cm_gv JX5_become 27 = some (2, 5, 0, 0, SX4_become) := ⟨rfl, rfl, rfl, rfl⟩
theorem eX5_become (d : Nat) (hd : 2 ≤ d) : cm_Cok d JX5_become := ⟨(List.forall_mem_cons.mpr ⟨q5_27 (mX4_become (d - 1) (by omega)) (by omega), (fun q h => by cases h)⟩), (fun q h => by cases h), (fun q h => by cases h)⟩
set_option maxHeartbeats 4000000 in
theorem mX5_become (d : Nat) (hd : 2 ≤ d) : cm_Met d yX5_become cX5_become 3 none 0 0 SX5_become := by
  refine cm_meets (J := JX5_become) (by decide) rfl (fun h => by cases h) trivial ?_
  intro as T M Φ hS
  match as, hS with
  | [.ref t, .ref u], ⟨hg, hu, hd8, hS⟩ =>
    refine ⟨Nat.le_of_ble_eq_true rfl, ?_⟩
    have hd8 : dj t u := hd8
    unfold dj at hd8
    obtain ⟨⟨h1, h2, h3, h4, ⟨a1, a2, a3⟩, ⟨b1, b2, b3⟩, ⟨c1, c2, c3⟩, ⟨d1, d2, d3⟩, e1, e2, e3⟩, s1, s2, s3⟩ := id hg
    obtain ⟨⟨g1, p1⟩, ⟨g2, p2⟩, ⟨g3, p3⟩⟩ := hg.sg
    obtain ⟨⟨y1, y2, y3, y4, ⟨i1, i2, i3⟩, ⟨j1, j2, j3⟩, ⟨k1, k2, k3⟩, ⟨l1, l2, l3⟩, n1, n2, n3⟩, t1, t2, t3⟩ := id hu
    obtain ⟨⟨u1, r1⟩, ⟨u2, r2⟩, ⟨u3, r3⟩⟩ := hu.sg
    refine cm_go [] 400 oX5_become (eX5_become d hd) lX5_become_0 ?_
    simp (disch := omega) only [jX5_become, kzX5_become_0, fl_5_17, fl_5_11, h1, h2, h3, h4, a1, a2, a3, b1, b2, b3, y1, y2, y3, y4, i1, i2, i3, j1, j2, j3, cn_iconst, cn_lconst0, cn_lconst1, cn_null, cn_iload, cn_aload, cn_lload, cn_lo1, cn_loa1, cn_loa2, cn_lol1, cn_get0, cn_gets, cn_put0, cn_puts, cn_istore, cn_astore, cn_astoreN, cn_lstore, cn_iinc, cn_in1, cn_iadd, cn_isub, cn_imul, cn_iand, cn_ior, cn_ixor, cn_ishl, cn_ishr, cn_iushr, cn_idiv, cn_irem, cn_ladd, cn_lmul, cn_ldiv, cn_lrem, cn_i2l, cn_l2i, cn_i2b, cn_lcmp, cn_dupi, cn_dupr, cn_dup2, cn_popi, cn_popr, cn_goto, cn_if_eq, cn_if_ne, cn_if_lt, cn_if_ge, cn_if_gt, cn_if_le, cn_ic_eq, cn_ic_ne, cn_ic_lt, cn_ic_ge, cn_ic_gt, cn_ic_le, cn_ifnullN, cn_ifnullR, cn_ifnonnullN, cn_ifnonnullR, cn_tswS, cn_tsw0, cn_tsw1, cn_lswS, cn_lsw0, cn_lsw1, cn_alen, cn_iaload, cn_laload, cn_rr1, cn_rr0, cn_aaload, cn_iastore, cn_lastore, cn_aastore, cn_getfield, cn_gf0, cn_gf1, cn_gf2, cn_gf3, cn_putfield, cn_pf0f, cn_pf1f, cn_pf2f, cn_pf3f, cn_pf0t, cn_pf1t, cn_pf2t, cn_pf3t, cn_new, cn_nw1, cn_newi, cn_newl, cn_anew, cn_an1, cn_inv_v, cn_inv_s, cn_inv_p, cn_ca1, cn_cb1, cn_pop0, cn_pops, cn_rk0, cn_rk1, cn_kcn, cn_kcs, cn_ireturn, cn_lreturn, cn_areturn, cn_return, cn_re0, cn_re1, cn_re2, cn_re3, cn_re4, cn_re5, cn_wp0, cn_wps, cn_m0, cn_m1, cn_e0, cn_en, cn_ei, cn_er, cn_eu, cn_el, cn_nl0, cn_nls, cn_nb0, cn_nb1, cn_nb2, cn_nb3, cn_bd0, cn_bds, cn_cwi, cn_cwr, cn_cwl, cn_cwn, cn_wi2, cn_wl1, cn_wl3, cn_wr1, cn_wr2, cn_wi_eq, cn_wl_eq, cb_0, cb_n0, cb_b, cm_okb0, cm_okb1, Classical.not_not, true_and, and_true, Nat.reduceAdd, Nat.reduceSub, Nat.reduceLT, Nat.reduceLeDiff, Int.reduceToNat, Int.reduceNatCast', Nat.zero_le, Nat.reduceEqDiff, false_or, or_false, or_true, true_or, Int.reduceNeg, reduceCtorEq, false_implies, implies_true, forall_const, true_implies, not_true_eq_false, not_false_eq_true, Nat.le_refl, ne_eq, if_true, if_false, ite_true, ite_false, List.cons_append, List.nil_append, w3_add, w3_sub, w3_le, w3_lt, w3_eq, w3_toInt, w3_ix, Int.reduceLE, Int.reduceLT, Int.reduceAdd, Int.reduceSub, Int.reduceEq, Int.le_refl, Int.lt_irrefl]
    obtain ⟨q1, q2, q3⟩ := tr_torn (v := M.1 u 1) hg
    have hu1 := q2.trq (by omega) hu
    refine bc_tr (f := 0) q1 hu1 hd8 (Or.inl rfl) (fun M1 f1 t1 v1 w1 => ?_)
    simp (disch := omega) only [jX5_become, kzX5_become_0, fl_5_17, fl_5_11, h1, h2, h3, h4, a1, a2, a3, b1, b2, b3, y1, y2, y3, y4, i1, i2, i3, j1, j2, j3, f1.2, cn_iconst, cn_lconst0, cn_lconst1, cn_null, cn_iload, cn_aload, cn_lload, cn_lo1, cn_loa1, cn_loa2, cn_lol1, cn_get0, cn_gets, cn_put0, cn_puts, cn_istore, cn_astore, cn_astoreN, cn_lstore, cn_iinc, cn_in1, cn_iadd, cn_isub, cn_imul, cn_iand, cn_ior, cn_ixor, cn_ishl, cn_ishr, cn_iushr, cn_idiv, cn_irem, cn_ladd, cn_lmul, cn_ldiv, cn_lrem, cn_i2l, cn_l2i, cn_i2b, cn_lcmp, cn_dupi, cn_dupr, cn_dup2, cn_popi, cn_popr, cn_goto, cn_if_eq, cn_if_ne, cn_if_lt, cn_if_ge, cn_if_gt, cn_if_le, cn_ic_eq, cn_ic_ne, cn_ic_lt, cn_ic_ge, cn_ic_gt, cn_ic_le, cn_ifnullN, cn_ifnullR, cn_ifnonnullN, cn_ifnonnullR, cn_tswS, cn_tsw0, cn_tsw1, cn_lswS, cn_lsw0, cn_lsw1, cn_alen, cn_iaload, cn_laload, cn_rr1, cn_rr0, cn_aaload, cn_iastore, cn_lastore, cn_aastore, cn_getfield, cn_gf0, cn_gf1, cn_gf2, cn_gf3, cn_putfield, cn_pf0f, cn_pf1f, cn_pf2f, cn_pf3f, cn_pf0t, cn_pf1t, cn_pf2t, cn_pf3t, cn_new, cn_nw1, cn_newi, cn_newl, cn_anew, cn_an1, cn_inv_v, cn_inv_s, cn_inv_p, cn_ca1, cn_cb1, cn_pop0, cn_pops, cn_rk0, cn_rk1, cn_kcn, cn_kcs, cn_ireturn, cn_lreturn, cn_areturn, cn_return, cn_re0, cn_re1, cn_re2, cn_re3, cn_re4, cn_re5, cn_wp0, cn_wps, cn_m0, cn_m1, cn_e0, cn_en, cn_ei, cn_er, cn_eu, cn_el, cn_nl0, cn_nls, cn_nb0, cn_nb1, cn_nb2, cn_nb3, cn_bd0, cn_bds, cn_cwi, cn_cwr, cn_cwl, cn_cwn, cn_wi2, cn_wl1, cn_wl3, cn_wr1, cn_wr2, cn_wi_eq, cn_wl_eq, cb_0, cb_n0, cb_b, cm_okb0, cm_okb1, Classical.not_not, true_and, and_true, Nat.reduceAdd, Nat.reduceSub, Nat.reduceLT, Nat.reduceLeDiff, Int.reduceToNat, Int.reduceNatCast', Nat.zero_le, Nat.reduceEqDiff, false_or, or_false, or_true, true_or, Int.reduceNeg, reduceCtorEq, false_implies, implies_true, forall_const, true_implies, not_true_eq_false, not_false_eq_true, Nat.le_refl, ne_eq, if_true, if_false, ite_true, ite_false, List.cons_append, List.nil_append, w3_add, w3_sub, w3_le, w3_lt, w3_eq, w3_toInt, w3_ix, Int.reduceLE, Int.reduceLT, Int.reduceAdd, Int.reduceSub, Int.reduceEq, Int.le_refl, Int.lt_irrefl]
    refine bc_tr (f := 1) t1 v1 hd8 (Or.inr (Or.inl rfl)) (fun M2 f2 t2 v2 w2 => ?_)
    simp (disch := omega) only [jX5_become, kzX5_become_0, fl_5_17, fl_5_11, h1, h2, h3, h4, a1, a2, a3, b1, b2, b3, y1, y2, y3, y4, i1, i2, i3, j1, j2, j3, f1.2, f2.2, cn_iconst, cn_lconst0, cn_lconst1, cn_null, cn_iload, cn_aload, cn_lload, cn_lo1, cn_loa1, cn_loa2, cn_lol1, cn_get0, cn_gets, cn_put0, cn_puts, cn_istore, cn_astore, cn_astoreN, cn_lstore, cn_iinc, cn_in1, cn_iadd, cn_isub, cn_imul, cn_iand, cn_ior, cn_ixor, cn_ishl, cn_ishr, cn_iushr, cn_idiv, cn_irem, cn_ladd, cn_lmul, cn_ldiv, cn_lrem, cn_i2l, cn_l2i, cn_i2b, cn_lcmp, cn_dupi, cn_dupr, cn_dup2, cn_popi, cn_popr, cn_goto, cn_if_eq, cn_if_ne, cn_if_lt, cn_if_ge, cn_if_gt, cn_if_le, cn_ic_eq, cn_ic_ne, cn_ic_lt, cn_ic_ge, cn_ic_gt, cn_ic_le, cn_ifnullN, cn_ifnullR, cn_ifnonnullN, cn_ifnonnullR, cn_tswS, cn_tsw0, cn_tsw1, cn_lswS, cn_lsw0, cn_lsw1, cn_alen, cn_iaload, cn_laload, cn_rr1, cn_rr0, cn_aaload, cn_iastore, cn_lastore, cn_aastore, cn_getfield, cn_gf0, cn_gf1, cn_gf2, cn_gf3, cn_putfield, cn_pf0f, cn_pf1f, cn_pf2f, cn_pf3f, cn_pf0t, cn_pf1t, cn_pf2t, cn_pf3t, cn_new, cn_nw1, cn_newi, cn_newl, cn_anew, cn_an1, cn_inv_v, cn_inv_s, cn_inv_p, cn_ca1, cn_cb1, cn_pop0, cn_pops, cn_rk0, cn_rk1, cn_kcn, cn_kcs, cn_ireturn, cn_lreturn, cn_areturn, cn_return, cn_re0, cn_re1, cn_re2, cn_re3, cn_re4, cn_re5, cn_wp0, cn_wps, cn_m0, cn_m1, cn_e0, cn_en, cn_ei, cn_er, cn_eu, cn_el, cn_nl0, cn_nls, cn_nb0, cn_nb1, cn_nb2, cn_nb3, cn_bd0, cn_bds, cn_cwi, cn_cwr, cn_cwl, cn_cwn, cn_wi2, cn_wl1, cn_wl3, cn_wr1, cn_wr2, cn_wi_eq, cn_wl_eq, cb_0, cb_n0, cb_b, cm_okb0, cm_okb1, Classical.not_not, true_and, and_true, Nat.reduceAdd, Nat.reduceSub, Nat.reduceLT, Nat.reduceLeDiff, Int.reduceToNat, Int.reduceNatCast', Nat.zero_le, Nat.reduceEqDiff, false_or, or_false, or_true, true_or, Int.reduceNeg, reduceCtorEq, false_implies, implies_true, forall_const, true_implies, not_true_eq_false, not_false_eq_true, Nat.le_refl, ne_eq, if_true, if_false, ite_true, ite_false, List.cons_append, List.nil_append, w3_add, w3_sub, w3_le, w3_lt, w3_eq, w3_toInt, w3_ix, Int.reduceLE, Int.reduceLT, Int.reduceAdd, Int.reduceSub, Int.reduceEq, Int.le_refl, Int.lt_irrefl]
    refine bc_tr (f := 2) t2 v2 hd8 (Or.inr (Or.inr rfl)) (fun M3 f3 t3 v3 w3' => ?_)
    simp (disch := omega) only [jX5_become, kzX5_become_0, fl_5_17, fl_5_11, h1, h2, h3, h4, a1, a2, a3, b1, b2, b3, y1, y2, y3, y4, i1, i2, i3, j1, j2, j3, f1.2, f2.2, f3.2, cn_iconst, cn_lconst0, cn_lconst1, cn_null, cn_iload, cn_aload, cn_lload, cn_lo1, cn_loa1, cn_loa2, cn_lol1, cn_get0, cn_gets, cn_put0, cn_puts, cn_istore, cn_astore, cn_astoreN, cn_lstore, cn_iinc, cn_in1, cn_iadd, cn_isub, cn_imul, cn_iand, cn_ior, cn_ixor, cn_ishl, cn_ishr, cn_iushr, cn_idiv, cn_irem, cn_ladd, cn_lmul, cn_ldiv, cn_lrem, cn_i2l, cn_l2i, cn_i2b, cn_lcmp, cn_dupi, cn_dupr, cn_dup2, cn_popi, cn_popr, cn_goto, cn_if_eq, cn_if_ne, cn_if_lt, cn_if_ge, cn_if_gt, cn_if_le, cn_ic_eq, cn_ic_ne, cn_ic_lt, cn_ic_ge, cn_ic_gt, cn_ic_le, cn_ifnullN, cn_ifnullR, cn_ifnonnullN, cn_ifnonnullR, cn_tswS, cn_tsw0, cn_tsw1, cn_lswS, cn_lsw0, cn_lsw1, cn_alen, cn_iaload, cn_laload, cn_rr1, cn_rr0, cn_aaload, cn_iastore, cn_lastore, cn_aastore, cn_getfield, cn_gf0, cn_gf1, cn_gf2, cn_gf3, cn_putfield, cn_pf0f, cn_pf1f, cn_pf2f, cn_pf3f, cn_pf0t, cn_pf1t, cn_pf2t, cn_pf3t, cn_new, cn_nw1, cn_newi, cn_newl, cn_anew, cn_an1, cn_inv_v, cn_inv_s, cn_inv_p, cn_ca1, cn_cb1, cn_pop0, cn_pops, cn_rk0, cn_rk1, cn_kcn, cn_kcs, cn_ireturn, cn_lreturn, cn_areturn, cn_return, cn_re0, cn_re1, cn_re2, cn_re3, cn_re4, cn_re5, cn_wp0, cn_wps, cn_m0, cn_m1, cn_e0, cn_en, cn_ei, cn_er, cn_eu, cn_el, cn_nl0, cn_nls, cn_nb0, cn_nb1, cn_nb2, cn_nb3, cn_bd0, cn_bds, cn_cwi, cn_cwr, cn_cwl, cn_cwn, cn_wi2, cn_wl1, cn_wl3, cn_wr1, cn_wr2, cn_wi_eq, cn_wl_eq, cb_0, cb_n0, cb_b, cm_okb0, cm_okb1, Classical.not_not, true_and, and_true, Nat.reduceAdd, Nat.reduceSub, Nat.reduceLT, Nat.reduceLeDiff, Int.reduceToNat, Int.reduceNatCast', Nat.zero_le, Nat.reduceEqDiff, false_or, or_false, or_true, true_or, Int.reduceNeg, reduceCtorEq, false_implies, implies_true, forall_const, true_implies, not_true_eq_false, not_false_eq_true, Nat.le_refl, ne_eq, if_true, if_false, ite_true, ite_false, List.cons_append, List.nil_append, w3_add, w3_sub, w3_le, w3_lt, w3_eq, w3_toInt, w3_ix, Int.reduceLE, Int.reduceLT, Int.reduceAdd, Int.reduceSub, Int.reduceEq, Int.le_refl, Int.lt_irrefl]
    have F : Fr M M3 t 8 := ((q2.wide (by omega) (by omega)).trans (f1.wide (by omega) (by omega))).trans ((f2.wide (by omega) (by omega)).trans (f3.wide (by omega) (by omega)))
    refine hS M3 F t3 ?_
    unfold trv
    obtain ⟨⟨g1', p1'⟩, ⟨g2', p2'⟩, ⟨g3', p3'⟩⟩ := t1.sg
    obtain ⟨⟨g1'', p1''⟩, ⟨g2'', p2''⟩, ⟨g3'', p3''⟩⟩ := t2.sg
    refine Prod.ext ?_ (Prod.ext ?_ (Prod.ext ?_ ?_))
    · show M3.1 t 1 = M.1 u 1
      rw [f3.1 t (by omega), f2.1 t (by omega), f1.1 t (by omega)]
      exact q3
    · show fl M3 (t + 2) = fl M (u + 2)
      rw [f3.flq (by omega) (by rw [p1'']; omega), f2.flq (by omega) (by rw [p1']; omega)]
      exact w1.trans (q2.flq (by omega) (by rw [show pl M (u + 2 + 2 * 0) = u + 3 from r1]; omega))
    · show fl M3 (t + 4) = fl M (u + 4)
      rw [f3.flq (by omega) (by rw [p2'']; omega)]
      refine w2.trans ?_
      have e : fl M1 (u + 4) = fl (cm_wi M t 1 (M.1 u 1)) (u + 4) := f1.flq (by omega) (by rw [show pl (cm_wi M t 1 (M.1 u 1)) (u + 4) = u + 5 from r2]; omega)
      exact e.trans (q2.flq (by omega) (by rw [r2]; omega))
    · show fl M3 (t + 6) = fl M (u + 6)
      refine w3'.trans ?_
      have e2 : fl M2 (u + 6) = fl M1 (u + 6) := f2.flq (by omega) (by rw [f1.plq, show pl (cm_wi M t 1 (M.1 u 1)) (u + 6) = u + 7 from r3]; omega)
      have e : fl M1 (u + 6) = fl (cm_wi M t 1 (M.1 u 1)) (u + 6) := f1.flq (by omega) (by rw [show pl (cm_wi M t 1 (M.1 u 1)) (u + 6) = u + 7 from r3]; omega)
      exact e2.trans (e.trans (q2.flq (by omega) (by rw [r3]; omega)))

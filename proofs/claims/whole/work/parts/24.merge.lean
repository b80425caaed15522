def TMg (T : cm_T) (R : Nat → Int → Option Nat) (g : Nat) : Prop := T.1 g = 4 ∧ (R g 0 = some (g + 1) ∧ R g 1 = some (g + 3) ∧ R g 3 = some (g + 4) ∧ R g 4 = some (g + 7) ∧ R g 5 = some (g + 10) ∧ R g 6 = some (g + 13) ∧ R g 7 = some (g + 14) ∧ R g 8 = some (g + 15)) ∧ (T.1 (g + 1) = 3 ∧ R (g + 1) 0 = some (g + 2) ∧ T.1 (g + 2) = 20 ∧ T.2.1 (g + 2) = 1681) ∧ (TLL T R (g + 4) ∧ TLL T R (g + 7) ∧ TLL T R (g + 10)) ∧ (T.1 (g + 13) = 20 ∧ T.2.1 (g + 13) = 40 ∧ T.1 (g + 14) = 20 ∧ T.2.1 (g + 14) = 40) ∧ (T.1 (g + 15) = 5 ∧ R (g + 15) 0 = some (g + 16) ∧ T.1 (g + 16) = 20 ∧ T.2.1 (g + 16) = 40)
/-- what has come to the merger's own row: O, or it is spent -/
def OutIs (M : cm_M) (g : Nat) (O : List Int32) : Prop := (O.length ≤ 40 ∧ M.1 g 9 = w3 0 ∧ M.1 (g + 15) 1 = w3 (O.length : Int) ∧ ∀ k : Nat, k < O.length → M.1 (g + 16) (k : Int) = gt O k) ∨ (40 < O.length ∧ M.1 g 9 = w3 1 ∧ 0 ≤ sz M (g + 15) ∧ sz M (g + 15) ≤ 40)
def FrO (M M1 : cm_M) (g : Nat) : Prop := (∀ q : Nat, q ≠ g → q ≠ g + 15 → q ≠ g + 16 → M1.1 q = M.1 q) ∧ (∀ k : Int, k ≠ 9 → M1.1 g k = M.1 g k) ∧ M1.2 = M.2
theorem FrO.rf {M : cm_M} {g : Nat} : FrO M M g := ⟨fun _ _ _ _ => rfl, fun _ _ => rfl, rfl⟩
theorem FrO.trans {M M1 M2 : cm_M} {g : Nat} (h : FrO M M1 g) (k : FrO M1 M2 g) : FrO M M2 g := ⟨fun q a b c => (k.1 q a b c).trans (h.1 q a b c), fun j hj => (k.2.1 j hj).trans (h.2.1 j hj), k.2.2.trans h.2.2⟩
theorem FrO.lls {T : cm_T} {M M1 : cm_M} {g a : Nat} {D : List Int32} (h : FrO M M1 g) (ha : a = g + 4 ∨ a = g + 7 ∨ a = g + 10) (hl : LLs T M a D) : LLs T M1 a D := by
  have e0 := h.1 a (by omega) (by omega) (by omega)
  have e1 := h.1 (a + 1) (by omega) (by omega) (by omega)
  have e2 := h.1 (a + 2) (by omega) (by omega) (by omega)
  refine ⟨by rw [h.2.2]; exact hl.1, ?_, hl.2.2⟩
  unfold LLp
  rw [e0, e1, e2]
  exact hl.2.1
theorem ne_15 (g : Nat) : g + 15 ≠ g + 16 := by omega
theorem ne_16 (g : Nat) : g ≠ g + 16 := by omega
def slc (c : List Int32) (p q : Nat) : List Int32 := (List.range (q - p)).map (fun k => gt c (p + k))
theorem slc_len (c : List Int32) (p q : Nat) : (slc c p q).length = q - p := by simp [slc]
theorem slc_at {c : List Int32} {p q k : Nat} (h : k < q - p) : gt (slc c p q) k = gt c (p + k) := by
  simp [gt, slc, List.getD_eq_getElem?_getD, h]
set_option maxRecDepth 100000 in
theorem kzX3_addNumber_0 : cm_cd tX3_addNumber [] 0 = some (.aload 0, 1) ∧ cm_cd tX3_addNumber [] 1 = some (.aload 0, 1) ∧ cm_cd tX3_addNumber [] 2 = some (.getfield 57, 3) ∧ cm_cd tX3_addNumber [] 5 = some (.ifCond .ne 20, 3) ∧ cm_cd tX3_addNumber [] 8 = some (.aload 0, 1) ∧ cm_cd tX3_addNumber [] 9 = some (.getfield 53, 3) ∧ cm_cd tX3_addNumber [] 12 = some (.getfield 125, 3) ∧ cm_cd tX3_addNumber [] 15 = some (.iconst 40, 2) ∧ cm_cd tX3_addNumber [] 17 = some (.if_icmp .lt 24, 3) ∧ cm_cd tX3_addNumber [] 20 = some (.iconst 1, 1) ∧ cm_cd tX3_addNumber [] 21 = some (.goto 25, 3) ∧ cm_cd tX3_addNumber [] 24 = some (.iconst 0, 1) ∧ cm_cd tX3_addNumber [] 25 = some (.putfield 57, 3) ∧ cm_cd tX3_addNumber [] 28 = some (.aload 0, 1) ∧ cm_cd tX3_addNumber [] 29 = some (.getfield 57, 3) ∧ cm_cd tX3_addNumber [] 32 = some (.ifCond .ne 64, 3) ∧ cm_cd tX3_addNumber [] 35 = some (.aload 0, 1) ∧ cm_cd tX3_addNumber [] 36 = some (.getfield 53, 3) ∧ cm_cd tX3_addNumber [] 39 = some (.getfield 126, 3) ∧ cm_cd tX3_addNumber [] 42 = some (.aload 0, 1) ∧ cm_cd tX3_addNumber [] 43 = some (.getfield 53, 3) ∧ cm_cd tX3_addNumber [] 46 = some (.getfield 125, 3) ∧ cm_cd tX3_addNumber [] 49 = some (.iload 1, 1) ∧ cm_cd tX3_addNumber [] 50 = some (.iastore, 1) ∧ cm_cd tX3_addNumber [] 51 = some (.aload 0, 1) ∧ cm_cd tX3_addNumber [] 52 = some (.getfield 53, 3) ∧ cm_cd tX3_addNumber [] 55 = some (.dup, 1) ∧ cm_cd tX3_addNumber [] 56 = some (.getfield 125, 3) ∧ cm_cd tX3_addNumber [] 59 = some (.iconst 1, 1) ∧ cm_cd tX3_addNumber [] 60 = some (.iadd, 1) ∧ cm_cd tX3_addNumber [] 61 = some (.putfield 125, 3) ∧ cm_cd tX3_addNumber [] 64 = some (.return_, 1) := ⟨rfl, rfl, rfl, rfl, rfl, rfl, rfl, rfl, rfl, rfl, rfl, rfl, rfl, rfl, rfl, rfl, rfl, rfl, rfl, rfl, rfl, rfl, rfl, rfl, rfl, rfl, rfl, rfl, rfl, rfl, rfl, rfl⟩
set_option maxRecDepth 100000 in
theorem kzX3_addRun_0 : cm_cd tX3_addRun [] 0 = some (.iload 2, 1) ∧ cm_cd tX3_addRun [] 1 = some (.ifCond .lt 17, 3) ∧ cm_cd tX3_addRun [] 4 = some (.iload 2, 1) ∧ cm_cd tX3_addRun [] 5 = some (.iload 3, 1) ∧ cm_cd tX3_addRun [] 6 = some (.if_icmp .gt 17, 3) ∧ cm_cd tX3_addRun [] 9 = some (.iload 3, 1) ∧ cm_cd tX3_addRun [] 10 = some (.aload 1, 1) ∧ cm_cd tX3_addRun [] 11 = some (.getfield 104, 3) ∧ cm_cd tX3_addRun [] 14 = some (.if_icmp .le 18, 3) ∧ cm_cd tX3_addRun [] 17 = some (.return_, 1) ∧ cm_cd tX3_addRun [] 18 = some (.aload 1, 1) ∧ cm_cd tX3_addRun [] 19 = some (.getfield 122, 3) ∧ cm_cd tX3_addRun [] 22 = some (.iload 2, 1) ∧ cm_cd tX3_addRun [] 23 = some (.iaload, 1) ∧ cm_cd tX3_addRun [] 24 = some (.istore 4, 2) ∧ cm_cd tX3_addRun [] 26 = some (.aload 1, 1) ∧ cm_cd tX3_addRun [] 27 = some (.getfield 122, 3) ∧ cm_cd tX3_addRun [] 30 = some (.iload 3, 1) ∧ cm_cd tX3_addRun [] 31 = some (.iaload, 1) ∧ cm_cd tX3_addRun [] 32 = some (.iload 4, 2) ∧ cm_cd tX3_addRun [] 34 = some (.isub, 1) ∧ cm_cd tX3_addRun [] 35 = some (.istore 5, 2) ∧ cm_cd tX3_addRun [] 37 = some (.aload 0, 1) ∧ cm_cd tX3_addRun [] 38 = some (.getfield 57, 3) ∧ cm_cd tX3_addRun [] 41 = some (.ifCond .ne 59, 3) ∧ cm_cd tX3_addRun [] 44 = some (.iload 5, 2) ∧ cm_cd tX3_addRun [] 46 = some (.iconst 40, 2) ∧ cm_cd tX3_addRun [] 48 = some (.aload 0, 1) ∧ cm_cd tX3_addRun [] 49 = some (.getfield 53, 3) ∧ cm_cd tX3_addRun [] 52 = some (.getfield 125, 3) ∧ cm_cd tX3_addRun [] 55 = some (.isub, 1) ∧ cm_cd tX3_addRun [] 56 = some (.if_icmp .le 65, 3) ∧ cm_cd tX3_addRun [] 59 = some (.aload 0, 1) ∧ cm_cd tX3_addRun [] 60 = some (.iconst 1, 1) ∧ cm_cd tX3_addRun [] 61 = some (.putfield 57, 3) ∧ cm_cd tX3_addRun [] 64 = some (.return_, 1) ∧ cm_cd tX3_addRun [] 65 = some (.iconst 0, 1) ∧ cm_cd tX3_addRun [] 66 = some (.istore 6, 2) ∧ cm_cd tX3_addRun [] 68 = some (.iload 6, 2) ∧ cm_cd tX3_addRun [] 70 = some (.iload 5, 2) ∧ cm_cd tX3_addRun [] 72 = some (.if_icmp .ge 109, 3) ∧ cm_cd tX3_addRun [] 75 = some (.aload 0, 1) ∧ cm_cd tX3_addRun [] 76 = some (.getfield 53, 3) ∧ cm_cd tX3_addRun [] 79 = some (.getfield 126, 3) ∧ cm_cd tX3_addRun [] 82 = some (.aload 0, 1) ∧ cm_cd tX3_addRun [] 83 = some (.getfield 53, 3) ∧ cm_cd tX3_addRun [] 86 = some (.getfield 125, 3) ∧ cm_cd tX3_addRun [] 89 = some (.iload 6, 2) ∧ cm_cd tX3_addRun [] 91 = some (.iadd, 1) ∧ cm_cd tX3_addRun [] 92 = some (.aload 1, 1) ∧ cm_cd tX3_addRun [] 93 = some (.getfield 129, 3) ∧ cm_cd tX3_addRun [] 96 = some (.iload 4, 2) ∧ cm_cd tX3_addRun [] 98 = some (.iload 6, 2) ∧ cm_cd tX3_addRun [] 100 = some (.iadd, 1) ∧ cm_cd tX3_addRun [] 101 = some (.iaload, 1) ∧ cm_cd tX3_addRun [] 102 = some (.iastore, 1) ∧ cm_cd tX3_addRun [] 103 = some (.iinc 6 1, 3) ∧ cm_cd tX3_addRun [] 106 = some (.goto 68, 3) ∧ cm_cd tX3_addRun [] 109 = some (.aload 0, 1) ∧ cm_cd tX3_addRun [] 110 = some (.getfield 53, 3) := ⟨rfl, rfl, rfl, rfl, rfl, rfl, rfl, rfl, rfl, rfl, rfl, rfl, rfl, rfl, rfl, rfl, rfl, rfl, rfl, rfl, rfl, rfl, rfl, rfl, rfl, rfl, rfl, rfl, rfl, rfl, rfl, rfl, rfl, rfl, rfl, rfl, rfl, rfl, rfl, rfl, rfl, rfl, rfl, rfl, rfl, rfl, rfl, rfl, rfl, rfl, rfl, rfl, rfl, rfl, rfl, rfl, rfl, rfl, rfl, rfl⟩
set_option maxRecDepth 100000 in
theorem kzX3_addRun_1 : cm_cd tX3_addRun [] 113 = some (.dup, 1) ∧ cm_cd tX3_addRun [] 114 = some (.getfield 125, 3) ∧ cm_cd tX3_addRun [] 117 = some (.iload 5, 2) ∧ cm_cd tX3_addRun [] 119 = some (.iadd, 1) ∧ cm_cd tX3_addRun [] 120 = some (.putfield 125, 3) ∧ cm_cd tX3_addRun [] 123 = some (.return_, 1) := ⟨rfl, rfl, rfl, rfl, rfl, rfl⟩
def SX3_addNumber : cm_CT := fun as T M Φ => match as with
  | [.ref g, .int v] => ∃ O : List Int32, TMg T M.2.2 g ∧ OutIs M g O ∧ ∀ M1, FrO M M1 g → OutIs M1 g (O ++ [v]) → Φ none T M1
  | _ => False
def JX3_addNumber : cm_J := (3, false, 0, [], [], [])
theorem jX3_addNumber : JX3_addNumber.1 = 3 ∧ JX3_addNumber.2.1 = false ∧ JX3_addNumber.2.2.1 = 0 := ⟨rfl, rfl, rfl⟩
theorem eX3_addNumber (d : Nat) (hd : 0 ≤ d) : cm_Cok d JX3_addNumber := ⟨(fun q h => by cases h), (fun q h => by cases h), (fun q h => by cases h)⟩
set_option maxHeartbeats 4000000 in
theorem mX3_addNumber (d : Nat) (hd : 0 ≤ d) : cm_Met d yX3_addNumber cX3_addNumber 2 none 0 0 SX3_addNumber := by
  refine cm_meets (J := JX3_addNumber) (by decide) rfl (fun h => by cases h) trivial ?_
  intro as T M Φ hS
  match as, hS with
  | [.ref g, .int v], ⟨O, hT, hO, hS⟩ =>
    refine ⟨Nat.le_of_ble_eq_true rfl, ?_⟩
    obtain ⟨t1, ⟨r0, r1, r3, r4, r5, r6, r7, r8⟩, -, -, -, ⟨u1, u2, u3, u4⟩⟩ := hT
    rcases hO with ⟨o1, o2, o3, o4⟩ | ⟨o1, o2, o3, o4⟩
    · refine cm_go hX3_addNumber 100 oX3_addNumber (eX3_addNumber d hd) lX3_addNumber_0 ?_
      simp only [jX3_addNumber, kX3_addNumber_0, fl_3_57, fl_3_53, fl_3_125, fl_3_126, t1, r8, u1, u2, u3, u4, o2, o3, cn_iconst, cn_lconst0, cn_lconst1, cn_null, cn_iload, cn_aload, cn_lload, cn_lo1, cn_loa1, cn_loa2, cn_lol1, cn_get0, cn_gets, cn_put0, cn_puts, cn_istore, cn_astore, cn_astoreN, cn_lstore, cn_iinc, cn_in1, cn_iadd, cn_isub, cn_imul, cn_iand, cn_ior, cn_ixor, cn_ishl, cn_ishr, cn_iushr, cn_idiv, cn_irem, cn_ladd, cn_lmul, cn_ldiv, cn_lrem, cn_i2l, cn_l2i, cn_i2b, cn_lcmp, cn_dupi, cn_dupr, cn_dup2, cn_popi, cn_popr, cn_goto, cn_if_eq, cn_if_ne, cn_if_lt, cn_if_ge, cn_if_gt, cn_if_le, cn_ic_eq, cn_ic_ne, cn_ic_lt, cn_ic_ge, cn_ic_gt, cn_ic_le, cn_ifnullN, cn_ifnullR, cn_ifnonnullN, cn_ifnonnullR, cn_tswS, cn_tsw0, cn_tsw1, cn_lswS, cn_lsw0, cn_lsw1, cn_alen, cn_iaload, cn_laload, cn_rr1, cn_rr0, cn_aaload, cn_iastore, cn_lastore, cn_aastore, cn_getfield, cn_gf0, cn_gf1, cn_gf2, cn_gf3, cn_putfield, cn_pf0f, cn_pf1f, cn_pf2f, cn_pf3f, cn_pf0t, cn_pf1t, cn_pf2t, cn_pf3t, cn_new, cn_nw1, cn_newi, cn_newl, cn_anew, cn_an1, cn_inv_v, cn_inv_s, cn_inv_p, cn_ca1, cn_cb1, cn_pop0, cn_pops, cn_rk0, cn_rk1, cn_kcn, cn_kcs, cn_ireturn, cn_lreturn, cn_areturn, cn_return, cn_re0, cn_re1, cn_re2, cn_re3, cn_re4, cn_re5, cn_wp0, cn_wps, cn_m0, cn_m1, cn_e0, cn_en, cn_ei, cn_er, cn_eu, cn_el, cn_nl0, cn_nls, cn_nb0, cn_nb1, cn_nb2, cn_nb3, cn_bd0, cn_bds, cn_cwi, cn_cwr, cn_cwl, cn_cwn, cn_wi2, cn_wl1, cn_wl3, cn_wr1, cn_wr2, cn_wi_eq, cn_wl_eq, cb_0, cb_n0, cb_b, cm_okb0, cm_okb1, Classical.not_not, true_and, and_true, Nat.reduceAdd, Nat.reduceSub, Nat.reduceLT, Nat.reduceLeDiff, Int.reduceToNat, Int.reduceNatCast', Nat.zero_le, Nat.reduceEqDiff, false_or, or_false, or_true, true_or, Int.reduceNeg, reduceCtorEq, false_implies, implies_true, forall_const, true_implies, not_true_eq_false, not_false_eq_true, Nat.le_refl, ne_eq, if_true, if_false, ite_true, ite_false, List.cons_append, List.nil_append]
      simp (disch := omega) only [w3_le, w3_lt, w3_eq, w3_ix, w3_add, w3_sub, w3_mul, w3_toInt, w3_z, Int.reduceEq, Int.reduceLT, Int.reduceLE, Int.reduceAdd, Int.reduceSub, Int.reduceMul, Int.le_refl, Int.lt_irrefl, not_true_eq_false, not_false_eq_true, true_implies, false_implies, implies_true, and_true, true_and, and_self, ne_eq, Classical.not_not]
      refine ⟨fun h => ?_, fun h => ?_⟩
      · have hs : (cm_wi M g 9 (w3 0)).1 (g + 15) 1 = w3 (O.length : Int) := by rw [cn_wi_ne (Or.inl (by omega)), o3]
        have hs2 : (cm_wi (cm_wi M g 9 (w3 0)) (g + 16) (O.length : Int) v).1 (g + 15) 1 = w3 (O.length : Int) := by rw [cn_wi_ne (Or.inl (by omega)), hs]
        rw [hs]
        simp (disch := omega) only [w3_toInt, w3_ix]
        rw [hs2, w3_add]
        refine ⟨⟨by omega, by omega⟩, hS _ ⟨fun q a b c => funext fun j => ?_, fun k hk => ?_, rfl⟩ (Or.inl ⟨?_, ?_, ?_, fun k hk => ?_⟩)⟩
        · rw [cn_wi_ne (Or.inl (by omega)), cn_wi_ne (Or.inl (by omega)), cn_wi_ne (Or.inl (by omega))]
        · rw [cn_wi_ne (Or.inl (by omega)), cn_wi_ne (Or.inl (by omega)), cn_wi_ne (Or.inr hk)]
        · simp only [List.length_append, List.length_cons, List.length_nil]; omega
        · rw [cn_wi_ne (Or.inl (by omega)), cn_wi_ne (Or.inl (by omega)), cn_wi_eq]
        · rw [cn_wi_eq]; congr 1; simp only [List.length_append, List.length_cons, List.length_nil]; omega
        · simp only [List.length_append, List.length_cons, List.length_nil] at hk
          rw [cn_wi_ne (Or.inl (by omega))]
          by_cases e : k = O.length
          · subst e; rw [cn_wi_eq, gt_last]
          · rw [cn_wi_ne (Or.inr (by omega)), cn_wi_ne (Or.inl (by omega)), o4 k (by omega), gt_app (by omega)]
      · refine hS _ ⟨fun q a b c => funext fun j => ?_, fun k hk => ?_, rfl⟩ (Or.inr ⟨?_, ?_, ?_, ?_⟩)
        · rw [cn_wi_ne (Or.inl (by omega))]
        · rw [cn_wi_ne (Or.inr hk)]
        · simp only [List.length_append, List.length_cons, List.length_nil]; omega
        · exact cn_wi_eq
        · rw [sz_wi (Or.inl (by omega)), sz_eq o3 (by omega) (by omega)]; omega
        · rw [sz_wi (Or.inl (by omega)), sz_eq o3 (by omega) (by omega)]; omega
    · refine cm_go hX3_addNumber 100 oX3_addNumber (eX3_addNumber d hd) lX3_addNumber_0 ?_
      simp only [jX3_addNumber, kX3_addNumber_0, fl_3_57, fl_3_53, fl_3_125, fl_3_126, t1, r8, u1, u2, u3, u4, o2, cn_iconst, cn_lconst0, cn_lconst1, cn_null, cn_iload, cn_aload, cn_lload, cn_lo1, cn_loa1, cn_loa2, cn_lol1, cn_get0, cn_gets, cn_put0, cn_puts, cn_istore, cn_astore, cn_astoreN, cn_lstore, cn_iinc, cn_in1, cn_iadd, cn_isub, cn_imul, cn_iand, cn_ior, cn_ixor, cn_ishl, cn_ishr, cn_iushr, cn_idiv, cn_irem, cn_ladd, cn_lmul, cn_ldiv, cn_lrem, cn_i2l, cn_l2i, cn_i2b, cn_lcmp, cn_dupi, cn_dupr, cn_dup2, cn_popi, cn_popr, cn_goto, cn_if_eq, cn_if_ne, cn_if_lt, cn_if_ge, cn_if_gt, cn_if_le, cn_ic_eq, cn_ic_ne, cn_ic_lt, cn_ic_ge, cn_ic_gt, cn_ic_le, cn_ifnullN, cn_ifnullR, cn_ifnonnullN, cn_ifnonnullR, cn_tswS, cn_tsw0, cn_tsw1, cn_lswS, cn_lsw0, cn_lsw1, cn_alen, cn_iaload, cn_laload, cn_rr1, cn_rr0, cn_aaload, cn_iastore, cn_lastore, cn_aastore, cn_getfield, cn_gf0, cn_gf1, cn_gf2, cn_gf3, cn_putfield, cn_pf0f, cn_pf1f, cn_pf2f, cn_pf3f, cn_pf0t, cn_pf1t, cn_pf2t, cn_pf3t, cn_new, cn_nw1, cn_newi, cn_newl, cn_anew, cn_an1, cn_inv_v, cn_inv_s, cn_inv_p, cn_ca1, cn_cb1, cn_pop0, cn_pops, cn_rk0, cn_rk1, cn_kcn, cn_kcs, cn_ireturn, cn_lreturn, cn_areturn, cn_return, cn_re0, cn_re1, cn_re2, cn_re3, cn_re4, cn_re5, cn_wp0, cn_wps, cn_m0, cn_m1, cn_e0, cn_en, cn_ei, cn_er, cn_eu, cn_el, cn_nl0, cn_nls, cn_nb0, cn_nb1, cn_nb2, cn_nb3, cn_bd0, cn_bds, cn_cwi, cn_cwr, cn_cwl, cn_cwn, cn_wi2, cn_wl1, cn_wl3, cn_wr1, cn_wr2, cn_wi_eq, cn_wl_eq, cb_0, cb_n0, cb_b, cm_okb0, cm_okb1, Classical.not_not, true_and, and_true, Nat.reduceAdd, Nat.reduceSub, Nat.reduceLT, Nat.reduceLeDiff, Int.reduceToNat, Int.reduceNatCast', Nat.zero_le, Nat.reduceEqDiff, false_or, or_false, or_true, true_or, Int.reduceNeg, reduceCtorEq, false_implies, implies_true, forall_const, true_implies, not_true_eq_false, not_false_eq_true, Nat.le_refl, ne_eq, if_true, if_false, ite_true, ite_false, List.cons_append, List.nil_append]
      simp (disch := omega) only [w3_le, w3_lt, w3_eq, w3_ix, w3_add, w3_sub, w3_mul, w3_toInt, w3_z, Int.reduceEq, Int.reduceLT, Int.reduceLE, Int.reduceAdd, Int.reduceSub, Int.reduceMul, Int.le_refl, Int.lt_irrefl, not_true_eq_false, not_false_eq_true, true_implies, false_implies, implies_true, and_true, true_and, and_self, ne_eq, Classical.not_not]
      refine hS _ ⟨fun q a b c => funext fun j => ?_, fun k hk => ?_, rfl⟩ (Or.inr ⟨?_, ?_, ?_, ?_⟩)
      · rw [cn_wi_ne (Or.inl (by omega))]
      · rw [cn_wi_ne (Or.inr hk)]
      · simp only [List.length_append, List.length_cons, List.length_nil]; omega
      · exact cn_wi_eq
      · rw [sz_wi (Or.inl (by omega))]; exact o3
      · rw [sz_wi (Or.inl (by omega))]; exact o4
def one3 (a g : Nat) : Prop := a = g + 4 ∨ a = g + 7 ∨ a = g + 10
def SX3_addRun : cm_CT := fun as T M Φ => match as with
  | [.ref g, .ref a, .int i, .int m] => ∃ (O c : List Int32) (i0 m0 : Nat), TMg T M.2.2 g ∧ one3 a g ∧ LLs T M a c ∧ i = w3 i0 ∧ m = w3 m0 ∧ i0 ≤ m0 ∧ m0 ≤ nl c ∧ OutIs M g O ∧ ∀ M1, FrO M M1 g → OutIs M1 g (O ++ slc c (stt c i0) (stt c m0)) → Φ none T M1
  | _ => False
def JX3_addRun : cm_J := (3, false, 0, [], [], [])
theorem jX3_addRun : JX3_addRun.1 = 3 ∧ JX3_addRun.2.1 = false ∧ JX3_addRun.2.2.1 = 0 := ⟨rfl, rfl, rfl⟩
theorem eX3_addRun (d : Nat) (hd : 1 ≤ d) : cm_Cok d JX3_addRun := ⟨(fun q h => by cases h), (fun q h => by cases h), (fun q h => by cases h)⟩
theorem cp_0 {M : cm_M} {a b : Nat} {s t : Int} : cm_cp M a b s t 0 = M := by
  unfold cm_cp
  refine Prod.ext (funext fun q => funext fun j => ?_) rfl
  exact if_neg (by omega)
theorem cp_2 {M : cm_M} {a b : Nat} {s t n : Int} : (cm_cp M a b s t n).2 = M.2 := Eq.trans rfl rfl
theorem cp_1 {M : cm_M} {a b : Nat} {s t n : Int} {q : Nat} (h : q ≠ b) (j : Int) : (cm_cp M a b s t n).1 q j = M.1 q j := if_neg (fun w => h w.1)
theorem cp_s {M : cm_M} {a b k : Nat} {s t : Int} : cm_wi (cm_cp M a b s t (k : Int)) b (t + (k : Int)) (M.1 a (s + (k : Int))) = cm_cp M a b s t ((k + 1 : Nat) : Int) := by
  unfold cm_cp cm_wi
  refine Prod.ext (funext fun q => funext fun j => ?_) rfl
  show (if q = b ∧ j = t + (k : Int) then M.1 a (s + (k : Int)) else if q = b ∧ t ≤ j ∧ j < t + (k : Int) then M.1 a (s + (j - t)) else M.1 q j) = if q = b ∧ t ≤ j ∧ j < t + ((k + 1 : Nat) : Int) then M.1 a (s + (j - t)) else M.1 q j
  by_cases h1 : q = b
  · by_cases h2 : j = t + (k : Int)
    · rw [if_pos ⟨h1, h2⟩, if_pos ⟨h1, by omega, by omega⟩, h2, show t + (k : Int) - t = (k : Int) by omega]
    · rw [if_neg (fun w => h2 w.2)]
      by_cases h3 : t ≤ j ∧ j < t + (k : Int)
      · rw [if_pos ⟨h1, h3⟩, if_pos ⟨h1, by omega, by omega⟩]
      · rw [if_neg (fun w => h3 w.2), if_neg (fun w => h3 (by omega))]
  · rw [if_neg (fun w => h1 w.1), if_neg (fun w => h1 w.1), if_neg (fun w => h1 w.1)]
set_option maxHeartbeats 4000000 in
theorem lX3_addRun (d : Nat) (hd : 1 ≤ d) {T : cm_T} {M : cm_M} {Φ : Option Value → cm_T → cm_M → Prop} {g a s n ol : Nat} {i m : Int32} (hT : TMg T M.2.2 g) (h3 : one3 a g) (ha : TLL T M.2.2 a) (o1 : ol + n ≤ 40) (s1 : s + n ≤ 120) (o3 : M.1 (g + 15) 1 = w3 (ol : Int)) (hS : Φ none T (cm_wi (cm_cp M (a + 1) (g + 16) (s : Int) (ol : Int) (n : Int)) (g + 15) 1 (w3 ((ol : Int) + (n : Int))))) :
    ∀ (k : Nat), k ≤ n → cm_Go d cX3_addRun 7 0 0 JX3_addRun Φ 68 [some (.ref g), some (.ref a), some (.int i), some (.int m), some (.int (w3 (s : Int))), some (.int (w3 (n : Int))), some (.int (w3 (k : Int)))] [] (0, 0) T (cm_cp M (a + 1) (g + 16) (s : Int) (ol : Int) (k : Int)) := by
  intro k
  induction hf : (n - k) using Nat.strongRecOn generalizing k with
  | _ fu ih =>
    intro k1
    unfold one3 at h3
    obtain ⟨t1, ⟨r0, r1, r3, r4, r5, r6, r7, r8⟩, -, -, -, ⟨u1, u2, u3, u4⟩⟩ := id hT
    obtain ⟨y1, y2, y3, y4, y5, y6, y7⟩ := id ha
    have hs : (cm_cp M (a + 1) (g + 16) (s : Int) (ol : Int) (k : Int)).1 (g + 15) 1 = w3 (ol : Int) := by rw [cp_1 (by omega), o3]
    refine cm_go hX3_addRun 200 oX3_addRun (eX3_addRun d hd) lX3_addRun_68 ?_
    simp only [jX3_addRun, kX3_addRun_0, kX3_addRun_1, fl_3_104, fl_3_122, fl_3_57, fl_3_53, fl_3_125, fl_3_126, fl_3_129, cp_2, t1, r8, u1, u2, u3, u4, hs, y1, y2, y3, y4, cn_iconst, cn_lconst0, cn_lconst1, cn_null, cn_iload, cn_aload, cn_lload, cn_lo1, cn_loa1, cn_loa2, cn_lol1, cn_get0, cn_gets, cn_put0, cn_puts, cn_istore, cn_astore, cn_astoreN, cn_lstore, cn_iinc, cn_in1, cn_iadd, cn_isub, cn_imul, cn_iand, cn_ior, cn_ixor, cn_ishl, cn_ishr, cn_iushr, cn_idiv, cn_irem, cn_ladd, cn_lmul, cn_ldiv, cn_lrem, cn_i2l, cn_l2i, cn_i2b, cn_lcmp, cn_dupi, cn_dupr, cn_dup2, cn_popi, cn_popr, cn_goto, cn_if_eq, cn_if_ne, cn_if_lt, cn_if_ge, cn_if_gt, cn_if_le, cn_ic_eq, cn_ic_ne, cn_ic_lt, cn_ic_ge, cn_ic_gt, cn_ic_le, cn_ifnullN, cn_ifnullR, cn_ifnonnullN, cn_ifnonnullR, cn_tswS, cn_tsw0, cn_tsw1, cn_lswS, cn_lsw0, cn_lsw1, cn_alen, cn_iaload, cn_laload, cn_rr1, cn_rr0, cn_aaload, cn_iastore, cn_lastore, cn_aastore, cn_getfield, cn_gf0, cn_gf1, cn_gf2, cn_gf3, cn_putfield, cn_pf0f, cn_pf1f, cn_pf2f, cn_pf3f, cn_pf0t, cn_pf1t, cn_pf2t, cn_pf3t, cn_new, cn_nw1, cn_newi, cn_newl, cn_anew, cn_an1, cn_inv_v, cn_inv_s, cn_inv_p, cn_ca1, cn_cb1, cn_pop0, cn_pops, cn_rk0, cn_rk1, cn_kcn, cn_kcs, cn_ireturn, cn_lreturn, cn_areturn, cn_return, cn_re0, cn_re1, cn_re2, cn_re3, cn_re4, cn_re5, cn_wp0, cn_wps, cn_m0, cn_m1, cn_e0, cn_en, cn_ei, cn_er, cn_eu, cn_el, cn_nl0, cn_nls, cn_nb0, cn_nb1, cn_nb2, cn_nb3, cn_bd0, cn_bds, cn_cwi, cn_cwr, cn_cwl, cn_cwn, cn_wi2, cn_wl1, cn_wl3, cn_wr1, cn_wr2, cn_wi_eq, cn_wl_eq, cb_0, cb_n0, cb_b, cm_okb0, cm_okb1, Classical.not_not, true_and, and_true, Nat.reduceAdd, Nat.reduceSub, Nat.reduceLT, Nat.reduceLeDiff, Int.reduceToNat, Int.reduceNatCast', Nat.zero_le, Nat.reduceEqDiff, false_or, or_false, or_true, true_or, Int.reduceNeg, reduceCtorEq, false_implies, implies_true, forall_const, true_implies, not_true_eq_false, not_false_eq_true, Nat.le_refl, ne_eq, if_true, if_false, ite_true, ite_false, List.cons_append, List.nil_append]
    simp (disch := omega) only [w3_le, w3_lt, w3_eq, w3_ix, w3_add, w3_sub, w3_mul, w3_toInt, w3_z]
    refine ⟨fun h => ?_, fun h => ⟨⟨by omega, by omega⟩, ⟨by omega, by omega⟩, ?_⟩⟩
    · have e : k = n := by omega
      subst e
      exact hS
    · rw [cp_1 (by omega), cp_s]
      exact ih _ (show n - (k + 1) < fu by omega) (k + 1) rfl (by omega)
set_option maxHeartbeats 4000000 in
theorem mX3_addRun (d : Nat) (hd : 1 ≤ d) : cm_Met d yX3_addRun cX3_addRun 7 none 0 0 SX3_addRun := by
  refine cm_meets (J := JX3_addRun) (by decide) rfl (fun h => by cases h) trivial ?_
  intro as T M Φ hS
  match as, hS with
  | [.ref g, .ref a, .int i, .int m], ⟨O, c, i0, m0, hT, h3, ha, hi, hm, q1, q2, hO, hS⟩ =>
    refine ⟨Nat.le_of_ble_eq_true rfl, ?_⟩
    subst hi hm
    have h3' : one3 a g := h3
    unfold one3 at h3'
    have hT0 := hT
    obtain ⟨t1, ⟨r0, r1, r3, r4, r5, r6, r7, r8⟩, -, -, -, ⟨u1, u2, u3, u4⟩⟩ := hT
    obtain ⟨⟨y1, y2, y3, y4, y5, y6, y7⟩, -, bc, l1⟩ := id ha
    have za := ha.sz
    have na := nl_120 l1
    have si := ha.st (i := i0) (by omega)
    have sm := ha.st (i := m0) (by omega)
    have x1 := (stt_spec bc (show i0 ≤ nl c by omega)).1
    have x2 := (stt_spec bc (show m0 ≤ nl c by omega)).1
    have w1 := stt_le bc q1 q2
    have ei : (w3 (i0 : Int)).toInt = (i0 : Int) := w3_toInt (by omega) (by omega)
    have em : (w3 (m0 : Int)).toInt = (m0 : Int) := w3_toInt (by omega) (by omega)
    have hlen : (O ++ slc c (stt c i0) (stt c m0)).length = O.length + (stt c m0 - stt c i0) := by rw [List.length_append, slc_len]
    rcases hO with ⟨o1, o2, o3, o4⟩ | ⟨o1, o2, o3, o4⟩
    · refine cm_go hX3_addRun 100 oX3_addRun (eX3_addRun d hd) lX3_addRun_0 ?_
      simp only [jX3_addRun, kX3_addRun_0, kX3_addRun_1, fl_3_104, fl_3_122, fl_3_57, fl_3_53, fl_3_125, fl_3_126, fl_3_129, t1, r8, u1, u2, u3, u4, o2, o3, y1, y2, y3, y4, y5, y6, y7, za, ei, em, si, sm, cn_iconst, cn_lconst0, cn_lconst1, cn_null, cn_iload, cn_aload, cn_lload, cn_lo1, cn_loa1, cn_loa2, cn_lol1, cn_get0, cn_gets, cn_put0, cn_puts, cn_istore, cn_astore, cn_astoreN, cn_lstore, cn_iinc, cn_in1, cn_iadd, cn_isub, cn_imul, cn_iand, cn_ior, cn_ixor, cn_ishl, cn_ishr, cn_iushr, cn_idiv, cn_irem, cn_ladd, cn_lmul, cn_ldiv, cn_lrem, cn_i2l, cn_l2i, cn_i2b, cn_lcmp, cn_dupi, cn_dupr, cn_dup2, cn_popi, cn_popr, cn_goto, cn_if_eq, cn_if_ne, cn_if_lt, cn_if_ge, cn_if_gt, cn_if_le, cn_ic_eq, cn_ic_ne, cn_ic_lt, cn_ic_ge, cn_ic_gt, cn_ic_le, cn_ifnullN, cn_ifnullR, cn_ifnonnullN, cn_ifnonnullR, cn_tswS, cn_tsw0, cn_tsw1, cn_lswS, cn_lsw0, cn_lsw1, cn_alen, cn_iaload, cn_laload, cn_rr1, cn_rr0, cn_aaload, cn_iastore, cn_lastore, cn_aastore, cn_getfield, cn_gf0, cn_gf1, cn_gf2, cn_gf3, cn_putfield, cn_pf0f, cn_pf1f, cn_pf2f, cn_pf3f, cn_pf0t, cn_pf1t, cn_pf2t, cn_pf3t, cn_new, cn_nw1, cn_newi, cn_newl, cn_anew, cn_an1, cn_inv_v, cn_inv_s, cn_inv_p, cn_ca1, cn_cb1, cn_pop0, cn_pops, cn_rk0, cn_rk1, cn_kcn, cn_kcs, cn_ireturn, cn_lreturn, cn_areturn, cn_return, cn_re0, cn_re1, cn_re2, cn_re3, cn_re4, cn_re5, cn_wp0, cn_wps, cn_m0, cn_m1, cn_e0, cn_en, cn_ei, cn_er, cn_eu, cn_el, cn_nl0, cn_nls, cn_nb0, cn_nb1, cn_nb2, cn_nb3, cn_bd0, cn_bds, cn_cwi, cn_cwr, cn_cwl, cn_cwn, cn_wi2, cn_wl1, cn_wl3, cn_wr1, cn_wr2, cn_wi_eq, cn_wl_eq, cb_0, cb_n0, cb_b, cm_okb0, cm_okb1, Classical.not_not, true_and, and_true, Nat.reduceAdd, Nat.reduceSub, Nat.reduceLT, Nat.reduceLeDiff, Int.reduceToNat, Int.reduceNatCast', Nat.zero_le, Nat.reduceEqDiff, false_or, or_false, or_true, true_or, Int.reduceNeg, reduceCtorEq, false_implies, implies_true, forall_const, true_implies, not_true_eq_false, not_false_eq_true, Nat.le_refl, ne_eq, if_true, if_false, ite_true, ite_false, List.cons_append, List.nil_append]
      simp (disch := omega) only [w3_le, w3_lt, w3_eq, w3_ix, w3_add, w3_sub, w3_mul, w3_toInt, w3_z, Int.reduceEq, Int.reduceLT, Int.reduceLE, Int.reduceAdd, Int.reduceSub, Int.reduceMul, Int.le_refl, Int.lt_irrefl, not_true_eq_false, not_false_eq_true, true_implies, false_implies, implies_true, and_true, true_and, and_self, ne_eq, Classical.not_not]
      refine ⟨fun h => by omega, fun h => ⟨fun h => by omega, fun h => ⟨fun h => ⟨⟨by omega, by omega⟩, ⟨by omega, by omega⟩, fun h5 => ?_, fun h5 => ?_⟩, fun h => by omega⟩⟩⟩
      · obtain ⟨n, hn⟩ : ∃ n : Nat, (stt c m0 : Int) - (stt c i0 : Int) = (n : Int) := ⟨stt c m0 - stt c i0, by omega⟩
        rw [hn]
        have key := lX3_addRun d hd (i := w3 (i0 : Int)) (m := w3 (m0 : Int)) (s := stt c i0) (n := n) (ol := O.length) (Φ := Φ) hT0 h3 ha.1 (by omega) (by omega) o3 ?_ 0 (Nat.zero_le _)
        · rw [show ((0 : Nat) : Int) = 0 from rfl, cp_0] at key
          exact key
        rw [← hn]
        refine hS _ ⟨fun q a1 b1 c1 => funext fun j => ?_, fun k hk => ?_, rfl⟩ (Or.inl ⟨?_, ?_, ?_, fun k hk => ?_⟩)
        · rw [cn_wi_ne (Or.inl (by omega))]
          show (if q = g + 16 ∧ _ then _ else M.1 q j) = M.1 q j
          rw [if_neg (fun w => c1 w.1)]
        · rw [cn_wi_ne (Or.inl (by omega))]
          show (if g = g + 16 ∧ _ then _ else M.1 g k) = M.1 g k
          rw [if_neg (fun w => ne_16 g w.1)]
        · omega
        · rw [cn_wi_ne (Or.inl (by omega))]
          show (if g = g + 16 ∧ _ then _ else M.1 g 9) = w3 0
          rw [if_neg (fun w => ne_16 g w.1), o2]
        · rw [cn_wi_eq, hlen]; congr 1; omega
        · rw [hlen] at hk
          rw [cn_wi_ne (Or.inl (by omega))]
          show (if g + 16 = g + 16 ∧ (O.length : Int) ≤ (k : Int) ∧ (k : Int) < (O.length : Int) + ((stt c m0 : Int) - (stt c i0 : Int)) then M.1 (a + 1) ((stt c i0 : Int) + ((k : Int) - (O.length : Int))) else M.1 (g + 16) (k : Int)) = _
          rcases Nat.lt_or_ge k O.length with q | q
          · rw [if_neg (by omega), o4 k q, gt_apl q]
          · rw [if_pos ⟨rfl, by omega, by omega⟩]
            have e3 : (stt c i0 : Int) + ((k : Int) - (O.length : Int)) = ((stt c i0 + (k - O.length) : Nat) : Int) := by omega
            have e4 : gt (O ++ slc c (stt c i0) (stt c m0)) k = gt c (stt c i0 + (k - O.length)) := by
              have e5 := gt_apr (L := O) (L' := slc c (stt c i0) (stt c m0)) (k := k - O.length)
              rw [show O.length + (k - O.length) = k by omega] at e5
              rw [e5, slc_at (by omega)]
            rw [e3, e4]
            exact ha.nu (by omega)
      · refine hS _ ⟨fun q a1 b1 c1 => funext fun j => ?_, fun k hk => ?_, rfl⟩ (Or.inr ⟨?_, ?_, ?_, ?_⟩)
        · rw [cn_wi_ne (Or.inl (by omega))]
        · rw [cn_wi_ne (Or.inr hk)]
        · omega
        · exact cn_wi_eq
        · rw [sz_wi (Or.inl (by omega)), sz_eq o3 (by omega) (by omega)]; omega
        · rw [sz_wi (Or.inl (by omega)), sz_eq o3 (by omega) (by omega)]; omega
    · refine cm_go hX3_addRun 100 oX3_addRun (eX3_addRun d hd) lX3_addRun_0 ?_
      simp only [jX3_addRun, kX3_addRun_0, kX3_addRun_1, fl_3_104, fl_3_122, fl_3_57, fl_3_53, fl_3_125, fl_3_126, fl_3_129, t1, r8, u1, u2, u3, u4, o2, y1, y2, y3, y4, y5, y6, y7, za, ei, em, si, sm, cn_iconst, cn_lconst0, cn_lconst1, cn_null, cn_iload, cn_aload, cn_lload, cn_lo1, cn_loa1, cn_loa2, cn_lol1, cn_get0, cn_gets, cn_put0, cn_puts, cn_istore, cn_astore, cn_astoreN, cn_lstore, cn_iinc, cn_in1, cn_iadd, cn_isub, cn_imul, cn_iand, cn_ior, cn_ixor, cn_ishl, cn_ishr, cn_iushr, cn_idiv, cn_irem, cn_ladd, cn_lmul, cn_ldiv, cn_lrem, cn_i2l, cn_l2i, cn_i2b, cn_lcmp, cn_dupi, cn_dupr, cn_dup2, cn_popi, cn_popr, cn_goto, cn_if_eq, cn_if_ne, cn_if_lt, cn_if_ge, cn_if_gt, cn_if_le, cn_ic_eq, cn_ic_ne, cn_ic_lt, cn_ic_ge, cn_ic_gt, cn_ic_le, cn_ifnullN, cn_ifnullR, cn_ifnonnullN, cn_ifnonnullR, cn_tswS, cn_tsw0, cn_tsw1, cn_lswS, cn_lsw0, cn_lsw1, cn_alen, cn_iaload, cn_laload, cn_rr1, cn_rr0, cn_aaload, cn_iastore, cn_lastore, cn_aastore, cn_getfield, cn_gf0, cn_gf1, cn_gf2, cn_gf3, cn_putfield, cn_pf0f, cn_pf1f, cn_pf2f, cn_pf3f, cn_pf0t, cn_pf1t, cn_pf2t, cn_pf3t, cn_new, cn_nw1, cn_newi, cn_newl, cn_anew, cn_an1, cn_inv_v, cn_inv_s, cn_inv_p, cn_ca1, cn_cb1, cn_pop0, cn_pops, cn_rk0, cn_rk1, cn_kcn, cn_kcs, cn_ireturn, cn_lreturn, cn_areturn, cn_return, cn_re0, cn_re1, cn_re2, cn_re3, cn_re4, cn_re5, cn_wp0, cn_wps, cn_m0, cn_m1, cn_e0, cn_en, cn_ei, cn_er, cn_eu, cn_el, cn_nl0, cn_nls, cn_nb0, cn_nb1, cn_nb2, cn_nb3, cn_bd0, cn_bds, cn_cwi, cn_cwr, cn_cwl, cn_cwn, cn_wi2, cn_wl1, cn_wl3, cn_wr1, cn_wr2, cn_wi_eq, cn_wl_eq, cb_0, cb_n0, cb_b, cm_okb0, cm_okb1, Classical.not_not, true_and, and_true, Nat.reduceAdd, Nat.reduceSub, Nat.reduceLT, Nat.reduceLeDiff, Int.reduceToNat, Int.reduceNatCast', Nat.zero_le, Nat.reduceEqDiff, false_or, or_false, or_true, true_or, Int.reduceNeg, reduceCtorEq, false_implies, implies_true, forall_const, true_implies, not_true_eq_false, not_false_eq_true, Nat.le_refl, ne_eq, if_true, if_false, ite_true, ite_false, List.cons_append, List.nil_append]
      simp (disch := omega) only [w3_le, w3_lt, w3_eq, w3_ix, w3_add, w3_sub, w3_mul, w3_toInt, w3_z, Int.reduceEq, Int.reduceLT, Int.reduceLE, Int.reduceAdd, Int.reduceSub, Int.reduceMul, Int.le_refl, Int.lt_irrefl, not_true_eq_false, not_false_eq_true, true_implies, false_implies, implies_true, and_true, true_and, and_self, ne_eq, Classical.not_not]
      refine ⟨fun h => by omega, fun h => ⟨fun h => by omega, fun h => ⟨fun h => ⟨⟨by omega, by omega⟩, ⟨by omega, by omega⟩, ?_⟩, fun h => by omega⟩⟩⟩
      refine hS _ ⟨fun q a1 b1 c1 => funext fun j => ?_, fun k hk => ?_, rfl⟩ (Or.inr ⟨?_, ?_, ?_, ?_⟩)
      · rw [cn_wi_ne (Or.inl (by omega))]
      · rw [cn_wi_ne (Or.inr hk)]
      · omega
      · exact cn_wi_eq
      · rw [sz_wi (Or.inl (by omega))]; exact o3
      · rw [sz_wi (Or.inl (by omega))]; exact o4

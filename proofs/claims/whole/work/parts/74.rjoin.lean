abbrev F3 : Type := Fl × Fl × Fl
def pkF (F : F3) (f : Nat) : Fl := if f = 0 then F.1 else if f = 1 then F.2.1 else F.2.2
noncomputable def mg3 (F V G : F3) : Option F3 := match mgF false F.1 V.1 G.1, mgF false F.2.1 V.2.1 G.2.1, mgF false F.2.2 V.2.2 G.2.2 with
  | some (_, a), some (_, b), some (_, c) => some (a, b, c)
  | _, _, _ => none
theorem mgT_3 {x y z : Tv} : (mgT false x y z = none → mg3 x.2 y.2 z.2 = none) ∧ ∀ X, mgT false x y z = some X → mg3 x.2 y.2 z.2 = some X.2 := by
  have e0 : ∀ t : Tv, pk t 0 = t.2.1 := fun _ => rfl
  have e1 : ∀ t : Tv, pk t 1 = t.2.2.1 := fun _ => rfl
  have e2 : ∀ t : Tv, pk t 2 = t.2.2.2 := fun _ => rfl
  unfold mgT mg3
  simp only [e0, e1, e2]
  cases mgF false x.2.1 y.2.1 z.2.1 with
  | none => exact ⟨fun _ => rfl, fun X h => by cases h⟩
  | some p =>
    cases mgF false x.2.2.1 y.2.2.1 z.2.2.1 with
    | none => exact ⟨fun _ => rfl, fun X h => by cases h⟩
    | some q =>
      cases mgF false x.2.2.2 y.2.2.2 z.2.2.2 with
      | none => exact ⟨fun _ => rfl, fun X h => by cases h⟩
      | some r => exact ⟨fun h => (by cases h), fun X h => (by cases h; rfl)⟩
theorem mg3_n {F V G : F3} {f : Nat} (hf : f < 3) (h : mgF false (pkF F f) (pkF V f) (pkF G f) = none) : mg3 F V G = none := by
  unfold mg3
  match f, hf with
  | 0, _ => have h : mgF false F.1 V.1 G.1 = none := h
            rw [h]
  | 1, _ => have h : mgF false F.2.1 V.2.1 G.2.1 = none := h
            rw [h]
            cases mgF false F.1 V.1 G.1 <;> rfl
  | 2, _ => have h : mgF false F.2.2 V.2.2 G.2.2 = none := h
            rw [h]
            cases mgF false F.1 V.1 G.1 <;> cases mgF false F.2.1 V.2.1 G.2.1 <;> rfl
def BalF (F : F3) : Prop := Bal (cnt F.1) ∧ Bal (cnt F.2.1) ∧ Bal (cnt F.2.2)
theorem BalF.k {F : F3} (h : BalF F) {f : Nat} (hf : f < 3) : Bal (cnt (pkF F f)) := by
  match f, hf with
  | 0, _ => exact h.1
  | 1, _ => exact h.2.1
  | 2, _ => exact h.2.2
theorem tA_k {f : Int → Int32} {a : Int} {φ : Nat} (h : φ < 3) : pkF (tA f a) φ = fA f (a + 41 * (φ : Int)) := by
  match φ, h with
  | 0, _ => show fA f a = fA f (a + 41 * ((0 : Nat) : Int)); rw [show a + 41 * ((0 : Nat) : Int) = a by omega]
  | 1, _ => rfl
  | 2, _ => rfl
/-- a common lies at κ -/
def CF (f g q : Int → Int32) (n κ : Nat) (F : F3) : Prop := (q (κ : Int) = w3 1 ∧ ∃ u : Nat, u < n ∧ g (κ : Int) = w3 (u : Int) ∧ F = tA f (127 * (u : Int) + 4) ∧ ∀ φ : Nat, φ < 3 → -1 ≤ (f (127 * (u : Int) + 4 + 41 * (φ : Int))).toInt ∧ (f (127 * (u : Int) + 4 + 41 * (φ : Int))).toInt ≤ 40) ∨ (q (κ : Int) = w3 2 ∧ F = tA f (2032 + 123 * (κ : Int)) ∧ ∀ φ : Nat, φ < 3 → -1 ≤ (f (2032 + 123 * (κ : Int) + 41 * (φ : Int))).toInt ∧ (f (2032 + 123 * (κ : Int) + 41 * (φ : Int))).toInt ≤ 40)
def reP (m κ : Nat) : Nat → Int → Prop := fun q k => (q = m ∧ (k = 20 ∨ k = 21)) ∨ (q = m + 1 ∧ 16792 ≤ k ∧ k < 16915) ∨ (q = m + 2 ∧ k = (κ : Int)) ∨ q = m + 10 ∨ q = m + 11 ∨ q = m + 12 ∨ q = m + 13 ∨ q = m + 14 ∨ q = m + 15
def joP (m κ : Nat) : Nat → Int → Prop := fun q k => (q = m ∧ (k = 20 ∨ k = 21)) ∨ (q = m + 1 ∧ 16792 ≤ k ∧ k < 16915) ∨ (q = m + 1 ∧ 2032 + 123 * (κ : Int) ≤ k ∧ k < 2032 + 123 * (κ : Int) + 123) ∨ (q = m + 2 ∧ k = (κ : Int)) ∨ q = m + 10 ∨ q = m + 11 ∨ q = m + 12 ∨ q = m + 13 ∨ q = m + 14 ∨ q = m + 15
/-- where baseAt leads -/
theorem CF.at {T : cm_T} {M : cm_M} {m κ φ n : Nat} {F : F3} {Φ : Option Value → cm_T → cm_M → Prop} (hT : TMd T M.2.2 m) (h : CF (M.1 (m + 1)) (M.1 (m + 3)) (M.1 (m + 2)) n κ F) (hκ : κ < 120) (hn : n ≤ 16) (hφ : φ < 3) (hS : ∀ a : Nat, a + 41 ≤ 16792 → FiG (M.1 (m + 1)) a → fA (M.1 (m + 1)) (a : Int) = pkF F φ → Φ (some (.int (w3 (a : Int)))) T M) : SX7_baseAt [.ref m, .int (w3 (κ : Int)), .int (w3 (φ : Int))] T M Φ := by
  refine ⟨κ, φ, hT, rfl, rfl, hκ, hφ, fun h1 => ?_, fun h1 => ?_⟩
  · rcases h with ⟨a1, u, u1, u2, u3, u4⟩ | ⟨a1, -⟩
    · have e : ((127 * u + 4 + 41 * φ : Nat) : Int) = 127 * (u : Int) + 4 + 41 * (φ : Int) := by omega
      refine ⟨u, by omega, u2, hS (127 * u + 4 + 41 * φ) (by omega) ⟨by rw [e]; exact (u4 φ hφ).1, by rw [e]; exact (u4 φ hφ).2, by omega⟩ ?_⟩
      rw [e, u3, tA_k hφ]
    · rw [a1] at h1; exact absurd h1 (by decide)
  · rcases h with ⟨a1, -⟩ | ⟨a1, a2, a3⟩
    · exact absurd a1 h1
    · have e : ((2032 + 123 * κ + 41 * φ : Nat) : Int) = 2032 + 123 * (κ : Int) + 41 * (φ : Int) := by omega
      refine hS (2032 + 123 * κ + 41 * φ) (by omega) ⟨by rw [e]; exact (a3 φ hφ).1, by rw [e]; exact (a3 φ hφ).2, by omega⟩ ?_
      rw [e, a2, tA_k hφ]
/-- what joins finds -/
def JN (T : cm_T) (M : cm_M) (m n κ ν ω : Nat) (F V G : F3) : Prop := TMd T M.2.2 m ∧ n ≤ 16 ∧ κ < 120 ∧ ω < 120 ∧ ν < n ∧ ω ≠ κ ∧ CF (M.1 (m + 1)) (M.1 (m + 3)) (M.1 (m + 2)) n κ F ∧ CF (M.1 (m + 1)) (M.1 (m + 3)) (M.1 (m + 2)) n ω G ∧ V = tA (M.1 (m + 1)) (127 * (ν : Int) + 4) ∧ (∀ φ : Nat, φ < 3 → -1 ≤ (M.1 (m + 1) (127 * (ν : Int) + 4 + 41 * (φ : Int))).toInt ∧ (M.1 (m + 1) (127 * (ν : Int) + 4 + 41 * (φ : Int))).toInt ≤ 40) ∧ BalF F ∧ BalF V ∧ BalF G
theorem JN.fr {T : cm_T} {M M1 : cm_M} {m n κ ν ω : Nat} {F V G : F3} (h : JN T M m n κ ν ω F V G) (hF : Fz (reP m κ) M M1) (hp : M1.1 (m + 2) (κ : Int) = M.1 (m + 2) (κ : Int)) : JN T M1 m n κ ν ω F V G := by
  obtain ⟨a1, a2, a3, a4, a5, a6, a7, a8, a9, a10, a11⟩ := h
  have rm : ∀ z : Int, z < 16792 → M1.1 (m + 1) z = M.1 (m + 1) z := fun z hz => hF.1 _ _ (by unfold reP; omega)
  have r3 : M1.1 (m + 3) = M.1 (m + 3) := funext fun z => hF.1 _ _ (by unfold reP; omega)
  have rp : ∀ z : Int, M1.1 (m + 2) z = M.1 (m + 2) z := fun z => by
    by_cases e : z = (κ : Int)
    · rw [e]; exact hp
    · exact hF.1 _ _ (by unfold reP; omega)
  have tac : ∀ a : Int, a + 123 ≤ 16792 → (∀ φ : Nat, φ < 3 → -1 ≤ (M.1 (m + 1) (a + 41 * (φ : Int))).toInt ∧ (M.1 (m + 1) (a + 41 * (φ : Int))).toInt ≤ 40) → tA (M1.1 (m + 1)) a = tA (M.1 (m + 1)) a := fun a ha hb => (tA_cong (fun φ hφ => (hb φ hφ).2) (fun k k1 k2 => (rm _ (by omega)).symm)).symm
  have cf : ∀ (c : Nat) (H : F3), c < 120 → CF (M.1 (m + 1)) (M.1 (m + 3)) (M.1 (m + 2)) n c H → CF (M1.1 (m + 1)) (M1.1 (m + 3)) (M1.1 (m + 2)) n c H := by
    intro c H hc h
    rcases h with ⟨b1, u, u1, u2, u3, u4⟩ | ⟨b1, b2, b3⟩
    · refine Or.inl ⟨by rw [rp]; exact b1, u, u1, by rw [r3]; exact u2, by rw [u3, tac _ (by omega) u4], fun φ hφ => ?_⟩
      rw [rm _ (by omega)]; exact u4 φ hφ
    · refine Or.inr ⟨by rw [rp]; exact b1, by rw [b2, tac _ (by omega) b3], fun φ hφ => ?_⟩
      rw [rm _ (by omega)]; exact b3 φ hφ
  exact ⟨by rw [hF.2]; exact a1, a2, a3, a4, a5, a6, cf κ F a3 a7, cf ω G a4 a8, by rw [a9, tac _ (by omega) a10], fun φ hφ => by rw [rm _ (by omega)]; exact a10 φ hφ, a11⟩
def SX7_joins : cm_CT := fun as T M Φ => match as with
  | [.ref m, .int k, .int v, .int o] => ∃ (n κ ν ω : Nat), k = w3 (κ : Int) ∧ v = w3 (ν : Int) ∧ o = w3 (ω : Int) ∧ ((TMd T M.2.2 m ∧ κ < 120 ∧ ω < 120 ∧ M.1 (m + 2) (ω : Int) = w3 3 ∧ Φ none T (cm_wi M (m + 2) (κ : Int) (w3 3))) ∨ (∃ F V G : F3, JN T M m n κ ν ω F V G ∧ ∀ M1, Fz (joP m κ) M M1 → (mg3 F V G = none → M1.1 (m + 2) (κ : Int) = w3 3) → (∀ H, mg3 F V G = some H → M1.1 (m + 2) (κ : Int) = w3 2 ∧ tA (M1.1 (m + 1)) (2032 + 123 * (κ : Int)) = H ∧ ∀ φ : Nat, φ < 3 → -1 ≤ (M1.1 (m + 1) (2032 + 123 * (κ : Int) + 41 * (φ : Int))).toInt ∧ (M1.1 (m + 1) (2032 + 123 * (κ : Int) + 41 * (φ : Int))).toInt ≤ 40) → Φ none T M1))
  | _ => False
def JX7_joins : cm_J := (7, false, 0, [(176, 3, 8, 0, 0, SX7_baseAt), (164, 3, 8, 0, 0, SX7_fileAt), (179, 6, 8, 0, 0, SX7_mergesFile)], [], [])
theorem jX7_joins : JX7_joins.1 = 7 ∧ JX7_joins.2.1 = false ∧ JX7_joins.2.2.1 = 0 ∧ cm_gv JX7_joins 176 = some (3, 8, 0, 0, SX7_baseAt) ∧ cm_gv JX7_joins 164 = some (3, 8, 0, 0, SX7_fileAt) ∧ cm_gv JX7_joins 179 = some (6, 8, 0, 0, SX7_mergesFile) := ⟨rfl, rfl, rfl, rfl, rfl, rfl⟩
theorem eX7_joins (d : Nat) (hd : 7 ≤ d) : cm_Cok d JX7_joins := ⟨(List.forall_mem_cons.mpr ⟨q7_176 (mX7_baseAt (d - 1) (by omega)) (by omega), (List.forall_mem_cons.mpr ⟨q7_164 (mX7_fileAt (d - 1) (by omega)) (by omega), (List.forall_mem_cons.mpr ⟨q7_179 (mX7_mergesFile (d - 1) (by omega)) (by omega), (fun q h => by cases h)⟩)⟩)⟩), (fun q h => by cases h), (fun q h => by cases h)⟩
set_option maxHeartbeats 4000000 in
theorem l2X7_joins (d : Nat) (hd : 7 ≤ d) {T : cm_T} {M : cm_M} {Φ : Option Value → cm_T → cm_M → Prop} {m κ ν ω : Nat} (hT : TMd T M.2.2 m) (hκ : κ < 120) (hS : ∀ M1, Fz (fun q k => q = m + 1 ∧ 2032 + 123 * (κ : Int) ≤ k ∧ k < 2032 + 123 * (κ : Int) + 123) M M1 → (∀ k : Int, 0 ≤ k → k < 123 → M1.1 (m + 1) (2032 + 123 * (κ : Int) + k) = M.1 (m + 1) (16792 + k)) → Φ none T M1) :
    ∀ (f : Nat) (M1 : cm_M) (o5 : Option Value), f ≤ 123 → Fz (fun q k => q = m + 1 ∧ 2032 + 123 * (κ : Int) ≤ k ∧ k < 2032 + 123 * (κ : Int) + 123) M M1 → (∀ k : Int, 0 ≤ k → k < (f : Int) → M1.1 (m + 1) (2032 + 123 * (κ : Int) + k) = M.1 (m + 1) (16792 + k)) → cm_Go d cX7_joins 6 0 0 JX7_joins Φ 139 [some (.ref m), some (.int (w3 (κ : Int))), some (.int (w3 (ν : Int))), some (.int (w3 (ω : Int))), some (.int (w3 (f : Int))), o5] [] (0, 0) T M1 := by
  obtain ⟨k0, ⟨r0, r2, r3, r6, r9, r10, r11, r12, r13, r14, r15, r16, r17, r18, r19, r22, r25, r26, r27⟩, ⟨c1, c2, c3, c4, c5, c6, c7, c8, c9, c10, c11, c12, c13, c14, c15, c16, c17, c18, c19⟩, ⟨l1, l2, l3, l4, l5, l6, l7, l8, l9, l10, l11, l12, l13, l14, l15, l16, l17, l18, l19⟩⟩ := id hT
  intro f
  induction hf : (123 - f) using Nat.strongRecOn generalizing f with
  | _ fu ih =>
    intro M1 o5 k1 F hj
    have e2 := F.2
    have rd := fun z : Int => F.1 (m + 1) (16792 + z)
    by_cases hk : f < 123
    · have rd1 : M1.1 (m + 1) (16792 + (f : Int)) = M.1 (m + 1) (16792 + (f : Int)) := F.1 _ _ (by omega)
      refine cm_go hX7_joins 200 oX7_joins (eX7_joins d hd) lX7_joins_139 ?_
      simp (disch := omega) only [jX7_joins, kX7_joins_0, kX7_joins_1, fl_7_13, fl_7_119, fl_7_7, e2, rd1, k0, r0, r2, r3, r6, r9, r10, r11, r12, r13, r14, r15, r16, r17, r18, r19, r22, r25, r26, r27, c1, c2, c3, c4, c5, c6, c7, c8, c9, c10, c11, c12, c13, c14, c15, c16, c17, c18, c19, l1, l2, l3, l4, l5, l6, l7, l8, l9, l10, l11, l12, l13, l14, l15, l16, l17, l18, l19, cn_iconst, cn_lconst0, cn_lconst1, cn_null, cn_iload, cn_aload, cn_lload, cn_lo1, cn_loa1, cn_loa2, cn_lol1, cn_get0, cn_gets, cn_put0, cn_puts, cn_istore, cn_astore, cn_astoreN, cn_lstore, cn_iinc, cn_in1, cn_iadd, cn_isub, cn_imul, cn_iand, cn_ior, cn_ixor, cn_ishl, cn_ishr, cn_iushr, cn_idiv, cn_irem, cn_ladd, cn_lmul, cn_ldiv, cn_lrem, cn_i2l, cn_l2i, cn_i2b, cn_lcmp, cn_dupi, cn_dupr, cn_dup2, cn_popi, cn_popr, cn_goto, cn_if_eq, cn_if_ne, cn_if_lt, cn_if_ge, cn_if_gt, cn_if_le, cn_ic_eq, cn_ic_ne, cn_ic_lt, cn_ic_ge, cn_ic_gt, cn_ic_le, cn_ifnullN, cn_ifnullR, cn_ifnonnullN, cn_ifnonnullR, cn_tswS, cn_tsw0, cn_tsw1, cn_lswS, cn_lsw0, cn_lsw1, cn_alen, cn_iaload, cn_laload, cn_rr1, cn_rr0, cn_aaload, cn_iastore, cn_lastore, cn_aastore, cn_getfield, cn_gf0, cn_gf1, cn_gf2, cn_gf3, cn_putfield, cn_pf0f, cn_pf1f, cn_pf2f, cn_pf3f, cn_pf0t, cn_pf1t, cn_pf2t, cn_pf3t, cn_new, cn_nw1, cn_newi, cn_newl, cn_anew, cn_an1, cn_inv_v, cn_inv_s, cn_inv_p, cn_ca1, cn_cb1, cn_pop0, cn_pops, cn_rk0, cn_rk1, cn_kcn, cn_kcs, cn_ireturn, cn_lreturn, cn_areturn, cn_return, cn_re0, cn_re1, cn_re2, cn_re3, cn_re4, cn_re5, cn_wp0, cn_wps, cn_m0, cn_m1, cn_e0, cn_en, cn_ei, cn_er, cn_eu, cn_el, cn_nl0, cn_nls, cn_nb0, cn_nb1, cn_nb2, cn_nb3, cn_bd0, cn_bds, cn_cwi, cn_cwr, cn_cwl, cn_cwn, cn_wi2, cn_wl1, cn_wl3, cn_wr1, cn_wr2, cn_wi_eq, cn_wl_eq, cb_0, cb_n0, cb_b, cm_okb0, cm_okb1, Classical.not_not, true_and, and_true, Nat.reduceAdd, Nat.reduceSub, Nat.reduceLT, Nat.reduceLeDiff, Int.reduceToNat, Int.reduceNatCast', Nat.zero_le, Nat.reduceEqDiff, false_or, or_false, or_true, true_or, Int.reduceNeg, reduceCtorEq, false_implies, implies_true, forall_const, true_implies, not_true_eq_false, not_false_eq_true, Nat.le_refl, ne_eq, if_true, if_false, ite_true, ite_false, List.cons_append, List.nil_append, w3_add, w3_sub, w3_mul, w3_le, w3_lt, w3_eq, w3_toInt, w3_ix, w3_00, w3_10, i0_le, i0_lt, i0_ge, i0_gt, i0_eq, Int.reduceLE, Int.reduceLT, Int.reduceAdd, Int.reduceSub, Int.reduceMul, Int.reduceEq, Int.le_refl, Int.lt_irrefl]
      refine ⟨fun q => by omega, fun _ => ?_⟩
      repeat (with_reducible refine And.intro (by omega) ?_)
      refine ih (123 - (f + 1)) (by omega) (f + 1) rfl _ _ (by omega) (F.trans (Fz.wi ⟨rfl, by omega, by omega⟩)) (fun k a b => ?_)
      by_cases e : k = (f : Int)
      · rw [e]; exact cn_wi_eq
      · rw [cn_wi_ne (Or.inr (by omega))]; exact hj k a (by omega)
    · have e : f = 123 := by omega
      subst e
      refine cm_go hX7_joins 200 oX7_joins (eX7_joins d hd) lX7_joins_139 ?_
      simp (disch := omega) only [jX7_joins, kX7_joins_0, kX7_joins_1, fl_7_13, fl_7_119, fl_7_7, e2, k0, r0, r2, r3, r6, r9, r10, r11, r12, r13, r14, r15, r16, r17, r18, r19, r22, r25, r26, r27, c1, c2, c3, c4, c5, c6, c7, c8, c9, c10, c11, c12, c13, c14, c15, c16, c17, c18, c19, l1, l2, l3, l4, l5, l6, l7, l8, l9, l10, l11, l12, l13, l14, l15, l16, l17, l18, l19, cn_iconst, cn_lconst0, cn_lconst1, cn_null, cn_iload, cn_aload, cn_lload, cn_lo1, cn_loa1, cn_loa2, cn_lol1, cn_get0, cn_gets, cn_put0, cn_puts, cn_istore, cn_astore, cn_astoreN, cn_lstore, cn_iinc, cn_in1, cn_iadd, cn_isub, cn_imul, cn_iand, cn_ior, cn_ixor, cn_ishl, cn_ishr, cn_iushr, cn_idiv, cn_irem, cn_ladd, cn_lmul, cn_ldiv, cn_lrem, cn_i2l, cn_l2i, cn_i2b, cn_lcmp, cn_dupi, cn_dupr, cn_dup2, cn_popi, cn_popr, cn_goto, cn_if_eq, cn_if_ne, cn_if_lt, cn_if_ge, cn_if_gt, cn_if_le, cn_ic_eq, cn_ic_ne, cn_ic_lt, cn_ic_ge, cn_ic_gt, cn_ic_le, cn_ifnullN, cn_ifnullR, cn_ifnonnullN, cn_ifnonnullR, cn_tswS, cn_tsw0, cn_tsw1, cn_lswS, cn_lsw0, cn_lsw1, cn_alen, cn_iaload, cn_laload, cn_rr1, cn_rr0, cn_aaload, cn_iastore, cn_lastore, cn_aastore, cn_getfield, cn_gf0, cn_gf1, cn_gf2, cn_gf3, cn_putfield, cn_pf0f, cn_pf1f, cn_pf2f, cn_pf3f, cn_pf0t, cn_pf1t, cn_pf2t, cn_pf3t, cn_new, cn_nw1, cn_newi, cn_newl, cn_anew, cn_an1, cn_inv_v, cn_inv_s, cn_inv_p, cn_ca1, cn_cb1, cn_pop0, cn_pops, cn_rk0, cn_rk1, cn_kcn, cn_kcs, cn_ireturn, cn_lreturn, cn_areturn, cn_return, cn_re0, cn_re1, cn_re2, cn_re3, cn_re4, cn_re5, cn_wp0, cn_wps, cn_m0, cn_m1, cn_e0, cn_en, cn_ei, cn_er, cn_eu, cn_el, cn_nl0, cn_nls, cn_nb0, cn_nb1, cn_nb2, cn_nb3, cn_bd0, cn_bds, cn_cwi, cn_cwr, cn_cwl, cn_cwn, cn_wi2, cn_wl1, cn_wl3, cn_wr1, cn_wr2, cn_wi_eq, cn_wl_eq, cb_0, cb_n0, cb_b, cm_okb0, cm_okb1, Classical.not_not, true_and, and_true, Nat.reduceAdd, Nat.reduceSub, Nat.reduceLT, Nat.reduceLeDiff, Int.reduceToNat, Int.reduceNatCast', Nat.zero_le, Nat.reduceEqDiff, false_or, or_false, or_true, true_or, Int.reduceNeg, reduceCtorEq, false_implies, implies_true, forall_const, true_implies, not_true_eq_false, not_false_eq_true, Nat.le_refl, ne_eq, if_true, if_false, ite_true, ite_false, List.cons_append, List.nil_append, w3_add, w3_sub, w3_mul, w3_le, w3_lt, w3_eq, w3_toInt, w3_ix, w3_00, w3_10, i0_le, i0_lt, i0_ge, i0_gt, i0_eq, Int.reduceLE, Int.reduceLT, Int.reduceAdd, Int.reduceSub, Int.reduceMul, Int.reduceEq, Int.le_refl, Int.lt_irrefl]
      exact hS M1 F hj
set_option maxHeartbeats 4000000 in
theorem l3X7_joins (d : Nat) (hd : 7 ≤ d) {T : cm_T} {M : cm_M} {Φ : Option Value → cm_T → cm_M → Prop} {m κ ν ω f : Nat} {o5 : Option Value} (hT : TMd T M.2.2 m) (hκ : κ < 120) (hf : f ≤ 3) (h3 : M.1 (m + 2) (κ : Int) = w3 3) (hS : Φ none T M) : cm_Go d cX7_joins 6 0 0 JX7_joins Φ 21 [some (.ref m), some (.int (w3 (κ : Int))), some (.int (w3 (ν : Int))), some (.int (w3 (ω : Int))), some (.int (w3 (f : Int))), o5] [] (0, 0) T M := by
  obtain ⟨k0, ⟨r0, r2, r3, r6, r9, r10, r11, r12, r13, r14, r15, r16, r17, r18, r19, r22, r25, r26, r27⟩, ⟨c1, c2, c3, c4, c5, c6, c7, c8, c9, c10, c11, c12, c13, c14, c15, c16, c17, c18, c19⟩, ⟨l1, l2, l3, l4, l5, l6, l7, l8, l9, l10, l11, l12, l13, l14, l15, l16, l17, l18, l19⟩⟩ := id hT
  refine cm_go hX7_joins 200 oX7_joins (eX7_joins d hd) lX7_joins_21 ?_
  simp (disch := omega) only [jX7_joins, kX7_joins_0, kX7_joins_1, fl_7_13, fl_7_119, fl_7_7, h3, k0, r0, r2, r3, r6, r9, r10, r11, r12, r13, r14, r15, r16, r17, r18, r19, r22, r25, r26, r27, c1, c2, c3, c4, c5, c6, c7, c8, c9, c10, c11, c12, c13, c14, c15, c16, c17, c18, c19, l1, l2, l3, l4, l5, l6, l7, l8, l9, l10, l11, l12, l13, l14, l15, l16, l17, l18, l19, cn_iconst, cn_lconst0, cn_lconst1, cn_null, cn_iload, cn_aload, cn_lload, cn_lo1, cn_loa1, cn_loa2, cn_lol1, cn_get0, cn_gets, cn_put0, cn_puts, cn_istore, cn_astore, cn_astoreN, cn_lstore, cn_iinc, cn_in1, cn_iadd, cn_isub, cn_imul, cn_iand, cn_ior, cn_ixor, cn_ishl, cn_ishr, cn_iushr, cn_idiv, cn_irem, cn_ladd, cn_lmul, cn_ldiv, cn_lrem, cn_i2l, cn_l2i, cn_i2b, cn_lcmp, cn_dupi, cn_dupr, cn_dup2, cn_popi, cn_popr, cn_goto, cn_if_eq, cn_if_ne, cn_if_lt, cn_if_ge, cn_if_gt, cn_if_le, cn_ic_eq, cn_ic_ne, cn_ic_lt, cn_ic_ge, cn_ic_gt, cn_ic_le, cn_ifnullN, cn_ifnullR, cn_ifnonnullN, cn_ifnonnullR, cn_tswS, cn_tsw0, cn_tsw1, cn_lswS, cn_lsw0, cn_lsw1, cn_alen, cn_iaload, cn_laload, cn_rr1, cn_rr0, cn_aaload, cn_iastore, cn_lastore, cn_aastore, cn_getfield, cn_gf0, cn_gf1, cn_gf2, cn_gf3, cn_putfield, cn_pf0f, cn_pf1f, cn_pf2f, cn_pf3f, cn_pf0t, cn_pf1t, cn_pf2t, cn_pf3t, cn_new, cn_nw1, cn_newi, cn_newl, cn_anew, cn_an1, cn_inv_v, cn_inv_s, cn_inv_p, cn_ca1, cn_cb1, cn_pop0, cn_pops, cn_rk0, cn_rk1, cn_kcn, cn_kcs, cn_ireturn, cn_lreturn, cn_areturn, cn_return, cn_re0, cn_re1, cn_re2, cn_re3, cn_re4, cn_re5, cn_wp0, cn_wps, cn_m0, cn_m1, cn_e0, cn_en, cn_ei, cn_er, cn_eu, cn_el, cn_nl0, cn_nls, cn_nb0, cn_nb1, cn_nb2, cn_nb3, cn_bd0, cn_bds, cn_cwi, cn_cwr, cn_cwl, cn_cwn, cn_wi2, cn_wl1, cn_wl3, cn_wr1, cn_wr2, cn_wi_eq, cn_wl_eq, cb_0, cb_n0, cb_b, cm_okb0, cm_okb1, Classical.not_not, true_and, and_true, Nat.reduceAdd, Nat.reduceSub, Nat.reduceLT, Nat.reduceLeDiff, Int.reduceToNat, Int.reduceNatCast', Nat.zero_le, Nat.reduceEqDiff, false_or, or_false, or_true, true_or, Int.reduceNeg, reduceCtorEq, false_implies, implies_true, forall_const, true_implies, not_true_eq_false, not_false_eq_true, Nat.le_refl, ne_eq, if_true, if_false, ite_true, ite_false, List.cons_append, List.nil_append, w3_add, w3_sub, w3_mul, w3_le, w3_lt, w3_eq, w3_toInt, w3_ix, w3_00, w3_10, i0_le, i0_lt, i0_ge, i0_gt, i0_eq, Int.reduceLE, Int.reduceLT, Int.reduceAdd, Int.reduceSub, Int.reduceMul, Int.reduceEq, Int.le_refl, Int.lt_irrefl]
  exact ⟨fun _ => ⟨by omega, hS⟩, fun _ => ⟨by omega, by omega, hS⟩⟩
set_option maxHeartbeats 8000000 in
theorem lX7_joins (d : Nat) (hd : 7 ≤ d) {T : cm_T} {M : cm_M} {Φ : Option Value → cm_T → cm_M → Prop} {m n κ ν ω : Nat} {F V G : F3} (hJ : JN T M m n κ ν ω F V G) (hS : ∀ M1, Fz (joP m κ) M M1 → (mg3 F V G = none → M1.1 (m + 2) (κ : Int) = w3 3) → (∀ H, mg3 F V G = some H → M1.1 (m + 2) (κ : Int) = w3 2 ∧ tA (M1.1 (m + 1)) (2032 + 123 * (κ : Int)) = H ∧ ∀ φ : Nat, φ < 3 → -1 ≤ (M1.1 (m + 1) (2032 + 123 * (κ : Int) + 41 * (φ : Int))).toInt ∧ (M1.1 (m + 1) (2032 + 123 * (κ : Int) + 41 * (φ : Int))).toInt ≤ 40) → Φ none T M1) :
    ∀ (g f : Nat) (M1 : cm_M) (o5 : Option Value), g + f = 3 → Fz (reP m κ) M M1 → M1.1 (m + 2) (κ : Int) = M.1 (m + 2) (κ : Int) → (∀ φ : Nat, φ < f → ∃ b, mgF false (pkF F φ) (pkF V φ) (pkF G φ) = some (b, fA (M1.1 (m + 1)) (16792 + 41 * (φ : Int))) ∧ -1 ≤ (M1.1 (m + 1) (16792 + 41 * (φ : Int))).toInt ∧ (M1.1 (m + 1) (16792 + 41 * (φ : Int))).toInt ≤ 40) → cm_Go d cX7_joins 6 0 0 JX7_joins Φ 21 [some (.ref m), some (.int (w3 (κ : Int))), some (.int (w3 (ν : Int))), some (.int (w3 (ω : Int))), some (.int (w3 (f : Int))), o5] [] (0, 0) T M1 := by
  have hT := hJ.1
  obtain ⟨k0, ⟨r0, r2, r3, r6, r9, r10, r11, r12, r13, r14, r15, r16, r17, r18, r19, r22, r25, r26, r27⟩, ⟨c1, c2, c3, c4, c5, c6, c7, c8, c9, c10, c11, c12, c13, c14, c15, c16, c17, c18, c19⟩, ⟨l1, l2, l3, l4, l5, l6, l7, l8, l9, l10, l11, l12, l13, l14, l15, l16, l17, l18, l19⟩⟩ := id hT
  obtain ⟨-, hn, hκ, hω, hν, hne, hCF, -⟩ := id hJ
  have hp12 : ∃ P : Int, M.1 (m + 2) (κ : Int) = w3 P ∧ P < 3 ∧ 0 ≤ P := by
    rcases hCF with ⟨a, -⟩ | ⟨a, -⟩
    · exact ⟨1, a, by omega, by omega⟩
    · exact ⟨2, a, by omega, by omega⟩
  obtain ⟨P, hP, P3, P0⟩ := hp12
  intro g
  induction g with
  | zero =>
    intro f M1 o5 hf F1 hp hr
    have e2 := F1.2
    have ef : f = 3 := by omega
    subst ef
    have hpP := hp.trans hP
    have q3 : ((3 : Int) ≤ P) = False := eq_false (by omega)
    refine cm_go hX7_joins 300 oX7_joins (eX7_joins d hd) lX7_joins_21 ?_
    simp (disch := omega) only [jX7_joins, kX7_joins_0, kX7_joins_1, fl_7_13, fl_7_119, fl_7_7, e2, hpP, q3, k0, r0, r2, r3, r6, r9, r10, r11, r12, r13, r14, r15, r16, r17, r18, r19, r22, r25, r26, r27, c1, c2, c3, c4, c5, c6, c7, c8, c9, c10, c11, c12, c13, c14, c15, c16, c17, c18, c19, l1, l2, l3, l4, l5, l6, l7, l8, l9, l10, l11, l12, l13, l14, l15, l16, l17, l18, l19, cn_iconst, cn_lconst0, cn_lconst1, cn_null, cn_iload, cn_aload, cn_lload, cn_lo1, cn_loa1, cn_loa2, cn_lol1, cn_get0, cn_gets, cn_put0, cn_puts, cn_istore, cn_astore, cn_astoreN, cn_lstore, cn_iinc, cn_in1, cn_iadd, cn_isub, cn_imul, cn_iand, cn_ior, cn_ixor, cn_ishl, cn_ishr, cn_iushr, cn_idiv, cn_irem, cn_ladd, cn_lmul, cn_ldiv, cn_lrem, cn_i2l, cn_l2i, cn_i2b, cn_lcmp, cn_dupi, cn_dupr, cn_dup2, cn_popi, cn_popr, cn_goto, cn_if_eq, cn_if_ne, cn_if_lt, cn_if_ge, cn_if_gt, cn_if_le, cn_ic_eq, cn_ic_ne, cn_ic_lt, cn_ic_ge, cn_ic_gt, cn_ic_le, cn_ifnullN, cn_ifnullR, cn_ifnonnullN, cn_ifnonnullR, cn_tswS, cn_tsw0, cn_tsw1, cn_lswS, cn_lsw0, cn_lsw1, cn_alen, cn_iaload, cn_laload, cn_rr1, cn_rr0, cn_aaload, cn_iastore, cn_lastore, cn_aastore, cn_getfield, cn_gf0, cn_gf1, cn_gf2, cn_gf3, cn_putfield, cn_pf0f, cn_pf1f, cn_pf2f, cn_pf3f, cn_pf0t, cn_pf1t, cn_pf2t, cn_pf3t, cn_new, cn_nw1, cn_newi, cn_newl, cn_anew, cn_an1, cn_inv_v, cn_inv_s, cn_inv_p, cn_ca1, cn_cb1, cn_pop0, cn_pops, cn_rk0, cn_rk1, cn_kcn, cn_kcs, cn_ireturn, cn_lreturn, cn_areturn, cn_return, cn_re0, cn_re1, cn_re2, cn_re3, cn_re4, cn_re5, cn_wp0, cn_wps, cn_m0, cn_m1, cn_e0, cn_en, cn_ei, cn_er, cn_eu, cn_el, cn_nl0, cn_nls, cn_nb0, cn_nb1, cn_nb2, cn_nb3, cn_bd0, cn_bds, cn_cwi, cn_cwr, cn_cwl, cn_cwn, cn_wi2, cn_wl1, cn_wl3, cn_wr1, cn_wr2, cn_wi_eq, cn_wl_eq, cb_0, cb_n0, cb_b, cm_okb0, cm_okb1, Classical.not_not, true_and, and_true, Nat.reduceAdd, Nat.reduceSub, Nat.reduceLT, Nat.reduceLeDiff, Int.reduceToNat, Int.reduceNatCast', Nat.zero_le, Nat.reduceEqDiff, false_or, or_false, or_true, true_or, Int.reduceNeg, reduceCtorEq, false_implies, implies_true, forall_const, true_implies, not_true_eq_false, not_false_eq_true, Nat.le_refl, ne_eq, if_true, if_false, ite_true, ite_false, List.cons_append, List.nil_append, w3_add, w3_sub, w3_mul, w3_le, w3_lt, w3_eq, w3_toInt, w3_ix, w3_00, w3_10, i0_le, i0_lt, i0_ge, i0_gt, i0_eq, Int.reduceLE, Int.reduceLT, Int.reduceAdd, Int.reduceSub, Int.reduceMul, Int.reduceEq, Int.le_refl, Int.lt_irrefl]
    repeat (with_reducible refine And.intro (by omega) ?_)
    have hT1 : TMd T (cm_wi M1 (m + 2) (κ : Int) (w3 2)).2.2 m := by rw [cn_wi2, e2]; exact hT
    refine l2X7_joins d hd (M := cm_wi M1 (m + 2) (κ : Int) (w3 2)) hT1 hκ (fun M3 F3' h3 => ?_) 0 _ _ (Nat.zero_le _) Fz.rf (fun k a b => by omega)
    obtain ⟨b0, x0, y0⟩ := hr 0 (by omega)
    obtain ⟨b1, x1, y1⟩ := hr 1 (by omega)
    obtain ⟨b2, x2, y2⟩ := hr 2 (by omega)
    have hm : mg3 F V G = some (tA (M1.1 (m + 1)) 16792) := by
      have x0 : mgF false F.1 V.1 G.1 = some (b0, fA (M1.1 (m + 1)) 16792) := x0
      have x1 : mgF false F.2.1 V.2.1 G.2.1 = some (b1, fA (M1.1 (m + 1)) (16792 + 41)) := x1
      have x2 : mgF false F.2.2 V.2.2 G.2.2 = some (b2, fA (M1.1 (m + 1)) (16792 + 82)) := x2
      unfold mg3
      rw [x0, x1, x2]
      rfl
    have hs : ∀ φ : Nat, φ < 3 → -1 ≤ (M1.1 (m + 1) (16792 + 41 * (φ : Int))).toInt ∧ (M1.1 (m + 1) (16792 + 41 * (φ : Int))).toInt ≤ 40 := fun φ hφ => by
      obtain ⟨b, -, y⟩ := hr φ hφ
      exact y
    have hcp : ∀ k : Int, 0 ≤ k → k < 123 → M3.1 (m + 1) (2032 + 123 * (κ : Int) + k) = M1.1 (m + 1) (16792 + k) := fun k a b => by rw [h3 k a b, wi_r (by omega)]
    refine hS M3 ?_ (fun w => by rw [hm] at w; cases w) (fun H w => ?_)
    · exact ((F1.mono (fun q k w => by unfold reP at w; unfold joP; omega)).trans (Fz.wi (by unfold joP; omega))).trans (F3'.mono (fun q k w => by unfold joP; omega))
    · rw [hm] at w
      have w : tA (M1.1 (m + 1)) 16792 = H := by cases w; rfl
      refine ⟨by rw [F3'.1 _ _ (by omega)]; exact cn_wi_eq, ?_, fun φ hφ => ?_⟩
      · rw [← w]
        exact (tA_cong (fun φ hφ => (hs φ hφ).2) (fun k a b => (hcp k a b).symm)).symm
      · rw [show 2032 + 123 * (κ : Int) + 41 * (φ : Int) = 2032 + 123 * (κ : Int) + (41 * (φ : Int)) by omega, hcp _ (by omega) (by omega)]
        exact hs φ hφ
  | succ g ih =>
    intro f M1 o5 hf F1 hp hr
    have e2 := F1.2
    have hf3 : f < 3 := by omega
    have hpP := hp.trans hP
    have q3 : ((3 : Int) ≤ P) = False := eq_false (by omega)
    have hJ1 := hJ.fr F1 hp
    obtain ⟨hT1, -, -, -, -, -, cK, cO, hV, hVs, bF, bV, bG⟩ := id hJ1
    refine cm_go hX7_joins 300 oX7_joins (eX7_joins d hd) lX7_joins_21 ?_
    simp (disch := omega) only [jX7_joins, kX7_joins_0, kX7_joins_1, fl_7_13, fl_7_119, fl_7_7, e2, hpP, q3, k0, r0, r2, r3, r6, r9, r10, r11, r12, r13, r14, r15, r16, r17, r18, r19, r22, r25, r26, r27, c1, c2, c3, c4, c5, c6, c7, c8, c9, c10, c11, c12, c13, c14, c15, c16, c17, c18, c19, l1, l2, l3, l4, l5, l6, l7, l8, l9, l10, l11, l12, l13, l14, l15, l16, l17, l18, l19, cn_iconst, cn_lconst0, cn_lconst1, cn_null, cn_iload, cn_aload, cn_lload, cn_lo1, cn_loa1, cn_loa2, cn_lol1, cn_get0, cn_gets, cn_put0, cn_puts, cn_istore, cn_astore, cn_astoreN, cn_lstore, cn_iinc, cn_in1, cn_iadd, cn_isub, cn_imul, cn_iand, cn_ior, cn_ixor, cn_ishl, cn_ishr, cn_iushr, cn_idiv, cn_irem, cn_ladd, cn_lmul, cn_ldiv, cn_lrem, cn_i2l, cn_l2i, cn_i2b, cn_lcmp, cn_dupi, cn_dupr, cn_dup2, cn_popi, cn_popr, cn_goto, cn_if_eq, cn_if_ne, cn_if_lt, cn_if_ge, cn_if_gt, cn_if_le, cn_ic_eq, cn_ic_ne, cn_ic_lt, cn_ic_ge, cn_ic_gt, cn_ic_le, cn_ifnullN, cn_ifnullR, cn_ifnonnullN, cn_ifnonnullR, cn_tswS, cn_tsw0, cn_tsw1, cn_lswS, cn_lsw0, cn_lsw1, cn_alen, cn_iaload, cn_laload, cn_rr1, cn_rr0, cn_aaload, cn_iastore, cn_lastore, cn_aastore, cn_getfield, cn_gf0, cn_gf1, cn_gf2, cn_gf3, cn_putfield, cn_pf0f, cn_pf1f, cn_pf2f, cn_pf3f, cn_pf0t, cn_pf1t, cn_pf2t, cn_pf3t, cn_new, cn_nw1, cn_newi, cn_newl, cn_anew, cn_an1, cn_inv_v, cn_inv_s, cn_inv_p, cn_ca1, cn_cb1, cn_pop0, cn_pops, cn_rk0, cn_rk1, cn_kcn, cn_kcs, cn_ireturn, cn_lreturn, cn_areturn, cn_return, cn_re0, cn_re1, cn_re2, cn_re3, cn_re4, cn_re5, cn_wp0, cn_wps, cn_m0, cn_m1, cn_e0, cn_en, cn_ei, cn_er, cn_eu, cn_el, cn_nl0, cn_nls, cn_nb0, cn_nb1, cn_nb2, cn_nb3, cn_bd0, cn_bds, cn_cwi, cn_cwr, cn_cwl, cn_cwn, cn_wi2, cn_wl1, cn_wl3, cn_wr1, cn_wr2, cn_wi_eq, cn_wl_eq, cb_0, cb_n0, cb_b, cm_okb0, cm_okb1, Classical.not_not, true_and, and_true, Nat.reduceAdd, Nat.reduceSub, Nat.reduceLT, Nat.reduceLeDiff, Int.reduceToNat, Int.reduceNatCast', Nat.zero_le, Nat.reduceEqDiff, false_or, or_false, or_true, true_or, Int.reduceNeg, reduceCtorEq, false_implies, implies_true, forall_const, true_implies, not_true_eq_false, not_false_eq_true, Nat.le_refl, ne_eq, if_true, if_false, ite_true, ite_false, List.cons_append, List.nil_append, w3_add, w3_sub, w3_mul, w3_le, w3_lt, w3_eq, w3_toInt, w3_ix, w3_00, w3_10, i0_le, i0_lt, i0_ge, i0_gt, i0_eq, Int.reduceLE, Int.reduceLT, Int.reduceAdd, Int.reduceSub, Int.reduceMul, Int.reduceEq, Int.le_refl, Int.lt_irrefl]
    refine ⟨fun q => by omega, fun _ => ?_⟩
    repeat (with_reducible refine And.intro (by omega) ?_)
    refine cK.at hT1 hκ hn hf3 (fun a a1 a2 a3 => ?_)
    simp (disch := omega) only [jX7_joins, kX7_joins_0, kX7_joins_1, fl_7_13, fl_7_119, fl_7_7, e2, k0, r0, r2, r3, r6, r9, r10, r11, r12, r13, r14, r15, r16, r17, r18, r19, r22, r25, r26, r27, c1, c2, c3, c4, c5, c6, c7, c8, c9, c10, c11, c12, c13, c14, c15, c16, c17, c18, c19, l1, l2, l3, l4, l5, l6, l7, l8, l9, l10, l11, l12, l13, l14, l15, l16, l17, l18, l19, cn_iconst, cn_lconst0, cn_lconst1, cn_null, cn_iload, cn_aload, cn_lload, cn_lo1, cn_loa1, cn_loa2, cn_lol1, cn_get0, cn_gets, cn_put0, cn_puts, cn_istore, cn_astore, cn_astoreN, cn_lstore, cn_iinc, cn_in1, cn_iadd, cn_isub, cn_imul, cn_iand, cn_ior, cn_ixor, cn_ishl, cn_ishr, cn_iushr, cn_idiv, cn_irem, cn_ladd, cn_lmul, cn_ldiv, cn_lrem, cn_i2l, cn_l2i, cn_i2b, cn_lcmp, cn_dupi, cn_dupr, cn_dup2, cn_popi, cn_popr, cn_goto, cn_if_eq, cn_if_ne, cn_if_lt, cn_if_ge, cn_if_gt, cn_if_le, cn_ic_eq, cn_ic_ne, cn_ic_lt, cn_ic_ge, cn_ic_gt, cn_ic_le, cn_ifnullN, cn_ifnullR, cn_ifnonnullN, cn_ifnonnullR, cn_tswS, cn_tsw0, cn_tsw1, cn_lswS, cn_lsw0, cn_lsw1, cn_alen, cn_iaload, cn_laload, cn_rr1, cn_rr0, cn_aaload, cn_iastore, cn_lastore, cn_aastore, cn_getfield, cn_gf0, cn_gf1, cn_gf2, cn_gf3, cn_putfield, cn_pf0f, cn_pf1f, cn_pf2f, cn_pf3f, cn_pf0t, cn_pf1t, cn_pf2t, cn_pf3t, cn_new, cn_nw1, cn_newi, cn_newl, cn_anew, cn_an1, cn_inv_v, cn_inv_s, cn_inv_p, cn_ca1, cn_cb1, cn_pop0, cn_pops, cn_rk0, cn_rk1, cn_kcn, cn_kcs, cn_ireturn, cn_lreturn, cn_areturn, cn_return, cn_re0, cn_re1, cn_re2, cn_re3, cn_re4, cn_re5, cn_wp0, cn_wps, cn_m0, cn_m1, cn_e0, cn_en, cn_ei, cn_er, cn_eu, cn_el, cn_nl0, cn_nls, cn_nb0, cn_nb1, cn_nb2, cn_nb3, cn_bd0, cn_bds, cn_cwi, cn_cwr, cn_cwl, cn_cwn, cn_wi2, cn_wl1, cn_wl3, cn_wr1, cn_wr2, cn_wi_eq, cn_wl_eq, cb_0, cb_n0, cb_b, cm_okb0, cm_okb1, Classical.not_not, true_and, and_true, Nat.reduceAdd, Nat.reduceSub, Nat.reduceLT, Nat.reduceLeDiff, Int.reduceToNat, Int.reduceNatCast', Nat.zero_le, Nat.reduceEqDiff, false_or, or_false, or_true, true_or, Int.reduceNeg, reduceCtorEq, false_implies, implies_true, forall_const, true_implies, not_true_eq_false, not_false_eq_true, Nat.le_refl, ne_eq, if_true, if_false, ite_true, ite_false, List.cons_append, List.nil_append, w3_add, w3_sub, w3_mul, w3_le, w3_lt, w3_eq, w3_toInt, w3_ix, w3_00, w3_10, i0_le, i0_lt, i0_ge, i0_gt, i0_eq, Int.reduceLE, Int.reduceLT, Int.reduceAdd, Int.reduceSub, Int.reduceMul, Int.reduceEq, Int.le_refl, Int.lt_irrefl]
    refine cO.at hT1 hω hn hf3 (fun b b1 b2 b3 => ?_)
    simp (disch := omega) only [jX7_joins, kX7_joins_0, kX7_joins_1, fl_7_13, fl_7_119, fl_7_7, e2, k0, r0, r2, r3, r6, r9, r10, r11, r12, r13, r14, r15, r16, r17, r18, r19, r22, r25, r26, r27, c1, c2, c3, c4, c5, c6, c7, c8, c9, c10, c11, c12, c13, c14, c15, c16, c17, c18, c19, l1, l2, l3, l4, l5, l6, l7, l8, l9, l10, l11, l12, l13, l14, l15, l16, l17, l18, l19, cn_iconst, cn_lconst0, cn_lconst1, cn_null, cn_iload, cn_aload, cn_lload, cn_lo1, cn_loa1, cn_loa2, cn_lol1, cn_get0, cn_gets, cn_put0, cn_puts, cn_istore, cn_astore, cn_astoreN, cn_lstore, cn_iinc, cn_in1, cn_iadd, cn_isub, cn_imul, cn_iand, cn_ior, cn_ixor, cn_ishl, cn_ishr, cn_iushr, cn_idiv, cn_irem, cn_ladd, cn_lmul, cn_ldiv, cn_lrem, cn_i2l, cn_l2i, cn_i2b, cn_lcmp, cn_dupi, cn_dupr, cn_dup2, cn_popi, cn_popr, cn_goto, cn_if_eq, cn_if_ne, cn_if_lt, cn_if_ge, cn_if_gt, cn_if_le, cn_ic_eq, cn_ic_ne, cn_ic_lt, cn_ic_ge, cn_ic_gt, cn_ic_le, cn_ifnullN, cn_ifnullR, cn_ifnonnullN, cn_ifnonnullR, cn_tswS, cn_tsw0, cn_tsw1, cn_lswS, cn_lsw0, cn_lsw1, cn_alen, cn_iaload, cn_laload, cn_rr1, cn_rr0, cn_aaload, cn_iastore, cn_lastore, cn_aastore, cn_getfield, cn_gf0, cn_gf1, cn_gf2, cn_gf3, cn_putfield, cn_pf0f, cn_pf1f, cn_pf2f, cn_pf3f, cn_pf0t, cn_pf1t, cn_pf2t, cn_pf3t, cn_new, cn_nw1, cn_newi, cn_newl, cn_anew, cn_an1, cn_inv_v, cn_inv_s, cn_inv_p, cn_ca1, cn_cb1, cn_pop0, cn_pops, cn_rk0, cn_rk1, cn_kcn, cn_kcs, cn_ireturn, cn_lreturn, cn_areturn, cn_return, cn_re0, cn_re1, cn_re2, cn_re3, cn_re4, cn_re5, cn_wp0, cn_wps, cn_m0, cn_m1, cn_e0, cn_en, cn_ei, cn_er, cn_eu, cn_el, cn_nl0, cn_nls, cn_nb0, cn_nb1, cn_nb2, cn_nb3, cn_bd0, cn_bds, cn_cwi, cn_cwr, cn_cwl, cn_cwn, cn_wi2, cn_wl1, cn_wl3, cn_wr1, cn_wr2, cn_wi_eq, cn_wl_eq, cb_0, cb_n0, cb_b, cm_okb0, cm_okb1, Classical.not_not, true_and, and_true, Nat.reduceAdd, Nat.reduceSub, Nat.reduceLT, Nat.reduceLeDiff, Int.reduceToNat, Int.reduceNatCast', Nat.zero_le, Nat.reduceEqDiff, false_or, or_false, or_true, true_or, Int.reduceNeg, reduceCtorEq, false_implies, implies_true, forall_const, true_implies, not_true_eq_false, not_false_eq_true, Nat.le_refl, ne_eq, if_true, if_false, ite_true, ite_false, List.cons_append, List.nil_append, w3_add, w3_sub, w3_mul, w3_le, w3_lt, w3_eq, w3_toInt, w3_ix, w3_00, w3_10, i0_le, i0_lt, i0_ge, i0_gt, i0_eq, Int.reduceLE, Int.reduceLT, Int.reduceAdd, Int.reduceSub, Int.reduceMul, Int.reduceEq, Int.le_refl, Int.lt_irrefl]
    refine ⟨ν, f, rfl, rfl, ?_⟩
    simp (disch := omega) only [jX7_joins, kX7_joins_0, kX7_joins_1, fl_7_13, fl_7_119, fl_7_7, e2, k0, r0, r2, r3, r6, r9, r10, r11, r12, r13, r14, r15, r16, r17, r18, r19, r22, r25, r26, r27, c1, c2, c3, c4, c5, c6, c7, c8, c9, c10, c11, c12, c13, c14, c15, c16, c17, c18, c19, l1, l2, l3, l4, l5, l6, l7, l8, l9, l10, l11, l12, l13, l14, l15, l16, l17, l18, l19, cn_iconst, cn_lconst0, cn_lconst1, cn_null, cn_iload, cn_aload, cn_lload, cn_lo1, cn_loa1, cn_loa2, cn_lol1, cn_get0, cn_gets, cn_put0, cn_puts, cn_istore, cn_astore, cn_astoreN, cn_lstore, cn_iinc, cn_in1, cn_iadd, cn_isub, cn_imul, cn_iand, cn_ior, cn_ixor, cn_ishl, cn_ishr, cn_iushr, cn_idiv, cn_irem, cn_ladd, cn_lmul, cn_ldiv, cn_lrem, cn_i2l, cn_l2i, cn_i2b, cn_lcmp, cn_dupi, cn_dupr, cn_dup2, cn_popi, cn_popr, cn_goto, cn_if_eq, cn_if_ne, cn_if_lt, cn_if_ge, cn_if_gt, cn_if_le, cn_ic_eq, cn_ic_ne, cn_ic_lt, cn_ic_ge, cn_ic_gt, cn_ic_le, cn_ifnullN, cn_ifnullR, cn_ifnonnullN, cn_ifnonnullR, cn_tswS, cn_tsw0, cn_tsw1, cn_lswS, cn_lsw0, cn_lsw1, cn_alen, cn_iaload, cn_laload, cn_rr1, cn_rr0, cn_aaload, cn_iastore, cn_lastore, cn_aastore, cn_getfield, cn_gf0, cn_gf1, cn_gf2, cn_gf3, cn_putfield, cn_pf0f, cn_pf1f, cn_pf2f, cn_pf3f, cn_pf0t, cn_pf1t, cn_pf2t, cn_pf3t, cn_new, cn_nw1, cn_newi, cn_newl, cn_anew, cn_an1, cn_inv_v, cn_inv_s, cn_inv_p, cn_ca1, cn_cb1, cn_pop0, cn_pops, cn_rk0, cn_rk1, cn_kcn, cn_kcs, cn_ireturn, cn_lreturn, cn_areturn, cn_return, cn_re0, cn_re1, cn_re2, cn_re3, cn_re4, cn_re5, cn_wp0, cn_wps, cn_m0, cn_m1, cn_e0, cn_en, cn_ei, cn_er, cn_eu, cn_el, cn_nl0, cn_nls, cn_nb0, cn_nb1, cn_nb2, cn_nb3, cn_bd0, cn_bds, cn_cwi, cn_cwr, cn_cwl, cn_cwn, cn_wi2, cn_wl1, cn_wl3, cn_wr1, cn_wr2, cn_wi_eq, cn_wl_eq, cb_0, cb_n0, cb_b, cm_okb0, cm_okb1, Classical.not_not, true_and, and_true, Nat.reduceAdd, Nat.reduceSub, Nat.reduceLT, Nat.reduceLeDiff, Int.reduceToNat, Int.reduceNatCast', Nat.zero_le, Nat.reduceEqDiff, false_or, or_false, or_true, true_or, Int.reduceNeg, reduceCtorEq, false_implies, implies_true, forall_const, true_implies, not_true_eq_false, not_false_eq_true, Nat.le_refl, ne_eq, if_true, if_false, ite_true, ite_false, List.cons_append, List.nil_append, w3_add, w3_sub, w3_mul, w3_le, w3_lt, w3_eq, w3_toInt, w3_ix, w3_00, w3_10, i0_le, i0_lt, i0_ge, i0_gt, i0_eq, Int.reduceLE, Int.reduceLT, Int.reduceAdd, Int.reduceSub, Int.reduceMul, Int.reduceEq, Int.le_refl, Int.lt_irrefl]
    have ev : ((127 * ν + 4 + 41 * f : Nat) : Int) = 127 * (ν : Int) + 4 + 41 * (f : Int) := by omega
    have eV : fA (M1.1 (m + 1)) ((127 * ν + 4 + 41 * f : Nat) : Int) = pkF V f := by rw [ev, hV, tA_k hf3]
    have eto : (16792 + 41 * (f : Int)) = ((16792 + 41 * f : Nat) : Int) := by omega
    rw [eto]
    refine ⟨16792 + 41 * f, a, b, 127 * ν + 4 + 41 * f, false, hT1, ⟨rfl, rfl, rfl, rfl, rfl⟩, by omega, ⟨a2, b2, ⟨by rw [ev]; exact (hVs f hf3).1, by rw [ev]; exact (hVs f hf3).2, by omega⟩⟩, ⟨by rw [a3]; exact bF.k hf3, by rw [b3]; exact bG.k hf3, by rw [eV]; exact bV.k hf3⟩, ⟨Or.inl (by omega), Or.inl (by omega), Or.inl (by omega)⟩, fun M2 Y F2 h21 y1 y2 hno hyes => ?_⟩
    rw [a3, b3, eV] at hno hyes ⊢
    have E2 := F2.2.trans e2
    have hT2 : TMd T M2.2.2 m := by rw [E2]; exact hT
    have hp2 : M2.1 (m + 2) (κ : Int) = w3 P := by rw [F2.1 _ _ (by unfold mfP; omega)]; exact hpP
    have F2r : Fz (reP m κ) M M2 := F1.trans (F2.mono (fun q k w => by unfold mfP at w; unfold reP; omega))
    cases hm : mgF false (pkF F f) (pkF V f) (pkF G f) with
    | none =>
      have h40 := hno hm
      have q40 : ((40 : Int) < Y) = True := eq_true h40
      simp (disch := omega) only [jX7_joins, kX7_joins_0, kX7_joins_1, fl_7_13, fl_7_119, fl_7_7, E2, h21, q40, hp2, k0, r0, r2, r3, r6, r9, r10, r11, r12, r13, r14, r15, r16, r17, r18, r19, r22, r25, r26, r27, c1, c2, c3, c4, c5, c6, c7, c8, c9, c10, c11, c12, c13, c14, c15, c16, c17, c18, c19, l1, l2, l3, l4, l5, l6, l7, l8, l9, l10, l11, l12, l13, l14, l15, l16, l17, l18, l19, cn_iconst, cn_lconst0, cn_lconst1, cn_null, cn_iload, cn_aload, cn_lload, cn_lo1, cn_loa1, cn_loa2, cn_lol1, cn_get0, cn_gets, cn_put0, cn_puts, cn_istore, cn_astore, cn_astoreN, cn_lstore, cn_iinc, cn_in1, cn_iadd, cn_isub, cn_imul, cn_iand, cn_ior, cn_ixor, cn_ishl, cn_ishr, cn_iushr, cn_idiv, cn_irem, cn_ladd, cn_lmul, cn_ldiv, cn_lrem, cn_i2l, cn_l2i, cn_i2b, cn_lcmp, cn_dupi, cn_dupr, cn_dup2, cn_popi, cn_popr, cn_goto, cn_if_eq, cn_if_ne, cn_if_lt, cn_if_ge, cn_if_gt, cn_if_le, cn_ic_eq, cn_ic_ne, cn_ic_lt, cn_ic_ge, cn_ic_gt, cn_ic_le, cn_ifnullN, cn_ifnullR, cn_ifnonnullN, cn_ifnonnullR, cn_tswS, cn_tsw0, cn_tsw1, cn_lswS, cn_lsw0, cn_lsw1, cn_alen, cn_iaload, cn_laload, cn_rr1, cn_rr0, cn_aaload, cn_iastore, cn_lastore, cn_aastore, cn_getfield, cn_gf0, cn_gf1, cn_gf2, cn_gf3, cn_putfield, cn_pf0f, cn_pf1f, cn_pf2f, cn_pf3f, cn_pf0t, cn_pf1t, cn_pf2t, cn_pf3t, cn_new, cn_nw1, cn_newi, cn_newl, cn_anew, cn_an1, cn_inv_v, cn_inv_s, cn_inv_p, cn_ca1, cn_cb1, cn_pop0, cn_pops, cn_rk0, cn_rk1, cn_kcn, cn_kcs, cn_ireturn, cn_lreturn, cn_areturn, cn_return, cn_re0, cn_re1, cn_re2, cn_re3, cn_re4, cn_re5, cn_wp0, cn_wps, cn_m0, cn_m1, cn_e0, cn_en, cn_ei, cn_er, cn_eu, cn_el, cn_nl0, cn_nls, cn_nb0, cn_nb1, cn_nb2, cn_nb3, cn_bd0, cn_bds, cn_cwi, cn_cwr, cn_cwl, cn_cwn, cn_wi2, cn_wl1, cn_wl3, cn_wr1, cn_wr2, cn_wi_eq, cn_wl_eq, cb_0, cb_n0, cb_b, cm_okb0, cm_okb1, Classical.not_not, true_and, and_true, Nat.reduceAdd, Nat.reduceSub, Nat.reduceLT, Nat.reduceLeDiff, Int.reduceToNat, Int.reduceNatCast', Nat.zero_le, Nat.reduceEqDiff, false_or, or_false, or_true, true_or, Int.reduceNeg, reduceCtorEq, false_implies, implies_true, forall_const, true_implies, not_true_eq_false, not_false_eq_true, Nat.le_refl, ne_eq, if_true, if_false, ite_true, ite_false, List.cons_append, List.nil_append, w3_add, w3_sub, w3_mul, w3_le, w3_lt, w3_eq, w3_toInt, w3_ix, w3_00, w3_10, i0_le, i0_lt, i0_ge, i0_gt, i0_eq, Int.reduceLE, Int.reduceLT, Int.reduceAdd, Int.reduceSub, Int.reduceMul, Int.reduceEq, Int.le_refl, Int.lt_irrefl]
      repeat (with_reducible refine And.intro (by omega) ?_)
      have hT3 : TMd T (cm_wi M2 (m + 2) (κ : Int) (w3 3)).2.2 m := by rw [cn_wi2]; exact hT2
      refine l3X7_joins d hd (f := f + 1) hT3 hκ (by omega) cn_wi_eq (hS _ ((F2r.mono (fun q k w => by unfold reP at w; unfold joP; omega)).trans (Fz.wi (by unfold joP; omega))) (fun _ => cn_wi_eq) (fun H w => ?_))
      rw [mg3_n hf3 hm] at w
      cases w
    | some br =>
      obtain ⟨tb1, R⟩ := br
      obtain ⟨z1, z2, z3⟩ := hyes tb1 R hm
      have q40 : ((40 : Int) < Y) = False := eq_false (by omega)
      have q40' : (Y ≤ 40) = True := eq_true z1
      have fin : ∀ o5 : Option Value, cm_Go d cX7_joins 6 0 0 JX7_joins Φ 21 [some (.ref m), some (.int (w3 (κ : Int))), some (.int (w3 (ν : Int))), some (.int (w3 (ω : Int))), some (.int (w3 ((f : Int) + 1))), o5] [] (0, 0) T (cm_wi M2 (m + 2) (κ : Int) (w3 P)) := by
        intro o5
        refine ih (f + 1) _ o5 (by omega) (F2r.trans (Fz.wi (by unfold reP; omega))) (by rw [cn_wi_eq, hP]) (fun φ hφ => ?_)
        rw [wi_r (by omega)]
        by_cases e : φ = f
        · subst e
          refine ⟨tb1, ?_, ?_⟩
          · rw [hm, eto, z3]
          · rw [eto, z2, w3_toInt (by omega) (by omega)]; exact ⟨y1, z1⟩
        · obtain ⟨b', x', y', y''⟩ := hr φ (by omega)
          have rz : ∀ z : Int, z < 16792 + 41 * (f : Int) → M2.1 (m + 1) z = M1.1 (m + 1) z := fun z hz => F2.1 _ _ (by unfold mfP; omega)
          refine ⟨b', ?_, ?_⟩
          · rw [x', fA_cong (g := M2.1 (m + 1)) (b := 16792 + 41 * (φ : Int)) (rz _ (by omega)).symm y'' (fun k k1 k2 => (rz _ (by omega)).symm)]
          · rw [rz _ (by omega)]; exact ⟨y', y''⟩
      have hmt : mgt false (pkF F f) (pkF V f) (pkF G f) = tb1 := by unfold mgt; rw [hm]
      rw [hmt]
      cases tb1 with
      | false =>
        simp (disch := omega) only [jX7_joins, kX7_joins_0, kX7_joins_1, fl_7_13, fl_7_119, fl_7_7, E2, h21, q40, q40', hp2, tbf, tbt, k0, r0, r2, r3, r6, r9, r10, r11, r12, r13, r14, r15, r16, r17, r18, r19, r22, r25, r26, r27, c1, c2, c3, c4, c5, c6, c7, c8, c9, c10, c11, c12, c13, c14, c15, c16, c17, c18, c19, l1, l2, l3, l4, l5, l6, l7, l8, l9, l10, l11, l12, l13, l14, l15, l16, l17, l18, l19, cn_iconst, cn_lconst0, cn_lconst1, cn_null, cn_iload, cn_aload, cn_lload, cn_lo1, cn_loa1, cn_loa2, cn_lol1, cn_get0, cn_gets, cn_put0, cn_puts, cn_istore, cn_astore, cn_astoreN, cn_lstore, cn_iinc, cn_in1, cn_iadd, cn_isub, cn_imul, cn_iand, cn_ior, cn_ixor, cn_ishl, cn_ishr, cn_iushr, cn_idiv, cn_irem, cn_ladd, cn_lmul, cn_ldiv, cn_lrem, cn_i2l, cn_l2i, cn_i2b, cn_lcmp, cn_dupi, cn_dupr, cn_dup2, cn_popi, cn_popr, cn_goto, cn_if_eq, cn_if_ne, cn_if_lt, cn_if_ge, cn_if_gt, cn_if_le, cn_ic_eq, cn_ic_ne, cn_ic_lt, cn_ic_ge, cn_ic_gt, cn_ic_le, cn_ifnullN, cn_ifnullR, cn_ifnonnullN, cn_ifnonnullR, cn_tswS, cn_tsw0, cn_tsw1, cn_lswS, cn_lsw0, cn_lsw1, cn_alen, cn_iaload, cn_laload, cn_rr1, cn_rr0, cn_aaload, cn_iastore, cn_lastore, cn_aastore, cn_getfield, cn_gf0, cn_gf1, cn_gf2, cn_gf3, cn_putfield, cn_pf0f, cn_pf1f, cn_pf2f, cn_pf3f, cn_pf0t, cn_pf1t, cn_pf2t, cn_pf3t, cn_new, cn_nw1, cn_newi, cn_newl, cn_anew, cn_an1, cn_inv_v, cn_inv_s, cn_inv_p, cn_ca1, cn_cb1, cn_pop0, cn_pops, cn_rk0, cn_rk1, cn_kcn, cn_kcs, cn_ireturn, cn_lreturn, cn_areturn, cn_return, cn_re0, cn_re1, cn_re2, cn_re3, cn_re4, cn_re5, cn_wp0, cn_wps, cn_m0, cn_m1, cn_e0, cn_en, cn_ei, cn_er, cn_eu, cn_el, cn_nl0, cn_nls, cn_nb0, cn_nb1, cn_nb2, cn_nb3, cn_bd0, cn_bds, cn_cwi, cn_cwr, cn_cwl, cn_cwn, cn_wi2, cn_wl1, cn_wl3, cn_wr1, cn_wr2, cn_wi_eq, cn_wl_eq, cb_0, cb_n0, cb_b, cm_okb0, cm_okb1, Classical.not_not, true_and, and_true, Nat.reduceAdd, Nat.reduceSub, Nat.reduceLT, Nat.reduceLeDiff, Int.reduceToNat, Int.reduceNatCast', Nat.zero_le, Nat.reduceEqDiff, false_or, or_false, or_true, true_or, Int.reduceNeg, reduceCtorEq, false_implies, implies_true, forall_const, true_implies, not_true_eq_false, not_false_eq_true, Nat.le_refl, ne_eq, if_true, if_false, ite_true, ite_false, List.cons_append, List.nil_append, w3_add, w3_sub, w3_mul, w3_le, w3_lt, w3_eq, w3_toInt, w3_ix, w3_00, w3_10, i0_le, i0_lt, i0_ge, i0_gt, i0_eq, Int.reduceLE, Int.reduceLT, Int.reduceAdd, Int.reduceSub, Int.reduceMul, Int.reduceEq, Int.le_refl, Int.lt_irrefl]
        repeat (with_reducible refine And.intro (by omega) ?_)
        exact fin _
      | true =>
        simp (disch := omega) only [jX7_joins, kX7_joins_0, kX7_joins_1, fl_7_13, fl_7_119, fl_7_7, E2, h21, q40, q40', hp2, tbf, tbt, k0, r0, r2, r3, r6, r9, r10, r11, r12, r13, r14, r15, r16, r17, r18, r19, r22, r25, r26, r27, c1, c2, c3, c4, c5, c6, c7, c8, c9, c10, c11, c12, c13, c14, c15, c16, c17, c18, c19, l1, l2, l3, l4, l5, l6, l7, l8, l9, l10, l11, l12, l13, l14, l15, l16, l17, l18, l19, cn_iconst, cn_lconst0, cn_lconst1, cn_null, cn_iload, cn_aload, cn_lload, cn_lo1, cn_loa1, cn_loa2, cn_lol1, cn_get0, cn_gets, cn_put0, cn_puts, cn_istore, cn_astore, cn_astoreN, cn_lstore, cn_iinc, cn_in1, cn_iadd, cn_isub, cn_imul, cn_iand, cn_ior, cn_ixor, cn_ishl, cn_ishr, cn_iushr, cn_idiv, cn_irem, cn_ladd, cn_lmul, cn_ldiv, cn_lrem, cn_i2l, cn_l2i, cn_i2b, cn_lcmp, cn_dupi, cn_dupr, cn_dup2, cn_popi, cn_popr, cn_goto, cn_if_eq, cn_if_ne, cn_if_lt, cn_if_ge, cn_if_gt, cn_if_le, cn_ic_eq, cn_ic_ne, cn_ic_lt, cn_ic_ge, cn_ic_gt, cn_ic_le, cn_ifnullN, cn_ifnullR, cn_ifnonnullN, cn_ifnonnullR, cn_tswS, cn_tsw0, cn_tsw1, cn_lswS, cn_lsw0, cn_lsw1, cn_alen, cn_iaload, cn_laload, cn_rr1, cn_rr0, cn_aaload, cn_iastore, cn_lastore, cn_aastore, cn_getfield, cn_gf0, cn_gf1, cn_gf2, cn_gf3, cn_putfield, cn_pf0f, cn_pf1f, cn_pf2f, cn_pf3f, cn_pf0t, cn_pf1t, cn_pf2t, cn_pf3t, cn_new, cn_nw1, cn_newi, cn_newl, cn_anew, cn_an1, cn_inv_v, cn_inv_s, cn_inv_p, cn_ca1, cn_cb1, cn_pop0, cn_pops, cn_rk0, cn_rk1, cn_kcn, cn_kcs, cn_ireturn, cn_lreturn, cn_areturn, cn_return, cn_re0, cn_re1, cn_re2, cn_re3, cn_re4, cn_re5, cn_wp0, cn_wps, cn_m0, cn_m1, cn_e0, cn_en, cn_ei, cn_er, cn_eu, cn_el, cn_nl0, cn_nls, cn_nb0, cn_nb1, cn_nb2, cn_nb3, cn_bd0, cn_bds, cn_cwi, cn_cwr, cn_cwl, cn_cwn, cn_wi2, cn_wl1, cn_wl3, cn_wr1, cn_wr2, cn_wi_eq, cn_wl_eq, cb_0, cb_n0, cb_b, cm_okb0, cm_okb1, Classical.not_not, true_and, and_true, Nat.reduceAdd, Nat.reduceSub, Nat.reduceLT, Nat.reduceLeDiff, Int.reduceToNat, Int.reduceNatCast', Nat.zero_le, Nat.reduceEqDiff, false_or, or_false, or_true, true_or, Int.reduceNeg, reduceCtorEq, false_implies, implies_true, forall_const, true_implies, not_true_eq_false, not_false_eq_true, Nat.le_refl, ne_eq, if_true, if_false, ite_true, ite_false, List.cons_append, List.nil_append, w3_add, w3_sub, w3_mul, w3_le, w3_lt, w3_eq, w3_toInt, w3_ix, w3_00, w3_10, i0_le, i0_lt, i0_ge, i0_gt, i0_eq, Int.reduceLE, Int.reduceLT, Int.reduceAdd, Int.reduceSub, Int.reduceMul, Int.reduceEq, Int.le_refl, Int.lt_irrefl]
        repeat (with_reducible refine And.intro (by omega) ?_)
        exact fin _
set_option maxHeartbeats 4000000 in
theorem mX7_joins (d : Nat) (hd : 7 ≤ d) : cm_Met d yX7_joins cX7_joins 6 none 0 0 SX7_joins := by
  refine cm_meets (J := JX7_joins) (by decide) rfl (fun h => by cases h) trivial ?_
  intro as T M Φ hS
  match as, hS with
  | [.ref m0, .int k, .int v, .int o], ⟨n, κ, ν, ω, ek, ev, eo, hS⟩ =>
    refine ⟨Nat.le_of_ble_eq_true rfl, ?_⟩
    obtain ⟨m, hm⟩ : ∃ m : Nat, m = m0 := ⟨m0, rfl⟩
    subst hm
    subst ek ev eo
    rcases hS with ⟨hT, hκ, hω, h3, hS⟩ | ⟨F, V, G, hJ, hS⟩
    · skip
      obtain ⟨k0, ⟨r0, r2, r3, r6, r9, r10, r11, r12, r13, r14, r15, r16, r17, r18, r19, r22, r25, r26, r27⟩, ⟨c1, c2, c3, c4, c5, c6, c7, c8, c9, c10, c11, c12, c13, c14, c15, c16, c17, c18, c19⟩, ⟨l1, l2, l3, l4, l5, l6, l7, l8, l9, l10, l11, l12, l13, l14, l15, l16, l17, l18, l19⟩⟩ := id hT
      have q : (w3 3 = w3 3) = True := eq_true rfl
      refine cm_go hX7_joins 300 oX7_joins (eX7_joins d hd) lX7_joins_0 ?_
      simp (disch := omega) only [jX7_joins, kX7_joins_0, kX7_joins_1, fl_7_13, fl_7_119, fl_7_7, h3, k0, r0, r2, r3, r6, r9, r10, r11, r12, r13, r14, r15, r16, r17, r18, r19, r22, r25, r26, r27, c1, c2, c3, c4, c5, c6, c7, c8, c9, c10, c11, c12, c13, c14, c15, c16, c17, c18, c19, l1, l2, l3, l4, l5, l6, l7, l8, l9, l10, l11, l12, l13, l14, l15, l16, l17, l18, l19, cn_iconst, cn_lconst0, cn_lconst1, cn_null, cn_iload, cn_aload, cn_lload, cn_lo1, cn_loa1, cn_loa2, cn_lol1, cn_get0, cn_gets, cn_put0, cn_puts, cn_istore, cn_astore, cn_astoreN, cn_lstore, cn_iinc, cn_in1, cn_iadd, cn_isub, cn_imul, cn_iand, cn_ior, cn_ixor, cn_ishl, cn_ishr, cn_iushr, cn_idiv, cn_irem, cn_ladd, cn_lmul, cn_ldiv, cn_lrem, cn_i2l, cn_l2i, cn_i2b, cn_lcmp, cn_dupi, cn_dupr, cn_dup2, cn_popi, cn_popr, cn_goto, cn_if_eq, cn_if_ne, cn_if_lt, cn_if_ge, cn_if_gt, cn_if_le, cn_ic_eq, cn_ic_ne, cn_ic_lt, cn_ic_ge, cn_ic_gt, cn_ic_le, cn_ifnullN, cn_ifnullR, cn_ifnonnullN, cn_ifnonnullR, cn_tswS, cn_tsw0, cn_tsw1, cn_lswS, cn_lsw0, cn_lsw1, cn_alen, cn_iaload, cn_laload, cn_rr1, cn_rr0, cn_aaload, cn_iastore, cn_lastore, cn_aastore, cn_getfield, cn_gf0, cn_gf1, cn_gf2, cn_gf3, cn_putfield, cn_pf0f, cn_pf1f, cn_pf2f, cn_pf3f, cn_pf0t, cn_pf1t, cn_pf2t, cn_pf3t, cn_new, cn_nw1, cn_newi, cn_newl, cn_anew, cn_an1, cn_inv_v, cn_inv_s, cn_inv_p, cn_ca1, cn_cb1, cn_pop0, cn_pops, cn_rk0, cn_rk1, cn_kcn, cn_kcs, cn_ireturn, cn_lreturn, cn_areturn, cn_return, cn_re0, cn_re1, cn_re2, cn_re3, cn_re4, cn_re5, cn_wp0, cn_wps, cn_m0, cn_m1, cn_e0, cn_en, cn_ei, cn_er, cn_eu, cn_el, cn_nl0, cn_nls, cn_nb0, cn_nb1, cn_nb2, cn_nb3, cn_bd0, cn_bds, cn_cwi, cn_cwr, cn_cwl, cn_cwn, cn_wi2, cn_wl1, cn_wl3, cn_wr1, cn_wr2, cn_wi_eq, cn_wl_eq, cb_0, cb_n0, cb_b, cm_okb0, cm_okb1, Classical.not_not, true_and, and_true, Nat.reduceAdd, Nat.reduceSub, Nat.reduceLT, Nat.reduceLeDiff, Int.reduceToNat, Int.reduceNatCast', Nat.zero_le, Nat.reduceEqDiff, false_or, or_false, or_true, true_or, Int.reduceNeg, reduceCtorEq, false_implies, implies_true, forall_const, true_implies, not_true_eq_false, not_false_eq_true, Nat.le_refl, ne_eq, if_true, if_false, ite_true, ite_false, List.cons_append, List.nil_append, w3_add, w3_sub, w3_mul, w3_le, w3_lt, w3_eq, w3_toInt, w3_ix, w3_00, w3_10, i0_le, i0_lt, i0_ge, i0_gt, i0_eq, Int.reduceLE, Int.reduceLT, Int.reduceAdd, Int.reduceSub, Int.reduceMul, Int.reduceEq, Int.le_refl, Int.lt_irrefl]
      exact ⟨by omega, by omega, hS⟩
    · have hT := hJ.1
      obtain ⟨k0, ⟨r0, r2, r3, r6, r9, r10, r11, r12, r13, r14, r15, r16, r17, r18, r19, r22, r25, r26, r27⟩, ⟨c1, c2, c3, c4, c5, c6, c7, c8, c9, c10, c11, c12, c13, c14, c15, c16, c17, c18, c19⟩, ⟨l1, l2, l3, l4, l5, l6, l7, l8, l9, l10, l11, l12, l13, l14, l15, l16, l17, l18, l19⟩⟩ := id hT
      have hω := hJ.2.2.2.1
      have hG := hJ.2.2.2.2.2.2.2.1
      have q : (M.1 (m + 2) (ω : Int) = w3 3) = False := eq_false (fun w => by
        rcases hG with ⟨a, -⟩ | ⟨a, -⟩
        · rw [a] at w; exact absurd w (by decide)
        · rw [a] at w; exact absurd w (by decide))
      refine cm_go hX7_joins 300 oX7_joins (eX7_joins d hd) lX7_joins_0 ?_
      simp (disch := omega) only [jX7_joins, kX7_joins_0, kX7_joins_1, fl_7_13, fl_7_119, fl_7_7, q, k0, r0, r2, r3, r6, r9, r10, r11, r12, r13, r14, r15, r16, r17, r18, r19, r22, r25, r26, r27, c1, c2, c3, c4, c5, c6, c7, c8, c9, c10, c11, c12, c13, c14, c15, c16, c17, c18, c19, l1, l2, l3, l4, l5, l6, l7, l8, l9, l10, l11, l12, l13, l14, l15, l16, l17, l18, l19, cn_iconst, cn_lconst0, cn_lconst1, cn_null, cn_iload, cn_aload, cn_lload, cn_lo1, cn_loa1, cn_loa2, cn_lol1, cn_get0, cn_gets, cn_put0, cn_puts, cn_istore, cn_astore, cn_astoreN, cn_lstore, cn_iinc, cn_in1, cn_iadd, cn_isub, cn_imul, cn_iand, cn_ior, cn_ixor, cn_ishl, cn_ishr, cn_iushr, cn_idiv, cn_irem, cn_ladd, cn_lmul, cn_ldiv, cn_lrem, cn_i2l, cn_l2i, cn_i2b, cn_lcmp, cn_dupi, cn_dupr, cn_dup2, cn_popi, cn_popr, cn_goto, cn_if_eq, cn_if_ne, cn_if_lt, cn_if_ge, cn_if_gt, cn_if_le, cn_ic_eq, cn_ic_ne, cn_ic_lt, cn_ic_ge, cn_ic_gt, cn_ic_le, cn_ifnullN, cn_ifnullR, cn_ifnonnullN, cn_ifnonnullR, cn_tswS, cn_tsw0, cn_tsw1, cn_lswS, cn_lsw0, cn_lsw1, cn_alen, cn_iaload, cn_laload, cn_rr1, cn_rr0, cn_aaload, cn_iastore, cn_lastore, cn_aastore, cn_getfield, cn_gf0, cn_gf1, cn_gf2, cn_gf3, cn_putfield, cn_pf0f, cn_pf1f, cn_pf2f, cn_pf3f, cn_pf0t, cn_pf1t, cn_pf2t, cn_pf3t, cn_new, cn_nw1, cn_newi, cn_newl, cn_anew, cn_an1, cn_inv_v, cn_inv_s, cn_inv_p, cn_ca1, cn_cb1, cn_pop0, cn_pops, cn_rk0, cn_rk1, cn_kcn, cn_kcs, cn_ireturn, cn_lreturn, cn_areturn, cn_return, cn_re0, cn_re1, cn_re2, cn_re3, cn_re4, cn_re5, cn_wp0, cn_wps, cn_m0, cn_m1, cn_e0, cn_en, cn_ei, cn_er, cn_eu, cn_el, cn_nl0, cn_nls, cn_nb0, cn_nb1, cn_nb2, cn_nb3, cn_bd0, cn_bds, cn_cwi, cn_cwr, cn_cwl, cn_cwn, cn_wi2, cn_wl1, cn_wl3, cn_wr1, cn_wr2, cn_wi_eq, cn_wl_eq, cb_0, cb_n0, cb_b, cm_okb0, cm_okb1, Classical.not_not, true_and, and_true, Nat.reduceAdd, Nat.reduceSub, Nat.reduceLT, Nat.reduceLeDiff, Int.reduceToNat, Int.reduceNatCast', Nat.zero_le, Nat.reduceEqDiff, false_or, or_false, or_true, true_or, Int.reduceNeg, reduceCtorEq, false_implies, implies_true, forall_const, true_implies, not_true_eq_false, not_false_eq_true, Nat.le_refl, ne_eq, if_true, if_false, ite_true, ite_false, List.cons_append, List.nil_append, w3_add, w3_sub, w3_mul, w3_le, w3_lt, w3_eq, w3_toInt, w3_ix, w3_00, w3_10, i0_le, i0_lt, i0_ge, i0_gt, i0_eq, Int.reduceLE, Int.reduceLT, Int.reduceAdd, Int.reduceSub, Int.reduceMul, Int.reduceEq, Int.le_refl, Int.lt_irrefl]
      repeat (with_reducible refine And.intro (by omega) ?_)
      exact lX7_joins d hd hJ hS 3 0 M _ rfl Fz.rf rfl (fun φ hφ => absurd hφ (Nat.not_lt_zero _))

def tv0 : Tv := (w3 0, none, none, none)
/-- a text is read: its fault (-9: none), and what has come -/
noncomputable def rdG : Option Nat → Tv → Nat → List Int32 → Int × Tv
  | _, t, _, [] => (-9, t)
  | cur, t, i, c :: cs =>
    if c = w3 32 then rdG none t (i + 1) cs
    else if 97 ≤ c.toInt ∧ c.toInt < 100 then
      (if pk t (c.toInt - 97).toNat = none then rdG (some (c.toInt - 97).toNat) (setF t (c.toInt - 97).toNat (some [])) (i + 1) cs else ((i : Int), t))
    else match cur with
      | none => ((i : Int), t)
      | some f => if (48 ≤ c.toInt ∧ c.toInt ≤ 57) ∧ (cnt (pk t f)).length < 8 then rdG (some f) (setF t f (some (cnt (pk t f) ++ [c - w3 48]))) (i + 1) cs else ((i : Int), t)
theorem rdG_0 {cur : Option Nat} {t : Tv} {i : Nat} : rdG cur t i [] = (-9, t) := by cases cur <;> rfl
theorem rdG_b {cur : Option Nat} {t : Tv} {i : Nat} {c : Int32} {cs : List Int32} (h : c = w3 32) : rdG cur t i (c :: cs) = rdG none t (i + 1) cs := by
  cases cur <;> exact if_pos h
theorem rdG_l {cur : Option Nat} {t : Tv} {i f : Nat} {c : Int32} {cs : List Int32} (h0 : ¬ c = w3 32) (h : 97 ≤ c.toInt ∧ c.toInt < 100) (hf : f = (c.toInt - 97).toNat) : rdG cur t i (c :: cs) = if pk t f = none then rdG (some f) (setF t f (some [])) (i + 1) cs else ((i : Int), t) := by
  subst hf
  cases cur <;> exact (if_neg h0).trans (if_pos h)
theorem rdG_n {t : Tv} {i : Nat} {c : Int32} {cs : List Int32} (h0 : ¬ c = w3 32) (h : ¬ (97 ≤ c.toInt ∧ c.toInt < 100)) : rdG none t i (c :: cs) = ((i : Int), t) := (if_neg h0).trans (if_neg h)
theorem rdG_s {t : Tv} {i f : Nat} {c : Int32} {cs : List Int32} (h0 : ¬ c = w3 32) (h : ¬ (97 ≤ c.toInt ∧ c.toInt < 100)) : rdG (some f) t i (c :: cs) = if (48 ≤ c.toInt ∧ c.toInt ≤ 57) ∧ (cnt (pk t f)).length < 8 then rdG (some f) (setF t f (some (cnt (pk t f) ++ [c - w3 48]))) (i + 1) cs else ((i : Int), t) := (if_neg h0).trans (if_neg h)
theorem rdG_rg : ∀ (cs : List Int32) (cur : Option Nat) (t : Tv) (i : Nat), -9 ≤ (rdG cur t i cs).1 ∧ (rdG cur t i cs).1 < (i : Int) + (cs.length : Int) + 1
  | [], cur, t, i => by rw [rdG_0]; exact ⟨Int.le_refl _, by show (-9 : Int) < (i : Int) + ((0 : Nat) : Int) + 1; omega⟩
  | c :: cs, cur, t, i => by
    have hl : ((c :: cs).length : Int) = (cs.length : Int) + 1 := by simp
    have base : -9 ≤ (i : Int) ∧ (i : Int) < (i : Int) + ((c :: cs).length : Int) + 1 := by omega
    have up1 : ∀ cur t, -9 ≤ (rdG cur t (i + 1) cs).1 ∧ (rdG cur t (i + 1) cs).1 < (i : Int) + ((c :: cs).length : Int) + 1 := fun cur t => by
      have := rdG_rg cs cur t (i + 1)
      omega
    by_cases h0 : c = w3 32
    · rw [rdG_b h0]; exact up1 _ _
    · by_cases h1 : 97 ≤ c.toInt ∧ c.toInt < 100
      · rw [rdG_l h0 h1 rfl]
        split
        · exact up1 _ _
        · exact base
      · cases cur with
        | none => rw [rdG_n h0 h1]; exact base
        | some f =>
          rw [rdG_s h0 h1]
          split
          · exact up1 _ _
          · exact base
theorem fig_sub {c : Int32} (h : 48 ≤ c.toInt ∧ c.toInt ≤ 57) : c - w3 48 = w3 (c.toInt - 48) := by
  conv => lhs; rw [← w3_self c]
  exact w3_sub _ _
theorem rdG_g : ∀ (cs : List Int32) (cur : Option Nat) (t : Tv) (i : Nat), (∀ f, cur = some f → f < 3) → TvG t → TvG (rdG cur t i cs).2
  | [], cur, t, i, _, h => by rw [rdG_0]; exact h
  | c :: cs, cur, t, i, hc, h => by
    by_cases h0 : c = w3 32
    · rw [rdG_b h0]; exact rdG_g cs _ _ _ (fun f hf => by cases hf) h
    · by_cases h1 : 97 ≤ c.toInt ∧ c.toInt < 100
      · rw [rdG_l h0 h1 rfl]
        split
        · exact rdG_g cs _ _ _ (fun f hf => by cases hf; omega) (setF_g h Bal_nil)
        · exact h
      · cases cur with
        | none => rw [rdG_n h0 h1]; exact h
        | some f =>
          rw [rdG_s h0 h1]
          have hf3 := hc f rfl
          split
          · rename_i hq
            refine rdG_g cs _ _ _ hc (setF_g h ?_)
            refine Bal_app ?_ (Bal_one ?_)
            · match f, hf3 with
              | 0, _ => exact h.1.1
              | 1, _ => exact h.1.2.1
              | 2, _ => exact h.1.2.2
            · rw [fig_sub hq.1]
              exact dstep_small (by rw [w3_toInt (by omega) (by omega)]; omega)
          · exact h
theorem tv0_g : TvG tv0 := ⟨⟨Bal_nil, Bal_nil, Bal_nil⟩, by decide, by decide⟩
def out8 (a t : Nat) (M : cm_M) : Prop := (a + 1 ≤ t ∨ t + 8 ≤ a) ∧ (pl M a + 1 ≤ t ∨ t + 8 ≤ pl M a)
theorem fl_append {T : cm_T} {M : cm_M} {a : Nat} {v : Int32} (hg : Sg T M a) (h0 : 0 ≤ sz M a) : fl (cm_wi (cm_wi M (pl M a) (sz M a) v) a 1 (w3 (sz M a + 1))) a = some (cnt (fl M a) ++ [v]) ∧ sz (cm_wi (cm_wi M (pl M a) (sz M a) v) a 1 (w3 (sz M a + 1))) a = sz M a + 1 := by
  cases e : fl M a with
  | none => have := flm_none e; omega
  | some K =>
    obtain ⟨l1, l2, l3⟩ := Sg_len hg e
    have hne := Sg.ne hg hg
    have hsz : sz (cm_wi (cm_wi M (pl M a) (sz M a) v) a 1 (w3 (sz M a + 1))) a = sz M a + 1 := by
      unfold sz
      rw [cn_wi_eq]
      show (w3 (sz M a + 1)).toInt = _
      rw [w3_toInt (by omega) (by omega)]
      rfl
    refine ⟨?_, hsz⟩
    show flm ((cm_wi (cm_wi M (pl M a) (sz M a) v) a 1 (w3 (sz M a + 1))).1 (pl M a)) 0 (sz (cm_wi (cm_wi M (pl M a) (sz M a) v) a 1 (w3 (sz M a + 1))) a) = some (K ++ [v])
    rw [hsz]
    refine flm_mk (by rw [List.length_append, l1]; rfl) (fun k hk => ?_)
    rw [List.length_append] at hk
    have hk2 : k < K.length + 1 := hk
    rw [cn_wi_ne (Or.inl (fun q => hne q.symm)), Int.zero_add]
    by_cases q : k = K.length
    · rw [q, ← l1, cn_wi_eq]
      have := gt_apr (L := K) (L' := [v]) (k := 0)
      exact this.symm
    · rw [cn_wi_ne (Or.inr (by omega)), l3 k (by omega), gt_apl (by omega)]
theorem drop_gt {K : List Int32} {i : Nat} (h : i < K.length) : K.drop i = gt K i :: K.drop (i + 1) := by
  rw [List.drop_eq_getElem_cons h]
  congr 1
  simp [gt, List.getD_eq_getElem?_getD, h]
def SX6_readTree : cm_CT := fun as T M Φ => match as with
  | [.ref a, .ref t] => ∃ K, Sg T M a ∧ fl M a = some K ∧ TrG T M t ∧ out8 a t M ∧ ∀ M1, Fr M M1 t 8 → TrG T M1 t → ((rdG none tv0 0 K).1 = -9 → trv M1 t = (rdG none tv0 0 K).2) → Φ (some (.int (w3 (rdG none tv0 0 K).1))) T M1
  | _ => False
def JX6_readTree : cm_J := (6, false, 1, [(287, 1, 6, 0, 0, SX5_clear), (93, 2, 5, 0, 0, SX4_get), (103, 1, 5, 0, 0, SX4_isThere), (284, 3, 5, 0, 0, SX4_renew), (290, 2, 5, 0, 0, SX4_append)], [], [])
theorem jX6_readTree : JX6_readTree.1 = 6 ∧ JX6_readTree.2.1 = false ∧ JX6_readTree.2.2.1 = 1 ∧ cm_gv JX6_readTree 287 = some (1, 6, 0, 0, SX5_clear) ∧ cm_gv JX6_readTree 93 = some (2, 5, 0, 0, SX4_get) ∧ cm_gv JX6_readTree 103 = some (1, 5, 0, 0, SX4_isThere) ∧ cm_gv JX6_readTree 284 = some (3, 5, 0, 0, SX4_renew) ∧ cm_gv JX6_readTree 290 = some (2, 5, 0, 0, SX4_append) := ⟨rfl, rfl, rfl, rfl, rfl, rfl, rfl, rfl⟩
theorem eX6_readTree (d : Nat) (hd : 2 ≤ d) : cm_Cok d JX6_readTree := ⟨(List.forall_mem_cons.mpr ⟨q6_287 (mX5_clear (d - 1) (by omega)) (by omega), (List.forall_mem_cons.mpr ⟨q6_93 (mX4_get (d - 1) (by omega)) (by omega), (List.forall_mem_cons.mpr ⟨q6_103 (mX4_isThere (d - 1) (by omega)) (by omega), (List.forall_mem_cons.mpr ⟨q6_284 (mX4_renew (d - 1) (by omega)) (by omega), (List.forall_mem_cons.mpr ⟨q6_290 (mX4_append (d - 1) (by omega)) (by omega), (fun q h => by cases h)⟩)⟩)⟩)⟩)⟩), (fun q h => by cases h), (fun q h => by cases h)⟩
set_option maxHeartbeats 8000000 in
theorem lX6_readTree (d : Nat) (hd : 2 ≤ d) {T : cm_T} {M : cm_M} {Φ : Option Value → cm_T → cm_M → Prop} {a t : Nat} {K : List Int32} (sgM : Sg T M a) (hK : fl M a = some K) (hout : out8 a t M) (hS : ∀ M1, Fr M M1 t 8 → TrG T M1 t → ((rdG none tv0 0 K).1 = -9 → trv M1 t = (rdG none tv0 0 K).2) → Φ (some (.int (w3 (rdG none tv0 0 K).1))) T M1) :
    ∀ (i : Nat) (M1 : cm_M) (V : Value) (o4 : Option Value) (cur : Option Nat), i ≤ K.length → Fr M M1 t 8 → TrG T M1 t → rdG none tv0 0 K = rdG cur (trv M1 t) i (K.drop i) → (cur = none → V = .null) → (∀ f, cur = some f → f < 3 ∧ V = .ref (t + 2 + 2 * f) ∧ pk (trv M1 t) f ≠ none) → cm_Go d cX6_readTree 5 0 0 JX6_readTree Φ 8 [some (.ref a), some (.ref t), some V, some (.int (w3 (i : Int))), o4] [] (0, 0) T M1 := by
  intro i
  induction hf : (K.length - i) using Nat.strongRecOn generalizing i with
  | _ fu ih =>
    intro M1 V o4 cur i1 F1 G1 hres hc0 hc1
    have hout1 := hout
    unfold out8 at hout1
    have flA : fl M1 a = some K := (F1.flq (by omega) (by omega)).trans hK
    have sgA : Sg T M1 a := F1.sgq (by omega) sgM
    have a1 := sgA.1
    obtain ⟨hl1, hl2, hl3⟩ := Sg_len sgA flA
    have hz1 : M1.1 a 1 = w3 (K.length : Int) := i3_of hl1
    have ei : (w3 (i : Int)).toInt = (i : Int) := w3_toInt (by omega) (by omega)
    have h1 := G1.1.1
    have h2 := G1.1.2.1
    have h3 := G1.1.2.2.1
    have h4 := G1.1.2.2.2.1
    have e97 : (w3 97).toInt = 97 := by decide
    have e100 : (w3 100).toInt = 100 := by decide
    have e48 : (w3 48).toInt = 48 := by decide
    have e57 : (w3 57).toInt = 57 := by decide
    by_cases hi : i < K.length
    · have egt := hl3 i hi
      have tki : (0 ≤ (i : Int) ∧ (i : Int) < (K.length : Int)) = True := eq_true ⟨by omega, by omega⟩
      rw [drop_gt hi] at hres
      have fin : rdG none tv0 0 K = ((i : Int), trv M1 t) → Φ (some (.int (w3 (i : Int)))) T M1 := fun h => by
        have := hS M1 F1 G1 (fun q => by rw [h] at q; have q2 : (i : Int) = -9 := q; omega)
        rw [h] at this
        exact this
      by_cases c0 : gt K i = w3 32
      · have f32 := eq_true c0
        rw [rdG_b c0] at hres
        refine cm_go hX6_readTree 200 oX6_readTree (eX6_readTree d hd) lX6_readTree_8 ?_
        simp only [jX6_readTree, kX6_readTree_0, kX6_readTree_1, fl_6_107, fl_6_173, SX4_get, SX4_isThere, sgA, a1, hz1, hl1, ei, tki, egt, f32, w3_add, cn_iconst, cn_lconst0, cn_lconst1, cn_null, cn_iload, cn_aload, cn_lload, cn_lo1, cn_loa1, cn_loa2, cn_lol1, cn_get0, cn_gets, cn_put0, cn_puts, cn_istore, cn_astore, cn_astoreN, cn_lstore, cn_iinc, cn_in1, cn_iadd, cn_isub, cn_imul, cn_iand, cn_ior, cn_ixor, cn_ishl, cn_ishr, cn_iushr, cn_idiv, cn_irem, cn_ladd, cn_lmul, cn_ldiv, cn_lrem, cn_i2l, cn_l2i, cn_i2b, cn_lcmp, cn_dupi, cn_dupr, cn_dup2, cn_popi, cn_popr, cn_goto, cn_if_eq, cn_if_ne, cn_if_lt, cn_if_ge, cn_if_gt, cn_if_le, cn_ic_eq, cn_ic_ne, cn_ic_lt, cn_ic_ge, cn_ic_gt, cn_ic_le, cn_ifnullN, cn_ifnullR, cn_ifnonnullN, cn_ifnonnullR, cn_tswS, cn_tsw0, cn_tsw1, cn_lswS, cn_lsw0, cn_lsw1, cn_alen, cn_iaload, cn_laload, cn_rr1, cn_rr0, cn_aaload, cn_iastore, cn_lastore, cn_aastore, cn_getfield, cn_gf0, cn_gf1, cn_gf2, cn_gf3, cn_putfield, cn_pf0f, cn_pf1f, cn_pf2f, cn_pf3f, cn_pf0t, cn_pf1t, cn_pf2t, cn_pf3t, cn_new, cn_nw1, cn_newi, cn_newl, cn_anew, cn_an1, cn_inv_v, cn_inv_s, cn_inv_p, cn_ca1, cn_cb1, cn_pop0, cn_pops, cn_rk0, cn_rk1, cn_kcn, cn_kcs, cn_ireturn, cn_lreturn, cn_areturn, cn_return, cn_re0, cn_re1, cn_re2, cn_re3, cn_re4, cn_re5, cn_wp0, cn_wps, cn_m0, cn_m1, cn_e0, cn_en, cn_ei, cn_er, cn_eu, cn_el, cn_nl0, cn_nls, cn_nb0, cn_nb1, cn_nb2, cn_nb3, cn_bd0, cn_bds, cn_cwi, cn_cwr, cn_cwl, cn_cwn, cn_wi2, cn_wl1, cn_wl3, cn_wr1, cn_wr2, cn_wi_eq, cn_wl_eq, cb_0, cb_n0, cb_b, cm_okb0, cm_okb1, Classical.not_not, true_and, and_true, Nat.reduceAdd, Nat.reduceSub, Nat.reduceLT, Nat.reduceLeDiff, Int.reduceToNat, Int.reduceNatCast', Nat.zero_le, Nat.reduceEqDiff, false_or, or_false, or_true, true_or, Int.reduceNeg, reduceCtorEq, false_implies, implies_true, forall_const, true_implies, not_true_eq_false, not_false_eq_true, Nat.le_refl, ne_eq, if_true, if_false, ite_true, ite_false, List.cons_append, List.nil_append]
        simp (disch := omega) only [w3_le]
        refine ⟨fun q => by omega, fun q => ?_⟩
        exact ih (K.length - (i + 1)) (by omega) (i + 1) rfl M1 _ _ none (by omega) F1 G1 hres (fun _ => rfl) (fun f h => by cases h)
      · have f32 := eq_false c0
        by_cases c1 : 97 ≤ (gt K i).toInt ∧ (gt K i).toInt < 100
        · have f97 : (gt K i < w3 97) = False := eq_false (by rw [i3_lt, e97]; omega)
          have f100 : (w3 100 ≤ gt K i) = False := eq_false (by rw [i3_le, e100]; omega)
          obtain ⟨φ, hφ⟩ : ∃ φ : Nat, (gt K i).toInt - 97 = (φ : Int) := ⟨((gt K i).toInt - 97).toNat, by omega⟩
          have hφ3 : φ < 3 := by omega
          have es : gt K i - w3 97 = w3 (φ : Int) := by
            conv => lhs; rw [← w3_self (gt K i)]
            rw [w3_sub, hφ]
          have ef : (w3 (φ : Int)).toInt = (φ : Int) := w3_toInt (by omega) (by omega)
          have ixf : cm_ix (w3 (φ : Int)) 3 := by rw [w3_ix (by omega) (by omega)]; exact ⟨by omega, by omega⟩
          obtain ⟨g1, g2, g3, g4, g5, g6⟩ := tr_f G1 hφ3
          rw [rdG_l c0 c1 (f := φ) (by omega), pk_tr hφ3] at hres
          refine cm_go hX6_readTree 200 oX6_readTree (eX6_readTree d hd) lX6_readTree_8 ?_
          simp only [jX6_readTree, kX6_readTree_0, kX6_readTree_1, fl_6_107, fl_6_173, SX4_get, SX4_isThere, sgA, a1, hz1, hl1, ei, tki, egt, f32, f97, f100, es, ef, ixf, g1, g2, h1, h2, h3, h4, fl_th, w3_add, cn_iconst, cn_lconst0, cn_lconst1, cn_null, cn_iload, cn_aload, cn_lload, cn_lo1, cn_loa1, cn_loa2, cn_lol1, cn_get0, cn_gets, cn_put0, cn_puts, cn_istore, cn_astore, cn_astoreN, cn_lstore, cn_iinc, cn_in1, cn_iadd, cn_isub, cn_imul, cn_iand, cn_ior, cn_ixor, cn_ishl, cn_ishr, cn_iushr, cn_idiv, cn_irem, cn_ladd, cn_lmul, cn_ldiv, cn_lrem, cn_i2l, cn_l2i, cn_i2b, cn_lcmp, cn_dupi, cn_dupr, cn_dup2, cn_popi, cn_popr, cn_goto, cn_if_eq, cn_if_ne, cn_if_lt, cn_if_ge, cn_if_gt, cn_if_le, cn_ic_eq, cn_ic_ne, cn_ic_lt, cn_ic_ge, cn_ic_gt, cn_ic_le, cn_ifnullN, cn_ifnullR, cn_ifnonnullN, cn_ifnonnullR, cn_tswS, cn_tsw0, cn_tsw1, cn_lswS, cn_lsw0, cn_lsw1, cn_alen, cn_iaload, cn_laload, cn_rr1, cn_rr0, cn_aaload, cn_iastore, cn_lastore, cn_aastore, cn_getfield, cn_gf0, cn_gf1, cn_gf2, cn_gf3, cn_putfield, cn_pf0f, cn_pf1f, cn_pf2f, cn_pf3f, cn_pf0t, cn_pf1t, cn_pf2t, cn_pf3t, cn_new, cn_nw1, cn_newi, cn_newl, cn_anew, cn_an1, cn_inv_v, cn_inv_s, cn_inv_p, cn_ca1, cn_cb1, cn_pop0, cn_pops, cn_rk0, cn_rk1, cn_kcn, cn_kcs, cn_ireturn, cn_lreturn, cn_areturn, cn_return, cn_re0, cn_re1, cn_re2, cn_re3, cn_re4, cn_re5, cn_wp0, cn_wps, cn_m0, cn_m1, cn_e0, cn_en, cn_ei, cn_er, cn_eu, cn_el, cn_nl0, cn_nls, cn_nb0, cn_nb1, cn_nb2, cn_nb3, cn_bd0, cn_bds, cn_cwi, cn_cwr, cn_cwl, cn_cwn, cn_wi2, cn_wl1, cn_wl3, cn_wr1, cn_wr2, cn_wi_eq, cn_wl_eq, cb_0, cb_n0, cb_b, cm_okb0, cm_okb1, Classical.not_not, true_and, and_true, Nat.reduceAdd, Nat.reduceSub, Nat.reduceLT, Nat.reduceLeDiff, Int.reduceToNat, Int.reduceNatCast', Nat.zero_le, Nat.reduceEqDiff, false_or, or_false, or_true, true_or, Int.reduceNeg, reduceCtorEq, false_implies, implies_true, forall_const, true_implies, not_true_eq_false, not_false_eq_true, Nat.le_refl, ne_eq, if_true, if_false, ite_true, ite_false, List.cons_append, List.nil_append]
          simp (disch := omega) only [w3_le]
          refine ⟨fun q => by omega, fun q => ⟨fun q2 => ?_, fun q2 => ?_⟩⟩
          · rw [if_pos q2] at hres
            refine ⟨0, g3, rfl, ?_⟩
            simp only [jX6_readTree, kX6_readTree_0, kX6_readTree_1, fl_6_107, fl_6_173, w3_add, cn_iconst, cn_lconst0, cn_lconst1, cn_null, cn_iload, cn_aload, cn_lload, cn_lo1, cn_loa1, cn_loa2, cn_lol1, cn_get0, cn_gets, cn_put0, cn_puts, cn_istore, cn_astore, cn_astoreN, cn_lstore, cn_iinc, cn_in1, cn_iadd, cn_isub, cn_imul, cn_iand, cn_ior, cn_ixor, cn_ishl, cn_ishr, cn_iushr, cn_idiv, cn_irem, cn_ladd, cn_lmul, cn_ldiv, cn_lrem, cn_i2l, cn_l2i, cn_i2b, cn_lcmp, cn_dupi, cn_dupr, cn_dup2, cn_popi, cn_popr, cn_goto, cn_if_eq, cn_if_ne, cn_if_lt, cn_if_ge, cn_if_gt, cn_if_le, cn_ic_eq, cn_ic_ne, cn_ic_lt, cn_ic_ge, cn_ic_gt, cn_ic_le, cn_ifnullN, cn_ifnullR, cn_ifnonnullN, cn_ifnonnullR, cn_tswS, cn_tsw0, cn_tsw1, cn_lswS, cn_lsw0, cn_lsw1, cn_alen, cn_iaload, cn_laload, cn_rr1, cn_rr0, cn_aaload, cn_iastore, cn_lastore, cn_aastore, cn_getfield, cn_gf0, cn_gf1, cn_gf2, cn_gf3, cn_putfield, cn_pf0f, cn_pf1f, cn_pf2f, cn_pf3f, cn_pf0t, cn_pf1t, cn_pf2t, cn_pf3t, cn_new, cn_nw1, cn_newi, cn_newl, cn_anew, cn_an1, cn_inv_v, cn_inv_s, cn_inv_p, cn_ca1, cn_cb1, cn_pop0, cn_pops, cn_rk0, cn_rk1, cn_kcn, cn_kcs, cn_ireturn, cn_lreturn, cn_areturn, cn_return, cn_re0, cn_re1, cn_re2, cn_re3, cn_re4, cn_re5, cn_wp0, cn_wps, cn_m0, cn_m1, cn_e0, cn_en, cn_ei, cn_er, cn_eu, cn_el, cn_nl0, cn_nls, cn_nb0, cn_nb1, cn_nb2, cn_nb3, cn_bd0, cn_bds, cn_cwi, cn_cwr, cn_cwl, cn_cwn, cn_wi2, cn_wl1, cn_wl3, cn_wr1, cn_wr2, cn_wi_eq, cn_wl_eq, cb_0, cb_n0, cb_b, cm_okb0, cm_okb1, Classical.not_not, true_and, and_true, Nat.reduceAdd, Nat.reduceSub, Nat.reduceLT, Nat.reduceLeDiff, Int.reduceToNat, Int.reduceNatCast', Nat.zero_le, Nat.reduceEqDiff, false_or, or_false, or_true, true_or, Int.reduceNeg, reduceCtorEq, false_implies, implies_true, forall_const, true_implies, not_true_eq_false, not_false_eq_true, Nat.le_refl, ne_eq, if_true, if_false, ite_true, ite_false, List.cons_append, List.nil_append]
            have F : Fr M1 (mRow M1 (t + 2 + 2 * φ) 0 (fun _ => w3 0)) (t + 2 + 2 * φ) 2 := Fr.row (by omega) (by omega) (by omega) (by omega)
            have hsz : sz (mRow M1 (t + 2 + 2 * φ) 0 (fun _ => w3 0)) (t + 2 + 2 * φ) = 0 := mRow_sz (by omega) (by omega)
            have hfl : fl (mRow M1 (t + 2 + 2 * φ) 0 (fun _ => w3 0)) (t + 2 + 2 * φ) = some [] := by rw [fl_row (by omega) (by omega) (by omega), fl_con (by omega)]; rfl
            obtain ⟨s1, s2⟩ := tr_setf G1 hφ3 F ⟨by rw [hsz]; omega, by rw [hsz]; omega⟩
            rw [hfl] at s2
            exact ih (K.length - (i + 1)) (by omega) (i + 1) rfl _ _ _ (some φ) (by omega) (F1.trans (F.wide (by omega) (by omega))) s1 (by rw [s2]; exact hres) (fun h => by cases h) (fun f h => by cases h; exact ⟨hφ3, rfl, by rw [pk_tr hφ3, hfl]; simp⟩)
          · rw [if_neg q2] at hres
            exact fin hres
        · have cc : (gt K i < w3 97) = True ∨ ((gt K i < w3 97) = False ∧ (w3 100 ≤ gt K i) = True) := by
            by_cases q : (gt K i).toInt < 97
            · exact Or.inl (eq_true (by rw [i3_lt, e97]; exact q))
            · exact Or.inr ⟨eq_false (by rw [i3_lt, e97]; exact q), eq_true (by rw [i3_le, e100]; omega)⟩
          cases cur with
          | none =>
            have hV := hc0 rfl
            subst hV
            rw [rdG_n c0 c1] at hres
            have ff := fin hres
            rcases cc with f97 | ⟨f97, f100⟩
            · refine cm_go hX6_readTree 200 oX6_readTree (eX6_readTree d hd) lX6_readTree_8 ?_
              simp only [jX6_readTree, kX6_readTree_0, kX6_readTree_1, fl_6_107, fl_6_173, SX4_get, SX4_isThere, sgA, a1, hz1, hl1, ei, tki, egt, f32, f97, cn_iconst, cn_lconst0, cn_lconst1, cn_null, cn_iload, cn_aload, cn_lload, cn_lo1, cn_loa1, cn_loa2, cn_lol1, cn_get0, cn_gets, cn_put0, cn_puts, cn_istore, cn_astore, cn_astoreN, cn_lstore, cn_iinc, cn_in1, cn_iadd, cn_isub, cn_imul, cn_iand, cn_ior, cn_ixor, cn_ishl, cn_ishr, cn_iushr, cn_idiv, cn_irem, cn_ladd, cn_lmul, cn_ldiv, cn_lrem, cn_i2l, cn_l2i, cn_i2b, cn_lcmp, cn_dupi, cn_dupr, cn_dup2, cn_popi, cn_popr, cn_goto, cn_if_eq, cn_if_ne, cn_if_lt, cn_if_ge, cn_if_gt, cn_if_le, cn_ic_eq, cn_ic_ne, cn_ic_lt, cn_ic_ge, cn_ic_gt, cn_ic_le, cn_ifnullN, cn_ifnullR, cn_ifnonnullN, cn_ifnonnullR, cn_tswS, cn_tsw0, cn_tsw1, cn_lswS, cn_lsw0, cn_lsw1, cn_alen, cn_iaload, cn_laload, cn_rr1, cn_rr0, cn_aaload, cn_iastore, cn_lastore, cn_aastore, cn_getfield, cn_gf0, cn_gf1, cn_gf2, cn_gf3, cn_putfield, cn_pf0f, cn_pf1f, cn_pf2f, cn_pf3f, cn_pf0t, cn_pf1t, cn_pf2t, cn_pf3t, cn_new, cn_nw1, cn_newi, cn_newl, cn_anew, cn_an1, cn_inv_v, cn_inv_s, cn_inv_p, cn_ca1, cn_cb1, cn_pop0, cn_pops, cn_rk0, cn_rk1, cn_kcn, cn_kcs, cn_ireturn, cn_lreturn, cn_areturn, cn_return, cn_re0, cn_re1, cn_re2, cn_re3, cn_re4, cn_re5, cn_wp0, cn_wps, cn_m0, cn_m1, cn_e0, cn_en, cn_ei, cn_er, cn_eu, cn_el, cn_nl0, cn_nls, cn_nb0, cn_nb1, cn_nb2, cn_nb3, cn_bd0, cn_bds, cn_cwi, cn_cwr, cn_cwl, cn_cwn, cn_wi2, cn_wl1, cn_wl3, cn_wr1, cn_wr2, cn_wi_eq, cn_wl_eq, cb_0, cb_n0, cb_b, cm_okb0, cm_okb1, Classical.not_not, true_and, and_true, Nat.reduceAdd, Nat.reduceSub, Nat.reduceLT, Nat.reduceLeDiff, Int.reduceToNat, Int.reduceNatCast', Nat.zero_le, Nat.reduceEqDiff, false_or, or_false, or_true, true_or, Int.reduceNeg, reduceCtorEq, false_implies, implies_true, forall_const, true_implies, not_true_eq_false, not_false_eq_true, Nat.le_refl, ne_eq, if_true, if_false, ite_true, ite_false, List.cons_append, List.nil_append]
              simp (disch := omega) only [w3_le]
              exact ⟨fun q => by omega, fun q => ff⟩
            · refine cm_go hX6_readTree 200 oX6_readTree (eX6_readTree d hd) lX6_readTree_8 ?_
              simp only [jX6_readTree, kX6_readTree_0, kX6_readTree_1, fl_6_107, fl_6_173, SX4_get, SX4_isThere, sgA, a1, hz1, hl1, ei, tki, egt, f32, f97, f100, cn_iconst, cn_lconst0, cn_lconst1, cn_null, cn_iload, cn_aload, cn_lload, cn_lo1, cn_loa1, cn_loa2, cn_lol1, cn_get0, cn_gets, cn_put0, cn_puts, cn_istore, cn_astore, cn_astoreN, cn_lstore, cn_iinc, cn_in1, cn_iadd, cn_isub, cn_imul, cn_iand, cn_ior, cn_ixor, cn_ishl, cn_ishr, cn_iushr, cn_idiv, cn_irem, cn_ladd, cn_lmul, cn_ldiv, cn_lrem, cn_i2l, cn_l2i, cn_i2b, cn_lcmp, cn_dupi, cn_dupr, cn_dup2, cn_popi, cn_popr, cn_goto, cn_if_eq, cn_if_ne, cn_if_lt, cn_if_ge, cn_if_gt, cn_if_le, cn_ic_eq, cn_ic_ne, cn_ic_lt, cn_ic_ge, cn_ic_gt, cn_ic_le, cn_ifnullN, cn_ifnullR, cn_ifnonnullN, cn_ifnonnullR, cn_tswS, cn_tsw0, cn_tsw1, cn_lswS, cn_lsw0, cn_lsw1, cn_alen, cn_iaload, cn_laload, cn_rr1, cn_rr0, cn_aaload, cn_iastore, cn_lastore, cn_aastore, cn_getfield, cn_gf0, cn_gf1, cn_gf2, cn_gf3, cn_putfield, cn_pf0f, cn_pf1f, cn_pf2f, cn_pf3f, cn_pf0t, cn_pf1t, cn_pf2t, cn_pf3t, cn_new, cn_nw1, cn_newi, cn_newl, cn_anew, cn_an1, cn_inv_v, cn_inv_s, cn_inv_p, cn_ca1, cn_cb1, cn_pop0, cn_pops, cn_rk0, cn_rk1, cn_kcn, cn_kcs, cn_ireturn, cn_lreturn, cn_areturn, cn_return, cn_re0, cn_re1, cn_re2, cn_re3, cn_re4, cn_re5, cn_wp0, cn_wps, cn_m0, cn_m1, cn_e0, cn_en, cn_ei, cn_er, cn_eu, cn_el, cn_nl0, cn_nls, cn_nb0, cn_nb1, cn_nb2, cn_nb3, cn_bd0, cn_bds, cn_cwi, cn_cwr, cn_cwl, cn_cwn, cn_wi2, cn_wl1, cn_wl3, cn_wr1, cn_wr2, cn_wi_eq, cn_wl_eq, cb_0, cb_n0, cb_b, cm_okb0, cm_okb1, Classical.not_not, true_and, and_true, Nat.reduceAdd, Nat.reduceSub, Nat.reduceLT, Nat.reduceLeDiff, Int.reduceToNat, Int.reduceNatCast', Nat.zero_le, Nat.reduceEqDiff, false_or, or_false, or_true, true_or, Int.reduceNeg, reduceCtorEq, false_implies, implies_true, forall_const, true_implies, not_true_eq_false, not_false_eq_true, Nat.le_refl, ne_eq, if_true, if_false, ite_true, ite_false, List.cons_append, List.nil_append]
              simp (disch := omega) only [w3_le]
              exact ⟨fun q => by omega, fun q => ff⟩
          | some f =>
            obtain ⟨hf3, hV, hp⟩ := hc1 f rfl
            subst hV
            rw [rdG_s c0 c1] at hres
            obtain ⟨g1, g2, g3, g4, g5, g6⟩ := tr_f G1 hf3
            rw [pk_tr hf3] at hp hres
            obtain ⟨J, hJ⟩ : ∃ J, fl M1 (t + 2 + 2 * f) = some J := by
              cases e : fl M1 (t + 2 + 2 * f) with
              | none => exact absurd e hp
              | some J => exact ⟨J, rfl⟩
            have jl := (Sg_len g3 hJ).1
            have z52 := g5.2
            have hzJ : M1.1 (t + 2 + 2 * f) 1 = w3 (J.length : Int) := i3_of jl
            rw [hJ] at hres
            have hres1 : rdG none tv0 0 K = if (48 ≤ (gt K i).toInt ∧ (gt K i).toInt ≤ 57) ∧ J.length < 8 then rdG (some f) (setF (trv M1 t) f (some (J ++ [gt K i - w3 48]))) (i + 1) (K.drop (i + 1)) else ((i : Int), trv M1 t) := hres
            have stepB : ((w3 48 ≤ gt K i) → ((gt K i ≤ w3 57) → ((J.length : Int) < 8 → SX4_append [.ref (t + 2 + 2 * f), .int (gt K i - w3 48)] T M1 (fun v T' M' => v = none ∧ T' = T ∧ M' = cm_wi (cm_wi M1 (pl M1 (t + 2 + 2 * f)) (sz M1 (t + 2 + 2 * f)) (gt K i - w3 48)) (t + 2 + 2 * f) 1 (w3 (sz M1 (t + 2 + 2 * f) + 1)))))) := fun _ _ q => ⟨g3, by omega, by rw [g4, g6]; omega, rfl, rfl, rfl⟩
            have nxt : 48 ≤ (gt K i).toInt → (gt K i).toInt ≤ 57 → J.length < 8 → cm_Go d cX6_readTree 5 0 0 JX6_readTree Φ 8 [some (.ref a), some (.ref t), some (.ref (t + 2 + 2 * f)), some (.int (w3 ((i : Int) + 1))), some (.int (gt K i))] [] (0, 0) T (cm_wi (cm_wi M1 (pl M1 (t + 2 + 2 * f)) (sz M1 (t + 2 + 2 * f)) (gt K i - w3 48)) (t + 2 + 2 * f) 1 (w3 (sz M1 (t + 2 + 2 * f) + 1))) := by
              intro q1 q2 q3
              rw [if_pos ⟨⟨q1, q2⟩, q3⟩] at hres1
              obtain ⟨hfl, hsz⟩ := fl_append (v := gt K i - w3 48) g3 (by omega)
              rw [hJ] at hfl
              have F : Fr M1 (cm_wi (cm_wi M1 (pl M1 (t + 2 + 2 * f)) (sz M1 (t + 2 + 2 * f)) (gt K i - w3 48)) (t + 2 + 2 * f) 1 (w3 (sz M1 (t + 2 + 2 * f) + 1))) (t + 2 + 2 * f) 2 := (Fr.wi (by omega) (by omega)).trans (Fr.wi (by omega) (by omega))
              obtain ⟨s1, s2⟩ := tr_setf G1 hf3 F ⟨by rw [hsz]; omega, by rw [hsz]; omega⟩
              rw [hfl] at s2
              exact ih (K.length - (i + 1)) (by omega) (i + 1) rfl _ _ _ (some f) (by omega) (F1.trans (F.wide (by omega) (by omega))) s1 (by rw [s2]; exact hres1) (fun h => by cases h) (fun f' h => by cases h; exact ⟨hf3, rfl, by rw [pk_tr hf3, hfl]; simp⟩)
            rcases cc with f97 | ⟨f97, f100⟩
            · refine cm_go hX6_readTree 200 oX6_readTree (eX6_readTree d hd) lX6_readTree_8 ?_
              simp only [jX6_readTree, kX6_readTree_0, kX6_readTree_1, fl_6_107, fl_6_173, SX4_get, SX4_isThere, sgA, a1, hz1, hl1, ei, tki, egt, f32, f97, g2, hzJ, w3_add, cn_iconst, cn_lconst0, cn_lconst1, cn_null, cn_iload, cn_aload, cn_lload, cn_lo1, cn_loa1, cn_loa2, cn_lol1, cn_get0, cn_gets, cn_put0, cn_puts, cn_istore, cn_astore, cn_astoreN, cn_lstore, cn_iinc, cn_in1, cn_iadd, cn_isub, cn_imul, cn_iand, cn_ior, cn_ixor, cn_ishl, cn_ishr, cn_iushr, cn_idiv, cn_irem, cn_ladd, cn_lmul, cn_ldiv, cn_lrem, cn_i2l, cn_l2i, cn_i2b, cn_lcmp, cn_dupi, cn_dupr, cn_dup2, cn_popi, cn_popr, cn_goto, cn_if_eq, cn_if_ne, cn_if_lt, cn_if_ge, cn_if_gt, cn_if_le, cn_ic_eq, cn_ic_ne, cn_ic_lt, cn_ic_ge, cn_ic_gt, cn_ic_le, cn_ifnullN, cn_ifnullR, cn_ifnonnullN, cn_ifnonnullR, cn_tswS, cn_tsw0, cn_tsw1, cn_lswS, cn_lsw0, cn_lsw1, cn_alen, cn_iaload, cn_laload, cn_rr1, cn_rr0, cn_aaload, cn_iastore, cn_lastore, cn_aastore, cn_getfield, cn_gf0, cn_gf1, cn_gf2, cn_gf3, cn_putfield, cn_pf0f, cn_pf1f, cn_pf2f, cn_pf3f, cn_pf0t, cn_pf1t, cn_pf2t, cn_pf3t, cn_new, cn_nw1, cn_newi, cn_newl, cn_anew, cn_an1, cn_inv_v, cn_inv_s, cn_inv_p, cn_ca1, cn_cb1, cn_pop0, cn_pops, cn_rk0, cn_rk1, cn_kcn, cn_kcs, cn_ireturn, cn_lreturn, cn_areturn, cn_return, cn_re0, cn_re1, cn_re2, cn_re3, cn_re4, cn_re5, cn_wp0, cn_wps, cn_m0, cn_m1, cn_e0, cn_en, cn_ei, cn_er, cn_eu, cn_el, cn_nl0, cn_nls, cn_nb0, cn_nb1, cn_nb2, cn_nb3, cn_bd0, cn_bds, cn_cwi, cn_cwr, cn_cwl, cn_cwn, cn_wi2, cn_wl1, cn_wl3, cn_wr1, cn_wr2, cn_wi_eq, cn_wl_eq, cb_0, cb_n0, cb_b, cm_okb0, cm_okb1, Classical.not_not, true_and, and_true, Nat.reduceAdd, Nat.reduceSub, Nat.reduceLT, Nat.reduceLeDiff, Int.reduceToNat, Int.reduceNatCast', Nat.zero_le, Nat.reduceEqDiff, false_or, or_false, or_true, true_or, Int.reduceNeg, reduceCtorEq, false_implies, implies_true, forall_const, true_implies, not_true_eq_false, not_false_eq_true, Nat.le_refl, ne_eq, if_true, if_false, ite_true, ite_false, List.cons_append, List.nil_append]
              simp (disch := omega) only [w3_le]
              simp only [i3_lt, e48, e57]
              refine ⟨fun q => by omega, fun _ => ⟨fun q => fin (by rw [hres1, if_neg (by omega)]), fun q => ⟨fun q2 => fin (by rw [hres1, if_neg (by omega)]), fun q2 => ⟨fun q3 => fin (by rw [hres1, if_neg (by omega)]), fun q3 => ?_⟩⟩⟩⟩
              refine ⟨g3, by omega, by rw [g4, g6]; omega, ?_⟩
              simp only [jX6_readTree, kX6_readTree_0, kX6_readTree_1, fl_6_107, fl_6_173, w3_add, cn_iconst, cn_lconst0, cn_lconst1, cn_null, cn_iload, cn_aload, cn_lload, cn_lo1, cn_loa1, cn_loa2, cn_lol1, cn_get0, cn_gets, cn_put0, cn_puts, cn_istore, cn_astore, cn_astoreN, cn_lstore, cn_iinc, cn_in1, cn_iadd, cn_isub, cn_imul, cn_iand, cn_ior, cn_ixor, cn_ishl, cn_ishr, cn_iushr, cn_idiv, cn_irem, cn_ladd, cn_lmul, cn_ldiv, cn_lrem, cn_i2l, cn_l2i, cn_i2b, cn_lcmp, cn_dupi, cn_dupr, cn_dup2, cn_popi, cn_popr, cn_goto, cn_if_eq, cn_if_ne, cn_if_lt, cn_if_ge, cn_if_gt, cn_if_le, cn_ic_eq, cn_ic_ne, cn_ic_lt, cn_ic_ge, cn_ic_gt, cn_ic_le, cn_ifnullN, cn_ifnullR, cn_ifnonnullN, cn_ifnonnullR, cn_tswS, cn_tsw0, cn_tsw1, cn_lswS, cn_lsw0, cn_lsw1, cn_alen, cn_iaload, cn_laload, cn_rr1, cn_rr0, cn_aaload, cn_iastore, cn_lastore, cn_aastore, cn_getfield, cn_gf0, cn_gf1, cn_gf2, cn_gf3, cn_putfield, cn_pf0f, cn_pf1f, cn_pf2f, cn_pf3f, cn_pf0t, cn_pf1t, cn_pf2t, cn_pf3t, cn_new, cn_nw1, cn_newi, cn_newl, cn_anew, cn_an1, cn_inv_v, cn_inv_s, cn_inv_p, cn_ca1, cn_cb1, cn_pop0, cn_pops, cn_rk0, cn_rk1, cn_kcn, cn_kcs, cn_ireturn, cn_lreturn, cn_areturn, cn_return, cn_re0, cn_re1, cn_re2, cn_re3, cn_re4, cn_re5, cn_wp0, cn_wps, cn_m0, cn_m1, cn_e0, cn_en, cn_ei, cn_er, cn_eu, cn_el, cn_nl0, cn_nls, cn_nb0, cn_nb1, cn_nb2, cn_nb3, cn_bd0, cn_bds, cn_cwi, cn_cwr, cn_cwl, cn_cwn, cn_wi2, cn_wl1, cn_wl3, cn_wr1, cn_wr2, cn_wi_eq, cn_wl_eq, cb_0, cb_n0, cb_b, cm_okb0, cm_okb1, Classical.not_not, true_and, and_true, Nat.reduceAdd, Nat.reduceSub, Nat.reduceLT, Nat.reduceLeDiff, Int.reduceToNat, Int.reduceNatCast', Nat.zero_le, Nat.reduceEqDiff, false_or, or_false, or_true, true_or, Int.reduceNeg, reduceCtorEq, false_implies, implies_true, forall_const, true_implies, not_true_eq_false, not_false_eq_true, Nat.le_refl, ne_eq, if_true, if_false, ite_true, ite_false, List.cons_append, List.nil_append]
              exact nxt (by omega) (by omega) (by omega)
            · refine cm_go hX6_readTree 200 oX6_readTree (eX6_readTree d hd) lX6_readTree_8 ?_
              simp only [jX6_readTree, kX6_readTree_0, kX6_readTree_1, fl_6_107, fl_6_173, SX4_get, SX4_isThere, sgA, a1, hz1, hl1, ei, tki, egt, f32, f97, f100, g2, hzJ, w3_add, cn_iconst, cn_lconst0, cn_lconst1, cn_null, cn_iload, cn_aload, cn_lload, cn_lo1, cn_loa1, cn_loa2, cn_lol1, cn_get0, cn_gets, cn_put0, cn_puts, cn_istore, cn_astore, cn_astoreN, cn_lstore, cn_iinc, cn_in1, cn_iadd, cn_isub, cn_imul, cn_iand, cn_ior, cn_ixor, cn_ishl, cn_ishr, cn_iushr, cn_idiv, cn_irem, cn_ladd, cn_lmul, cn_ldiv, cn_lrem, cn_i2l, cn_l2i, cn_i2b, cn_lcmp, cn_dupi, cn_dupr, cn_dup2, cn_popi, cn_popr, cn_goto, cn_if_eq, cn_if_ne, cn_if_lt, cn_if_ge, cn_if_gt, cn_if_le, cn_ic_eq, cn_ic_ne, cn_ic_lt, cn_ic_ge, cn_ic_gt, cn_ic_le, cn_ifnullN, cn_ifnullR, cn_ifnonnullN, cn_ifnonnullR, cn_tswS, cn_tsw0, cn_tsw1, cn_lswS, cn_lsw0, cn_lsw1, cn_alen, cn_iaload, cn_laload, cn_rr1, cn_rr0, cn_aaload, cn_iastore, cn_lastore, cn_aastore, cn_getfield, cn_gf0, cn_gf1, cn_gf2, cn_gf3, cn_putfield, cn_pf0f, cn_pf1f, cn_pf2f, cn_pf3f, cn_pf0t, cn_pf1t, cn_pf2t, cn_pf3t, cn_new, cn_nw1, cn_newi, cn_newl, cn_anew, cn_an1, cn_inv_v, cn_inv_s, cn_inv_p, cn_ca1, cn_cb1, cn_pop0, cn_pops, cn_rk0, cn_rk1, cn_kcn, cn_kcs, cn_ireturn, cn_lreturn, cn_areturn, cn_return, cn_re0, cn_re1, cn_re2, cn_re3, cn_re4, cn_re5, cn_wp0, cn_wps, cn_m0, cn_m1, cn_e0, cn_en, cn_ei, cn_er, cn_eu, cn_el, cn_nl0, cn_nls, cn_nb0, cn_nb1, cn_nb2, cn_nb3, cn_bd0, cn_bds, cn_cwi, cn_cwr, cn_cwl, cn_cwn, cn_wi2, cn_wl1, cn_wl3, cn_wr1, cn_wr2, cn_wi_eq, cn_wl_eq, cb_0, cb_n0, cb_b, cm_okb0, cm_okb1, Classical.not_not, true_and, and_true, Nat.reduceAdd, Nat.reduceSub, Nat.reduceLT, Nat.reduceLeDiff, Int.reduceToNat, Int.reduceNatCast', Nat.zero_le, Nat.reduceEqDiff, false_or, or_false, or_true, true_or, Int.reduceNeg, reduceCtorEq, false_implies, implies_true, forall_const, true_implies, not_true_eq_false, not_false_eq_true, Nat.le_refl, ne_eq, if_true, if_false, ite_true, ite_false, List.cons_append, List.nil_append]
              simp (disch := omega) only [w3_le]
              simp only [i3_lt, e48, e57]
              refine ⟨fun q => by omega, fun _ => ⟨fun q => fin (by rw [hres1, if_neg (by omega)]), fun q => ⟨fun q2 => fin (by rw [hres1, if_neg (by omega)]), fun q2 => ⟨fun q3 => fin (by rw [hres1, if_neg (by omega)]), fun q3 => ?_⟩⟩⟩⟩
              refine ⟨g3, by omega, by rw [g4, g6]; omega, ?_⟩
              simp only [jX6_readTree, kX6_readTree_0, kX6_readTree_1, fl_6_107, fl_6_173, w3_add, cn_iconst, cn_lconst0, cn_lconst1, cn_null, cn_iload, cn_aload, cn_lload, cn_lo1, cn_loa1, cn_loa2, cn_lol1, cn_get0, cn_gets, cn_put0, cn_puts, cn_istore, cn_astore, cn_astoreN, cn_lstore, cn_iinc, cn_in1, cn_iadd, cn_isub, cn_imul, cn_iand, cn_ior, cn_ixor, cn_ishl, cn_ishr, cn_iushr, cn_idiv, cn_irem, cn_ladd, cn_lmul, cn_ldiv, cn_lrem, cn_i2l, cn_l2i, cn_i2b, cn_lcmp, cn_dupi, cn_dupr, cn_dup2, cn_popi, cn_popr, cn_goto, cn_if_eq, cn_if_ne, cn_if_lt, cn_if_ge, cn_if_gt, cn_if_le, cn_ic_eq, cn_ic_ne, cn_ic_lt, cn_ic_ge, cn_ic_gt, cn_ic_le, cn_ifnullN, cn_ifnullR, cn_ifnonnullN, cn_ifnonnullR, cn_tswS, cn_tsw0, cn_tsw1, cn_lswS, cn_lsw0, cn_lsw1, cn_alen, cn_iaload, cn_laload, cn_rr1, cn_rr0, cn_aaload, cn_iastore, cn_lastore, cn_aastore, cn_getfield, cn_gf0, cn_gf1, cn_gf2, cn_gf3, cn_putfield, cn_pf0f, cn_pf1f, cn_pf2f, cn_pf3f, cn_pf0t, cn_pf1t, cn_pf2t, cn_pf3t, cn_new, cn_nw1, cn_newi, cn_newl, cn_anew, cn_an1, cn_inv_v, cn_inv_s, cn_inv_p, cn_ca1, cn_cb1, cn_pop0, cn_pops, cn_rk0, cn_rk1, cn_kcn, cn_kcs, cn_ireturn, cn_lreturn, cn_areturn, cn_return, cn_re0, cn_re1, cn_re2, cn_re3, cn_re4, cn_re5, cn_wp0, cn_wps, cn_m0, cn_m1, cn_e0, cn_en, cn_ei, cn_er, cn_eu, cn_el, cn_nl0, cn_nls, cn_nb0, cn_nb1, cn_nb2, cn_nb3, cn_bd0, cn_bds, cn_cwi, cn_cwr, cn_cwl, cn_cwn, cn_wi2, cn_wl1, cn_wl3, cn_wr1, cn_wr2, cn_wi_eq, cn_wl_eq, cb_0, cb_n0, cb_b, cm_okb0, cm_okb1, Classical.not_not, true_and, and_true, Nat.reduceAdd, Nat.reduceSub, Nat.reduceLT, Nat.reduceLeDiff, Int.reduceToNat, Int.reduceNatCast', Nat.zero_le, Nat.reduceEqDiff, false_or, or_false, or_true, true_or, Int.reduceNeg, reduceCtorEq, false_implies, implies_true, forall_const, true_implies, not_true_eq_false, not_false_eq_true, Nat.le_refl, ne_eq, if_true, if_false, ite_true, ite_false, List.cons_append, List.nil_append]
              exact nxt (by omega) (by omega) (by omega)
    · have hik : i = K.length := by omega
      subst hik
      rw [List.drop_length, rdG_0] at hres
      refine cm_go hX6_readTree 200 oX6_readTree (eX6_readTree d hd) lX6_readTree_8 ?_
      simp only [jX6_readTree, kX6_readTree_0, kX6_readTree_1, fl_6_107, fl_6_173, a1, hz1, ei, cn_iconst, cn_lconst0, cn_lconst1, cn_null, cn_iload, cn_aload, cn_lload, cn_lo1, cn_loa1, cn_loa2, cn_lol1, cn_get0, cn_gets, cn_put0, cn_puts, cn_istore, cn_astore, cn_astoreN, cn_lstore, cn_iinc, cn_in1, cn_iadd, cn_isub, cn_imul, cn_iand, cn_ior, cn_ixor, cn_ishl, cn_ishr, cn_iushr, cn_idiv, cn_irem, cn_ladd, cn_lmul, cn_ldiv, cn_lrem, cn_i2l, cn_l2i, cn_i2b, cn_lcmp, cn_dupi, cn_dupr, cn_dup2, cn_popi, cn_popr, cn_goto, cn_if_eq, cn_if_ne, cn_if_lt, cn_if_ge, cn_if_gt, cn_if_le, cn_ic_eq, cn_ic_ne, cn_ic_lt, cn_ic_ge, cn_ic_gt, cn_ic_le, cn_ifnullN, cn_ifnullR, cn_ifnonnullN, cn_ifnonnullR, cn_tswS, cn_tsw0, cn_tsw1, cn_lswS, cn_lsw0, cn_lsw1, cn_alen, cn_iaload, cn_laload, cn_rr1, cn_rr0, cn_aaload, cn_iastore, cn_lastore, cn_aastore, cn_getfield, cn_gf0, cn_gf1, cn_gf2, cn_gf3, cn_putfield, cn_pf0f, cn_pf1f, cn_pf2f, cn_pf3f, cn_pf0t, cn_pf1t, cn_pf2t, cn_pf3t, cn_new, cn_nw1, cn_newi, cn_newl, cn_anew, cn_an1, cn_inv_v, cn_inv_s, cn_inv_p, cn_ca1, cn_cb1, cn_pop0, cn_pops, cn_rk0, cn_rk1, cn_kcn, cn_kcs, cn_ireturn, cn_lreturn, cn_areturn, cn_return, cn_re0, cn_re1, cn_re2, cn_re3, cn_re4, cn_re5, cn_wp0, cn_wps, cn_m0, cn_m1, cn_e0, cn_en, cn_ei, cn_er, cn_eu, cn_el, cn_nl0, cn_nls, cn_nb0, cn_nb1, cn_nb2, cn_nb3, cn_bd0, cn_bds, cn_cwi, cn_cwr, cn_cwl, cn_cwn, cn_wi2, cn_wl1, cn_wl3, cn_wr1, cn_wr2, cn_wi_eq, cn_wl_eq, cb_0, cb_n0, cb_b, cm_okb0, cm_okb1, Classical.not_not, true_and, and_true, Nat.reduceAdd, Nat.reduceSub, Nat.reduceLT, Nat.reduceLeDiff, Int.reduceToNat, Int.reduceNatCast', Nat.zero_le, Nat.reduceEqDiff, false_or, or_false, or_true, true_or, Int.reduceNeg, reduceCtorEq, false_implies, implies_true, forall_const, true_implies, not_true_eq_false, not_false_eq_true, Nat.le_refl, ne_eq, if_true, if_false, ite_true, ite_false, List.cons_append, List.nil_append]
      simp (disch := omega) only [w3_le]
      refine ⟨fun _ => ?_, fun q => absurd (Int.le_refl _) q⟩
      have := hS M1 F1 G1 (fun _ => by rw [hres])
      rw [hres] at this
      exact this
set_option maxHeartbeats 4000000 in
theorem mX6_readTree (d : Nat) (hd : 2 ≤ d) : cm_Met d yX6_readTree cX6_readTree 5 (some .int) 0 0 SX6_readTree := by
  refine cm_meets (J := JX6_readTree) (by decide) rfl (fun h => by cases h) trivial ?_
  intro as T M Φ hS
  match as, hS with
  | [.ref a, .ref t], ⟨K, sgM, hK, hG, hout, hS⟩ =>
    refine ⟨Nat.le_of_ble_eq_true rfl, ?_⟩
    have k6 := hG.1.1
    refine cm_go hX6_readTree 200 oX6_readTree (eX6_readTree d hd) lX6_readTree_0 ?_
    simp only [jX6_readTree, kX6_readTree_0, kX6_readTree_1, fl_6_107, fl_6_173, k6, cn_iconst, cn_lconst0, cn_lconst1, cn_null, cn_iload, cn_aload, cn_lload, cn_lo1, cn_loa1, cn_loa2, cn_lol1, cn_get0, cn_gets, cn_put0, cn_puts, cn_istore, cn_astore, cn_astoreN, cn_lstore, cn_iinc, cn_in1, cn_iadd, cn_isub, cn_imul, cn_iand, cn_ior, cn_ixor, cn_ishl, cn_ishr, cn_iushr, cn_idiv, cn_irem, cn_ladd, cn_lmul, cn_ldiv, cn_lrem, cn_i2l, cn_l2i, cn_i2b, cn_lcmp, cn_dupi, cn_dupr, cn_dup2, cn_popi, cn_popr, cn_goto, cn_if_eq, cn_if_ne, cn_if_lt, cn_if_ge, cn_if_gt, cn_if_le, cn_ic_eq, cn_ic_ne, cn_ic_lt, cn_ic_ge, cn_ic_gt, cn_ic_le, cn_ifnullN, cn_ifnullR, cn_ifnonnullN, cn_ifnonnullR, cn_tswS, cn_tsw0, cn_tsw1, cn_lswS, cn_lsw0, cn_lsw1, cn_alen, cn_iaload, cn_laload, cn_rr1, cn_rr0, cn_aaload, cn_iastore, cn_lastore, cn_aastore, cn_getfield, cn_gf0, cn_gf1, cn_gf2, cn_gf3, cn_putfield, cn_pf0f, cn_pf1f, cn_pf2f, cn_pf3f, cn_pf0t, cn_pf1t, cn_pf2t, cn_pf3t, cn_new, cn_nw1, cn_newi, cn_newl, cn_anew, cn_an1, cn_inv_v, cn_inv_s, cn_inv_p, cn_ca1, cn_cb1, cn_pop0, cn_pops, cn_rk0, cn_rk1, cn_kcn, cn_kcs, cn_ireturn, cn_lreturn, cn_areturn, cn_return, cn_re0, cn_re1, cn_re2, cn_re3, cn_re4, cn_re5, cn_wp0, cn_wps, cn_m0, cn_m1, cn_e0, cn_en, cn_ei, cn_er, cn_eu, cn_el, cn_nl0, cn_nls, cn_nb0, cn_nb1, cn_nb2, cn_nb3, cn_bd0, cn_bds, cn_cwi, cn_cwr, cn_cwl, cn_cwn, cn_wi2, cn_wl1, cn_wl3, cn_wr1, cn_wr2, cn_wi_eq, cn_wl_eq, cb_0, cb_n0, cb_b, cm_okb0, cm_okb1, Classical.not_not, true_and, and_true, Nat.reduceAdd, Nat.reduceSub, Nat.reduceLT, Nat.reduceLeDiff, Int.reduceToNat, Int.reduceNatCast', Nat.zero_le, Nat.reduceEqDiff, false_or, or_false, or_true, true_or, Int.reduceNeg, reduceCtorEq, false_implies, implies_true, forall_const, true_implies, not_true_eq_false, not_false_eq_true, Nat.le_refl, ne_eq, if_true, if_false, ite_true, ite_false, List.cons_append, List.nil_append]
    refine ⟨hG, fun M1 F1 G1 t1 => ?_⟩
    simp only [jX6_readTree, kX6_readTree_0, kX6_readTree_1, fl_6_107, fl_6_173, k6, cn_iconst, cn_lconst0, cn_lconst1, cn_null, cn_iload, cn_aload, cn_lload, cn_lo1, cn_loa1, cn_loa2, cn_lol1, cn_get0, cn_gets, cn_put0, cn_puts, cn_istore, cn_astore, cn_astoreN, cn_lstore, cn_iinc, cn_in1, cn_iadd, cn_isub, cn_imul, cn_iand, cn_ior, cn_ixor, cn_ishl, cn_ishr, cn_iushr, cn_idiv, cn_irem, cn_ladd, cn_lmul, cn_ldiv, cn_lrem, cn_i2l, cn_l2i, cn_i2b, cn_lcmp, cn_dupi, cn_dupr, cn_dup2, cn_popi, cn_popr, cn_goto, cn_if_eq, cn_if_ne, cn_if_lt, cn_if_ge, cn_if_gt, cn_if_le, cn_ic_eq, cn_ic_ne, cn_ic_lt, cn_ic_ge, cn_ic_gt, cn_ic_le, cn_ifnullN, cn_ifnullR, cn_ifnonnullN, cn_ifnonnullR, cn_tswS, cn_tsw0, cn_tsw1, cn_lswS, cn_lsw0, cn_lsw1, cn_alen, cn_iaload, cn_laload, cn_rr1, cn_rr0, cn_aaload, cn_iastore, cn_lastore, cn_aastore, cn_getfield, cn_gf0, cn_gf1, cn_gf2, cn_gf3, cn_putfield, cn_pf0f, cn_pf1f, cn_pf2f, cn_pf3f, cn_pf0t, cn_pf1t, cn_pf2t, cn_pf3t, cn_new, cn_nw1, cn_newi, cn_newl, cn_anew, cn_an1, cn_inv_v, cn_inv_s, cn_inv_p, cn_ca1, cn_cb1, cn_pop0, cn_pops, cn_rk0, cn_rk1, cn_kcn, cn_kcs, cn_ireturn, cn_lreturn, cn_areturn, cn_return, cn_re0, cn_re1, cn_re2, cn_re3, cn_re4, cn_re5, cn_wp0, cn_wps, cn_m0, cn_m1, cn_e0, cn_en, cn_ei, cn_er, cn_eu, cn_el, cn_nl0, cn_nls, cn_nb0, cn_nb1, cn_nb2, cn_nb3, cn_bd0, cn_bds, cn_cwi, cn_cwr, cn_cwl, cn_cwn, cn_wi2, cn_wl1, cn_wl3, cn_wr1, cn_wr2, cn_wi_eq, cn_wl_eq, cb_0, cb_n0, cb_b, cm_okb0, cm_okb1, Classical.not_not, true_and, and_true, Nat.reduceAdd, Nat.reduceSub, Nat.reduceLT, Nat.reduceLeDiff, Int.reduceToNat, Int.reduceNatCast', Nat.zero_le, Nat.reduceEqDiff, false_or, or_false, or_true, true_or, Int.reduceNeg, reduceCtorEq, false_implies, implies_true, forall_const, true_implies, not_true_eq_false, not_false_eq_true, Nat.le_refl, ne_eq, if_true, if_false, ite_true, ite_false, List.cons_append, List.nil_append]
    exact lX6_readTree d hd sgM hK hout hS 0 M1 .null none none (Nat.zero_le _) F1 G1 (by rw [t1]; rfl) (fun _ => rfl) (fun f h => by cases h)

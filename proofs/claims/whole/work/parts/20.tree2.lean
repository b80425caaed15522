def SX5_clear : cm_CT := fun as T M Φ => match as with
  | [.ref t] => TrG T M t ∧ ∀ M1, Fr M M1 t 8 → TrG T M1 t → trv M1 t = (w3 0, none, none, none) → Φ none T M1
  | _ => False
def JX5_clear : cm_J := (5, false, 0, [], [], [])
theorem jX5_clear : JX5_clear.1 = 5 ∧ JX5_clear.2.1 = false ∧ JX5_clear.2.2.1 = 0 := ⟨rfl, rfl, rfl⟩
theorem eX5_clear (d : Nat) (hd : 0 ≤ d) : cm_Cok d JX5_clear := ⟨(fun q h => by cases h), (fun q h => by cases h), (fun q h => by cases h)⟩
theorem fl_none {M : cm_M} {a : Nat} (h : M.1 a 1 = w3 (-1)) : fl M a = none := by
  unfold fl sz
  rw [h]
  exact flm_mkn (by decide)
set_option maxHeartbeats 4000000 in
theorem mX5_clear (d : Nat) (hd : 0 ≤ d) : cm_Met d yX5_clear cX5_clear 2 none 0 0 SX5_clear := by
  refine cm_meets (J := JX5_clear) (by decide) rfl (fun h => by cases h) trivial ?_
  intro as T M Φ hS
  match as, hS with
  | [.ref t], ⟨hg, hS⟩ =>
    refine ⟨Nat.le_of_ble_eq_true rfl, ?_⟩
    obtain ⟨⟨h1, h2, h3, h4, ⟨a1, a2, a3⟩, ⟨b1, b2, b3⟩, ⟨c1, c2, c3⟩, ⟨d1, d2, d3⟩, e1, e2, e3⟩, s1, s2, s3⟩ := id hg
    obtain ⟨⟨g1, p1⟩, ⟨g2, p2⟩, ⟨g3, p3⟩⟩ := hg.sg
    refine cm_go [] 400 oX5_clear (eX5_clear d hd) lX5_clear_0 ?_
    simp (disch := omega) only [jX5_clear, kzX5_clear_0, fl_5_17, fl_5_11, fl_5_24, h1, h2, h3, h4, a1, a2, a3, b1, b2, b3, cn_iconst, cn_lconst0, cn_lconst1, cn_null, cn_iload, cn_aload, cn_lload, cn_lo1, cn_loa1, cn_loa2, cn_lol1, cn_get0, cn_gets, cn_put0, cn_puts, cn_istore, cn_astore, cn_astoreN, cn_lstore, cn_iinc, cn_in1, cn_iadd, cn_isub, cn_imul, cn_iand, cn_ior, cn_ixor, cn_ishl, cn_ishr, cn_iushr, cn_idiv, cn_irem, cn_ladd, cn_lmul, cn_ldiv, cn_lrem, cn_i2l, cn_l2i, cn_i2b, cn_lcmp, cn_dupi, cn_dupr, cn_dup2, cn_popi, cn_popr, cn_goto, cn_if_eq, cn_if_ne, cn_if_lt, cn_if_ge, cn_if_gt, cn_if_le, cn_ic_eq, cn_ic_ne, cn_ic_lt, cn_ic_ge, cn_ic_gt, cn_ic_le, cn_ifnullN, cn_ifnullR, cn_ifnonnullN, cn_ifnonnullR, cn_tswS, cn_tsw0, cn_tsw1, cn_lswS, cn_lsw0, cn_lsw1, cn_alen, cn_iaload, cn_laload, cn_rr1, cn_rr0, cn_aaload, cn_iastore, cn_lastore, cn_aastore, cn_getfield, cn_gf0, cn_gf1, cn_gf2, cn_gf3, cn_putfield, cn_pf0f, cn_pf1f, cn_pf2f, cn_pf3f, cn_pf0t, cn_pf1t, cn_pf2t, cn_pf3t, cn_new, cn_nw1, cn_newi, cn_newl, cn_anew, cn_an1, cn_inv_v, cn_inv_s, cn_inv_p, cn_ca1, cn_cb1, cn_pop0, cn_pops, cn_rk0, cn_rk1, cn_kcn, cn_kcs, cn_ireturn, cn_lreturn, cn_areturn, cn_return, cn_re0, cn_re1, cn_re2, cn_re3, cn_re4, cn_re5, cn_wp0, cn_wps, cn_m0, cn_m1, cn_e0, cn_en, cn_ei, cn_er, cn_eu, cn_el, cn_nl0, cn_nls, cn_nb0, cn_nb1, cn_nb2, cn_nb3, cn_bd0, cn_bds, cn_cwi, cn_cwr, cn_cwl, cn_cwn, cn_wi2, cn_wl1, cn_wl3, cn_wr1, cn_wr2, cn_wi_eq, cn_wl_eq, cb_0, cb_n0, cb_b, cm_okb0, cm_okb1, Classical.not_not, true_and, and_true, Nat.reduceAdd, Nat.reduceSub, Nat.reduceLT, Nat.reduceLeDiff, Int.reduceToNat, Int.reduceNatCast', Nat.zero_le, Nat.reduceEqDiff, false_or, or_false, or_true, true_or, Int.reduceNeg, reduceCtorEq, false_implies, implies_true, forall_const, true_implies, not_true_eq_false, not_false_eq_true, Nat.le_refl, ne_eq, if_true, if_false, ite_true, ite_false, List.cons_append, List.nil_append, w3_add, w3_sub, w3_le, w3_lt, w3_eq, w3_toInt, w3_ix, Int.reduceLE, Int.reduceLT, Int.reduceAdd, Int.reduceSub, Int.reduceEq, Int.le_refl, Int.lt_irrefl]
    refine hS _ ?_ ?_ ?_
    · exact ((Fr.wi (Nat.le_refl _) (by omega)).trans (Fr.wi (by omega) (by omega))).trans ((Fr.wi (by omega) (by omega)).trans (Fr.wi (by omega) (by omega)))
    · refine ⟨hg.1, ?_, ?_, ?_⟩ <;> unfold szb sz <;> simp (disch := omega) only [cn_wi_ne, cn_wi_eq] <;> decide
    · unfold trv
      rw [fl_none (by simp (disch := omega) only [cn_wi_ne, cn_wi_eq]), fl_none (by simp (disch := omega) only [cn_wi_ne, cn_wi_eq]), fl_none (by simp (disch := omega) only [cn_wi_ne, cn_wi_eq])]
      simp (disch := omega) only [cn_wi_ne, cn_wi_eq]
def cnt (F : Fl) : List Int32 := match F with
  | none => []
  | some L => L
/-- a file settled by a side: which part it is at, what has come -/
def sMk (dep : Int) (x : Int32) : Prop := 10 ≤ x.toInt ∧ dep + (if x = w3 10 then 1 else 0) = 1
noncomputable def sStep (s dep : Int) (x : Int32) (q : Int × List Int32) : Int × List Int32 := @ite _ (sMk dep x) (Classical.propDecidable _) ((if x = w3 13 then s else x.toInt - 10), q.2) (if q.1 = s then (q.1, q.2 ++ [x]) else q)
noncomputable def sP (L : List Int32) (s : Int) : Nat → Int × List Int32
  | 0 => (s, [])
  | k + 1 => sStep s (dp L k) (gt L k) (sP L s k)
theorem sStep_1 {s dep : Int} {x : Int32} {q : Int × List Int32} (h : sMk dep x) : sStep s dep x q = ((if x = w3 13 then s else x.toInt - 10), q.2) := if_pos h
theorem sStep_2 {s dep : Int} {x : Int32} {q : Int × List Int32} (h : ¬ sMk dep x) (h2 : q.1 = s) : sStep s dep x q = (q.1, q.2 ++ [x]) := (if_neg h).trans (if_pos h2)
theorem sStep_3 {s dep : Int} {x : Int32} {q : Int × List Int32} (h : ¬ sMk dep x) (h2 : ¬ q.1 = s) : sStep s dep x q = q := (if_neg h).trans (if_neg h2)
theorem sMk_iff {dep xi : Int} (h1 : -2147483648 ≤ xi) (h2 : xi < 2147483648) : sMk dep (w3 xi) = ((xi = 10 ∧ dep = 0) ∨ (10 < xi ∧ dep = 1)) := by
  unfold sMk
  rw [w3_toInt h1 h2]
  by_cases h : xi = 10
  · subst h
    simp only [if_true]
    exact propext ⟨fun q => Or.inl ⟨trivial, by omega⟩, fun q => by omega⟩
  · have h3 : ¬ w3 xi = w3 10 := fun q => h (by rwa [w3_eq h1 h2 (by omega) (by omega)] at q)
    simp only [h3, if_false]
    apply propext
    omega
theorem sP_len (L : List Int32) (s : Int) : ∀ k, (sP L s k).2.length ≤ k
  | 0 => Nat.le_refl _
  | k + 1 => by
    have h := sP_len L s k
    show (sStep s (dp L k) (gt L k) (sP L s k)).2.length ≤ k + 1
    by_cases c : sMk (dp L k) (gt L k)
    · rw [sStep_1 c]; exact Nat.le_succ_of_le h
    · by_cases c2 : (sP L s k).1 = s
      · rw [sStep_2 c c2]
        simp only [List.length_append, List.length_cons, List.length_nil]
        omega
      · rw [sStep_3 c c2]; omega
theorem sP_rg (L : List Int32) {s : Int} (h : 0 ≤ s ∧ s ≤ 2) : ∀ k, 0 ≤ (sP L s k).1 ∧ (sP L s k).1 < 2147483648
  | 0 => by simp only [sP]; omega
  | k + 1 => by
    have h3 := sP_rg L h k
    have h4 := w3_hi (gt L k)
    show 0 ≤ (sStep s (dp L k) (gt L k) (sP L s k)).1 ∧ (sStep s (dp L k) (gt L k) (sP L s k)).1 < 2147483648
    by_cases c : sMk (dp L k) (gt L k)
    · rw [sStep_1 c]
      have h5 := c.1
      show 0 ≤ (if gt L k = w3 13 then s else (gt L k).toInt - 10) ∧ (if gt L k = w3 13 then s else (gt L k).toInt - 10) < 2147483648
      split <;> omega
    · by_cases c2 : (sP L s k).1 = s
      · rw [sStep_2 c c2]; exact h3
      · rw [sStep_3 c c2]; exact h3
noncomputable def stl (F : Fl) (s : Int) : List Int32 := (sP (cnt F) s (cnt F).length).2
theorem gt_app {L : List Int32} {x : Int32} {j : Nat} (h : j < L.length) : gt (L ++ [x]) j = gt L j := by
  unfold gt
  rw [List.getD_eq_getElem?_getD, List.getD_eq_getElem?_getD, List.getElem?_append_left h]
theorem gt_last {L : List Int32} {x : Int32} : gt (L ++ [x]) L.length = x := by
  unfold gt
  rw [List.getD_eq_getElem?_getD, List.getElem?_append_right (Nat.le_refl _), Nat.sub_self]
  rfl
/-- a row that holds a list -/
abbrev mLst (M : cm_M) (a : Nat) (L : List Int32) : cm_M := mRow M a (L.length : Int) (fun j => gt L j.toNat)
theorem ap_lst {T : cm_T} {M : cm_M} {a : Nat} {L : List Int32} {v : Int32} {K : Option Value → cm_T → cm_M → Prop} (ha : Sg T M a) (z1 : L.length < T.2.1 (pl M a)) (hK : K none T (mLst M a (L ++ [v]))) : SX4_append [.ref a, .int v] T (mLst M a L) K := by
  refine ap_mRow (g := fun j => gt (L ++ [v]) j.toNat) ha (by omega) (by omega) (fun j a1 a2 => gt_app (by omega)) ?_ ?_
  · exact gt_last
  · have e : ((L.length : Nat) : Int) + 1 = (((L ++ [v]).length : Nat) : Int) := by simp
    rw [e]
    exact hK
theorem fl_lst {M : cm_M} {a : Nat} {L : List Int32} (h0 : pl M a ≠ a) (h : L.length ≤ 60) : fl (mLst M a L) a = some L := by
  rw [fl_row h0 (by omega) (by omega)]
  exact flm_mk rfl (fun k hk => by rw [Int.zero_add]; rfl)
set_option maxRecDepth 100000 in
theorem kzX5_settleFile_0 : cm_cd tX5_settleFile [] 0 = some (.aload 2, 1) ∧ cm_cd tX5_settleFile [] 1 = some (.iconst 0, 1) ∧ cm_cd tX5_settleFile [] 2 = some (.iconst 0, 1) ∧ cm_cd tX5_settleFile [] 3 = some (.invokevirtual 53, 3) ∧ cm_cd tX5_settleFile [] 6 = some (.iconst 0, 1) ∧ cm_cd tX5_settleFile [] 7 = some (.istore 3, 1) ∧ cm_cd tX5_settleFile [] 8 = some (.iload 1, 1) ∧ cm_cd tX5_settleFile [] 9 = some (.istore 4, 2) ∧ cm_cd tX5_settleFile [] 11 = some (.iconst 0, 1) ∧ cm_cd tX5_settleFile [] 12 = some (.istore 5, 2) ∧ cm_cd tX5_settleFile [] 14 = some (.iload 5, 2) ∧ cm_cd tX5_settleFile [] 16 = some (.aload 0, 1) ∧ cm_cd tX5_settleFile [] 17 = some (.getfield 24, 3) ∧ cm_cd tX5_settleFile [] 20 = some (.if_icmp .ge 102, 3) ∧ cm_cd tX5_settleFile [] 23 = some (.aload 0, 1) ∧ cm_cd tX5_settleFile [] 24 = some (.iload 5, 2) ∧ cm_cd tX5_settleFile [] 26 = some (.invokevirtual 49, 3) ∧ cm_cd tX5_settleFile [] 29 = some (.istore 6, 2) ∧ cm_cd tX5_settleFile [] 31 = some (.iload 6, 2) ∧ cm_cd tX5_settleFile [] 33 = some (.iconst 10, 2) ∧ cm_cd tX5_settleFile [] 35 = some (.if_icmp .ne 41, 3) ∧ cm_cd tX5_settleFile [] 38 = some (.iinc 3 1, 3) ∧ cm_cd tX5_settleFile [] 41 = some (.iload 6, 2) ∧ cm_cd tX5_settleFile [] 43 = some (.iconst 10, 2) ∧ cm_cd tX5_settleFile [] 45 = some (.if_icmp .lt 74, 3) ∧ cm_cd tX5_settleFile [] 48 = some (.iload 3, 1) ∧ cm_cd tX5_settleFile [] 49 = some (.iconst 1, 1) ∧ cm_cd tX5_settleFile [] 50 = some (.if_icmp .ne 74, 3) ∧ cm_cd tX5_settleFile [] 53 = some (.iload 6, 2) ∧ cm_cd tX5_settleFile [] 55 = some (.iconst 13, 2) ∧ cm_cd tX5_settleFile [] 57 = some (.if_icmp .ne 64, 3) ∧ cm_cd tX5_settleFile [] 60 = some (.iload 1, 1) ∧ cm_cd tX5_settleFile [] 61 = some (.goto 69, 3) ∧ cm_cd tX5_settleFile [] 64 = some (.iload 6, 2) ∧ cm_cd tX5_settleFile [] 66 = some (.iconst 10, 2) ∧ cm_cd tX5_settleFile [] 68 = some (.isub, 1) ∧ cm_cd tX5_settleFile [] 69 = some (.istore 4, 2) ∧ cm_cd tX5_settleFile [] 71 = some (.goto 86, 3) ∧ cm_cd tX5_settleFile [] 74 = some (.iload 4, 2) ∧ cm_cd tX5_settleFile [] 76 = some (.iload 1, 1) ∧ cm_cd tX5_settleFile [] 77 = some (.if_icmp .ne 86, 3) ∧ cm_cd tX5_settleFile [] 80 = some (.aload 2, 1) ∧ cm_cd tX5_settleFile [] 81 = some (.iload 6, 2) ∧ cm_cd tX5_settleFile [] 83 = some (.invokevirtual 57, 3) ∧ cm_cd tX5_settleFile [] 86 = some (.iload 6, 2) ∧ cm_cd tX5_settleFile [] 88 = some (.iconst 13, 2) ∧ cm_cd tX5_settleFile [] 90 = some (.if_icmp .ne 96, 3) ∧ cm_cd tX5_settleFile [] 93 = some (.iinc 3 (-1), 3) ∧ cm_cd tX5_settleFile [] 96 = some (.iinc 5 1, 3) ∧ cm_cd tX5_settleFile [] 99 = some (.goto 14, 3) ∧ cm_cd tX5_settleFile [] 102 = some (.return_, 1) := ⟨rfl, rfl, rfl, rfl, rfl, rfl, rfl, rfl, rfl, rfl, rfl, rfl, rfl, rfl, rfl, rfl, rfl, rfl, rfl, rfl, rfl, rfl, rfl, rfl, rfl, rfl, rfl, rfl, rfl, rfl, rfl, rfl, rfl, rfl, rfl, rfl, rfl, rfl, rfl, rfl, rfl, rfl, rfl, rfl, rfl, rfl, rfl, rfl, rfl, rfl, rfl⟩
def djs (M : cm_M) (a b : Nat) : Prop := a ≠ b ∧ pl M a ≠ pl M b
def SX5_settleFile : cm_CT := fun as T M Φ => match as with
  | [.ref a, .int sd, .ref b] => ∃ s : Int, sd = w3 s ∧ 0 ≤ s ∧ s ≤ 2 ∧ Sg T M a ∧ Sg T M b ∧ djs M a b ∧ sz M a ≤ (T.2.1 (pl M b) : Int) ∧ Φ none T (mLst M b (stl (fl M a) s))
  | _ => False
def JX5_settleFile : cm_J := (5, false, 0, [(53, 3, 5, 0, 0, SX4_renew), (49, 2, 5, 0, 0, SX4_get), (57, 2, 5, 0, 0, SX4_append)], [], [])
theorem jX5_settleFile : JX5_settleFile.1 = 5 ∧ JX5_settleFile.2.1 = false ∧ JX5_settleFile.2.2.1 = 0 ∧ cm_gv JX5_settleFile 53 = some (3, 5, 0, 0, SX4_renew) ∧ cm_gv JX5_settleFile 49 = some (2, 5, 0, 0, SX4_get) ∧ cm_gv JX5_settleFile 57 = some (2, 5, 0, 0, SX4_append) := ⟨rfl, rfl, rfl, rfl, rfl, rfl⟩
theorem eX5_settleFile (d : Nat) (hd : 2 ≤ d) : cm_Cok d JX5_settleFile := ⟨(List.forall_mem_cons.mpr ⟨q5_53 (mX4_renew (d - 1) (by omega)) (by omega), (List.forall_mem_cons.mpr ⟨q5_49 (mX4_get (d - 1) (by omega)) (by omega), (List.forall_mem_cons.mpr ⟨q5_57 (mX4_append (d - 1) (by omega)) (by omega), (fun q h => by cases h)⟩)⟩)⟩), (fun q h => by cases h), (fun q h => by cases h)⟩
set_option maxHeartbeats 4000000 in
theorem lX5_settleFile (d : Nat) (hd : 2 ≤ d) {T : cm_T} {M : cm_M} {Φ : Option Value → cm_T → cm_M → Prop} {a b : Nat} {s : Int} {L : List Int32} (s0 : 0 ≤ s) (s2 : s ≤ 2) (hg : Sg T M a) (hb : Sg T M b) (hj : djs M a b) (hc : sz M a ≤ (T.2.1 (pl M b) : Int)) (hL : fl M a = some L) (hS : Φ none T (mLst M b (sP L s L.length).2)) :
    ∀ (k : Nat) (o6 : Option Value), k ≤ L.length → cm_Go d cX5_settleFile 7 0 0 JX5_settleFile Φ 14 [some (.ref a), some (.int (w3 s)), some (.ref b), some (.int (w3 (dp L k))), some (.int (w3 (sP L s k).1)), some (.int (w3 k)), o6] [] (0, 0) T (mLst M b (sP L s k).2) := by
  intro k
  induction hf : (L.length - k) using Nat.strongRecOn generalizing k with
  | _ f ih =>
    intro o6 k1
    obtain ⟨hz, h60, hat⟩ := Sg_len hg hL
    obtain ⟨j1, j2⟩ := hj
    have hsz : (mLst M b (sP L s k).2).1 a 1 = w3 (L.length : Int) := by
      rw [mRow_ne (Or.inl j1) (Or.inl (hg.ne hb)), sz_w, hz]
    have h1 := hg.1
    have b1 := dp_bd L k
    have rg := sP_rg L ⟨s0, s2⟩ k
    refine cm_go hX5_settleFile 200 oX5_settleFile (eX5_settleFile d hd) lX5_settleFile_14 ?_
    simp only [jX5_settleFile, kX5_settleFile_0, fl_5_24, h1, hsz, cn_iconst, cn_lconst0, cn_lconst1, cn_null, cn_iload, cn_aload, cn_lload, cn_lo1, cn_loa1, cn_loa2, cn_lol1, cn_get0, cn_gets, cn_put0, cn_puts, cn_istore, cn_astore, cn_astoreN, cn_lstore, cn_iinc, cn_in1, cn_iadd, cn_isub, cn_imul, cn_iand, cn_ior, cn_ixor, cn_ishl, cn_ishr, cn_iushr, cn_idiv, cn_irem, cn_ladd, cn_lmul, cn_ldiv, cn_lrem, cn_i2l, cn_l2i, cn_i2b, cn_lcmp, cn_dupi, cn_dupr, cn_dup2, cn_popi, cn_popr, cn_goto, cn_if_eq, cn_if_ne, cn_if_lt, cn_if_ge, cn_if_gt, cn_if_le, cn_ic_eq, cn_ic_ne, cn_ic_lt, cn_ic_ge, cn_ic_gt, cn_ic_le, cn_ifnullN, cn_ifnullR, cn_ifnonnullN, cn_ifnonnullR, cn_tswS, cn_tsw0, cn_tsw1, cn_lswS, cn_lsw0, cn_lsw1, cn_alen, cn_iaload, cn_laload, cn_rr1, cn_rr0, cn_aaload, cn_iastore, cn_lastore, cn_aastore, cn_getfield, cn_gf0, cn_gf1, cn_gf2, cn_gf3, cn_putfield, cn_pf0f, cn_pf1f, cn_pf2f, cn_pf3f, cn_pf0t, cn_pf1t, cn_pf2t, cn_pf3t, cn_new, cn_nw1, cn_newi, cn_newl, cn_anew, cn_an1, cn_inv_v, cn_inv_s, cn_inv_p, cn_ca1, cn_cb1, cn_pop0, cn_pops, cn_rk0, cn_rk1, cn_kcn, cn_kcs, cn_ireturn, cn_lreturn, cn_areturn, cn_return, cn_re0, cn_re1, cn_re2, cn_re3, cn_re4, cn_re5, cn_wp0, cn_wps, cn_m0, cn_m1, cn_e0, cn_en, cn_ei, cn_er, cn_eu, cn_el, cn_nl0, cn_nls, cn_nb0, cn_nb1, cn_nb2, cn_nb3, cn_bd0, cn_bds, cn_cwi, cn_cwr, cn_cwl, cn_cwn, cn_wi2, cn_wl1, cn_wl3, cn_wr1, cn_wr2, cn_wi_eq, cn_wl_eq, cb_0, cb_n0, cb_b, cm_okb0, cm_okb1, Classical.not_not, true_and, and_true, Nat.reduceAdd, Nat.reduceSub, Nat.reduceLT, Nat.reduceLeDiff, Int.reduceToNat, Int.reduceNatCast', Nat.zero_le, Nat.reduceEqDiff, false_or, or_false, or_true, true_or, Int.reduceNeg, reduceCtorEq, false_implies, implies_true, forall_const, true_implies, not_true_eq_false, not_false_eq_true, Nat.le_refl, ne_eq, if_true, if_false, ite_true, ite_false, List.cons_append, List.nil_append]
    simp (disch := omega) only [w3_le, w3_lt, w3_eq, w3_ix, w3_add, w3_sub, w3_mul, w3_toInt, w3_z]
    refine ⟨fun h => ?_, fun h => ?_⟩
    · rw [show k = L.length by omega]; exact hS
    · have hk : k < L.length := by omega
      refine gt_mRow hb hg j1 j2 (by omega) (by omega) ?_
      rw [hat k hk]
      have key := fun o => ih _ (show L.length - (k + 1) < f by omega) (k + 1) rfl o (by omega)
      have c1 : dp L (k + 1) = dp L k + dstep (gt L k) := rfl
      have ek : (((k + 1 : Nat)) : Int) = (k : Int) + 1 := by omega
      have sl := sP_len L s k
      have lo := w3_lo (gt L k)
      have hi := w3_hi (gt L k)
      simp only [c1, ek, sP] at key
      generalize hq : sP L s k = q at *
      obtain ⟨pt, ou⟩ := q
      dsimp only at rg sl key ⊢
      generalize gt L k = x at *
      have hx : x = w3 x.toInt := (w3_self x).symm
      generalize hxi : x.toInt = xi at *
      subst hx
      simp only [jX5_settleFile, kX5_settleFile_0, fl_5_24, hb.1, cn_iconst, cn_lconst0, cn_lconst1, cn_null, cn_iload, cn_aload, cn_lload, cn_lo1, cn_loa1, cn_loa2, cn_lol1, cn_get0, cn_gets, cn_put0, cn_puts, cn_istore, cn_astore, cn_astoreN, cn_lstore, cn_iinc, cn_in1, cn_iadd, cn_isub, cn_imul, cn_iand, cn_ior, cn_ixor, cn_ishl, cn_ishr, cn_iushr, cn_idiv, cn_irem, cn_ladd, cn_lmul, cn_ldiv, cn_lrem, cn_i2l, cn_l2i, cn_i2b, cn_lcmp, cn_dupi, cn_dupr, cn_dup2, cn_popi, cn_popr, cn_goto, cn_if_eq, cn_if_ne, cn_if_lt, cn_if_ge, cn_if_gt, cn_if_le, cn_ic_eq, cn_ic_ne, cn_ic_lt, cn_ic_ge, cn_ic_gt, cn_ic_le, cn_ifnullN, cn_ifnullR, cn_ifnonnullN, cn_ifnonnullR, cn_tswS, cn_tsw0, cn_tsw1, cn_lswS, cn_lsw0, cn_lsw1, cn_alen, cn_iaload, cn_laload, cn_rr1, cn_rr0, cn_aaload, cn_iastore, cn_lastore, cn_aastore, cn_getfield, cn_gf0, cn_gf1, cn_gf2, cn_gf3, cn_putfield, cn_pf0f, cn_pf1f, cn_pf2f, cn_pf3f, cn_pf0t, cn_pf1t, cn_pf2t, cn_pf3t, cn_new, cn_nw1, cn_newi, cn_newl, cn_anew, cn_an1, cn_inv_v, cn_inv_s, cn_inv_p, cn_ca1, cn_cb1, cn_pop0, cn_pops, cn_rk0, cn_rk1, cn_kcn, cn_kcs, cn_ireturn, cn_lreturn, cn_areturn, cn_return, cn_re0, cn_re1, cn_re2, cn_re3, cn_re4, cn_re5, cn_wp0, cn_wps, cn_m0, cn_m1, cn_e0, cn_en, cn_ei, cn_er, cn_eu, cn_el, cn_nl0, cn_nls, cn_nb0, cn_nb1, cn_nb2, cn_nb3, cn_bd0, cn_bds, cn_cwi, cn_cwr, cn_cwl, cn_cwn, cn_wi2, cn_wl1, cn_wl3, cn_wr1, cn_wr2, cn_wi_eq, cn_wl_eq, cb_0, cb_n0, cb_b, cm_okb0, cm_okb1, Classical.not_not, true_and, and_true, Nat.reduceAdd, Nat.reduceSub, Nat.reduceLT, Nat.reduceLeDiff, Int.reduceToNat, Int.reduceNatCast', Nat.zero_le, Nat.reduceEqDiff, false_or, or_false, or_true, true_or, Int.reduceNeg, reduceCtorEq, false_implies, implies_true, forall_const, true_implies, not_true_eq_false, not_false_eq_true, Nat.le_refl, ne_eq, if_true, if_false, ite_true, ite_false, List.cons_append, List.nil_append]
      simp (disch := omega) only [w3_le, w3_lt, w3_eq, w3_ix, w3_add, w3_sub, w3_mul, w3_toInt, w3_z]
      simp (disch := omega) only [dstep, w3_eq] at key
      by_cases cm : sMk (dp L k) (w3 xi)
      · rw [sStep_1 cm] at key
        simp (disch := omega) only [w3_eq, w3_toInt] at key
        rw [sMk_iff (by omega) (by omega)] at cm
        repeat' (first | with_reducible apply And.intro | with_reducible intro _)
        all_goals first | (exfalso; omega) | (refine cast ?_ (key (some (.int (w3 xi)))); congr 1 <;> (repeat' split) <;> first | rfl | (exfalso; omega) | (simp only [Int.add_zero, Int.zero_add]; done) | (congr <;> omega))
      · by_cases c2 : pt = s
        · rw [sStep_2 cm c2] at key
          rw [sMk_iff (by omega) (by omega)] at cm
          repeat' (first | with_reducible apply And.intro | with_reducible intro _)
          all_goals try (exfalso; omega)
          all_goals refine ap_lst hb (by omega) ?_
          all_goals simp only [jX5_settleFile, kX5_settleFile_0, fl_5_24, cn_iconst, cn_lconst0, cn_lconst1, cn_null, cn_iload, cn_aload, cn_lload, cn_lo1, cn_loa1, cn_loa2, cn_lol1, cn_get0, cn_gets, cn_put0, cn_puts, cn_istore, cn_astore, cn_astoreN, cn_lstore, cn_iinc, cn_in1, cn_iadd, cn_isub, cn_imul, cn_iand, cn_ior, cn_ixor, cn_ishl, cn_ishr, cn_iushr, cn_idiv, cn_irem, cn_ladd, cn_lmul, cn_ldiv, cn_lrem, cn_i2l, cn_l2i, cn_i2b, cn_lcmp, cn_dupi, cn_dupr, cn_dup2, cn_popi, cn_popr, cn_goto, cn_if_eq, cn_if_ne, cn_if_lt, cn_if_ge, cn_if_gt, cn_if_le, cn_ic_eq, cn_ic_ne, cn_ic_lt, cn_ic_ge, cn_ic_gt, cn_ic_le, cn_ifnullN, cn_ifnullR, cn_ifnonnullN, cn_ifnonnullR, cn_tswS, cn_tsw0, cn_tsw1, cn_lswS, cn_lsw0, cn_lsw1, cn_alen, cn_iaload, cn_laload, cn_rr1, cn_rr0, cn_aaload, cn_iastore, cn_lastore, cn_aastore, cn_getfield, cn_gf0, cn_gf1, cn_gf2, cn_gf3, cn_putfield, cn_pf0f, cn_pf1f, cn_pf2f, cn_pf3f, cn_pf0t, cn_pf1t, cn_pf2t, cn_pf3t, cn_new, cn_nw1, cn_newi, cn_newl, cn_anew, cn_an1, cn_inv_v, cn_inv_s, cn_inv_p, cn_ca1, cn_cb1, cn_pop0, cn_pops, cn_rk0, cn_rk1, cn_kcn, cn_kcs, cn_ireturn, cn_lreturn, cn_areturn, cn_return, cn_re0, cn_re1, cn_re2, cn_re3, cn_re4, cn_re5, cn_wp0, cn_wps, cn_m0, cn_m1, cn_e0, cn_en, cn_ei, cn_er, cn_eu, cn_el, cn_nl0, cn_nls, cn_nb0, cn_nb1, cn_nb2, cn_nb3, cn_bd0, cn_bds, cn_cwi, cn_cwr, cn_cwl, cn_cwn, cn_wi2, cn_wl1, cn_wl3, cn_wr1, cn_wr2, cn_wi_eq, cn_wl_eq, cb_0, cb_n0, cb_b, cm_okb0, cm_okb1, Classical.not_not, true_and, and_true, Nat.reduceAdd, Nat.reduceSub, Nat.reduceLT, Nat.reduceLeDiff, Int.reduceToNat, Int.reduceNatCast', Nat.zero_le, Nat.reduceEqDiff, false_or, or_false, or_true, true_or, Int.reduceNeg, reduceCtorEq, false_implies, implies_true, forall_const, true_implies, not_true_eq_false, not_false_eq_true, Nat.le_refl, ne_eq, if_true, if_false, ite_true, ite_false, List.cons_append, List.nil_append]
          all_goals simp (disch := omega) only [w3_le, w3_lt, w3_eq, w3_ix, w3_add, w3_sub, w3_mul, w3_toInt, w3_z]
          all_goals repeat' (first | with_reducible apply And.intro | with_reducible intro _)
          all_goals first | (exfalso; omega) | (refine cast ?_ (key (some (.int (w3 xi)))); congr 1 <;> (repeat' split) <;> first | rfl | (exfalso; omega) | (simp only [Int.add_zero, Int.zero_add]; done) | (congr <;> omega))
        · rw [sStep_3 cm c2] at key
          rw [sMk_iff (by omega) (by omega)] at cm
          repeat' (first | with_reducible apply And.intro | with_reducible intro _)
          all_goals first | (exfalso; omega) | (refine cast ?_ (key (some (.int (w3 xi)))); congr 1 <;> (repeat' split) <;> first | rfl | (exfalso; omega) | (simp only [Int.add_zero, Int.zero_add]; done) | (congr <;> omega))
set_option maxHeartbeats 4000000 in
theorem mX5_settleFile (d : Nat) (hd : 2 ≤ d) : cm_Met d yX5_settleFile cX5_settleFile 7 none 0 0 SX5_settleFile := by
  refine cm_meets (J := JX5_settleFile) (by decide) rfl (fun h => by cases h) trivial ?_
  intro as T M Φ hS
  match as, hS with
  | [.ref a, .int sd, .ref b], ⟨s, hsd, s0, s2, hg, hb, hj, hc, hS⟩ =>
    refine ⟨Nat.le_of_ble_eq_true rfl, ?_⟩
    subst hsd
    have h60 := hb.2.2.2.2.2
    have hb1 := hb.1
    refine cm_go hX5_settleFile 200 oX5_settleFile (eX5_settleFile d hd) lX5_settleFile_0 ?_
    simp only [jX5_settleFile, kX5_settleFile_0, fl_5_24, hb1, cn_iconst, cn_lconst0, cn_lconst1, cn_null, cn_iload, cn_aload, cn_lload, cn_lo1, cn_loa1, cn_loa2, cn_lol1, cn_get0, cn_gets, cn_put0, cn_puts, cn_istore, cn_astore, cn_astoreN, cn_lstore, cn_iinc, cn_in1, cn_iadd, cn_isub, cn_imul, cn_iand, cn_ior, cn_ixor, cn_ishl, cn_ishr, cn_iushr, cn_idiv, cn_irem, cn_ladd, cn_lmul, cn_ldiv, cn_lrem, cn_i2l, cn_l2i, cn_i2b, cn_lcmp, cn_dupi, cn_dupr, cn_dup2, cn_popi, cn_popr, cn_goto, cn_if_eq, cn_if_ne, cn_if_lt, cn_if_ge, cn_if_gt, cn_if_le, cn_ic_eq, cn_ic_ne, cn_ic_lt, cn_ic_ge, cn_ic_gt, cn_ic_le, cn_ifnullN, cn_ifnullR, cn_ifnonnullN, cn_ifnonnullR, cn_tswS, cn_tsw0, cn_tsw1, cn_lswS, cn_lsw0, cn_lsw1, cn_alen, cn_iaload, cn_laload, cn_rr1, cn_rr0, cn_aaload, cn_iastore, cn_lastore, cn_aastore, cn_getfield, cn_gf0, cn_gf1, cn_gf2, cn_gf3, cn_putfield, cn_pf0f, cn_pf1f, cn_pf2f, cn_pf3f, cn_pf0t, cn_pf1t, cn_pf2t, cn_pf3t, cn_new, cn_nw1, cn_newi, cn_newl, cn_anew, cn_an1, cn_inv_v, cn_inv_s, cn_inv_p, cn_ca1, cn_cb1, cn_pop0, cn_pops, cn_rk0, cn_rk1, cn_kcn, cn_kcs, cn_ireturn, cn_lreturn, cn_areturn, cn_return, cn_re0, cn_re1, cn_re2, cn_re3, cn_re4, cn_re5, cn_wp0, cn_wps, cn_m0, cn_m1, cn_e0, cn_en, cn_ei, cn_er, cn_eu, cn_el, cn_nl0, cn_nls, cn_nb0, cn_nb1, cn_nb2, cn_nb3, cn_bd0, cn_bds, cn_cwi, cn_cwr, cn_cwl, cn_cwn, cn_wi2, cn_wl1, cn_wl3, cn_wr1, cn_wr2, cn_wi_eq, cn_wl_eq, cb_0, cb_n0, cb_b, cm_okb0, cm_okb1, Classical.not_not, true_and, and_true, Nat.reduceAdd, Nat.reduceSub, Nat.reduceLT, Nat.reduceLeDiff, Int.reduceToNat, Int.reduceNatCast', Nat.zero_le, Nat.reduceEqDiff, false_or, or_false, or_true, true_or, Int.reduceNeg, reduceCtorEq, false_implies, implies_true, forall_const, true_implies, not_true_eq_false, not_false_eq_true, Nat.le_refl, ne_eq, if_true, if_false, ite_true, ite_false, List.cons_append, List.nil_append]
    refine ⟨0, hb, by rw [w3_toInt (by omega) (by omega)]; omega, ?_⟩
    rw [mRow_cong (g := fun j => gt [] j.toNat) (fun j q1 q2 => by omega)]
    cases hL : fl M a with
    | none =>
      have hz := flm_none hL
      have h4 := hg.2.2.2.1
      have hsz : (mRow M b 0 (fun j => gt [] j.toNat)).1 a 1 = w3 (-1) := by
        rw [mRow_ne (Or.inl hj.1) (Or.inl (hg.ne hb)), sz_w]; congr 1; omega
      rw [hL] at hS
      have h1 := hg.1
      simp only [jX5_settleFile, kX5_settleFile_0, fl_5_24, cn_iconst, cn_lconst0, cn_lconst1, cn_null, cn_iload, cn_aload, cn_lload, cn_lo1, cn_loa1, cn_loa2, cn_lol1, cn_get0, cn_gets, cn_put0, cn_puts, cn_istore, cn_astore, cn_astoreN, cn_lstore, cn_iinc, cn_in1, cn_iadd, cn_isub, cn_imul, cn_iand, cn_ior, cn_ixor, cn_ishl, cn_ishr, cn_iushr, cn_idiv, cn_irem, cn_ladd, cn_lmul, cn_ldiv, cn_lrem, cn_i2l, cn_l2i, cn_i2b, cn_lcmp, cn_dupi, cn_dupr, cn_dup2, cn_popi, cn_popr, cn_goto, cn_if_eq, cn_if_ne, cn_if_lt, cn_if_ge, cn_if_gt, cn_if_le, cn_ic_eq, cn_ic_ne, cn_ic_lt, cn_ic_ge, cn_ic_gt, cn_ic_le, cn_ifnullN, cn_ifnullR, cn_ifnonnullN, cn_ifnonnullR, cn_tswS, cn_tsw0, cn_tsw1, cn_lswS, cn_lsw0, cn_lsw1, cn_alen, cn_iaload, cn_laload, cn_rr1, cn_rr0, cn_aaload, cn_iastore, cn_lastore, cn_aastore, cn_getfield, cn_gf0, cn_gf1, cn_gf2, cn_gf3, cn_putfield, cn_pf0f, cn_pf1f, cn_pf2f, cn_pf3f, cn_pf0t, cn_pf1t, cn_pf2t, cn_pf3t, cn_new, cn_nw1, cn_newi, cn_newl, cn_anew, cn_an1, cn_inv_v, cn_inv_s, cn_inv_p, cn_ca1, cn_cb1, cn_pop0, cn_pops, cn_rk0, cn_rk1, cn_kcn, cn_kcs, cn_ireturn, cn_lreturn, cn_areturn, cn_return, cn_re0, cn_re1, cn_re2, cn_re3, cn_re4, cn_re5, cn_wp0, cn_wps, cn_m0, cn_m1, cn_e0, cn_en, cn_ei, cn_er, cn_eu, cn_el, cn_nl0, cn_nls, cn_nb0, cn_nb1, cn_nb2, cn_nb3, cn_bd0, cn_bds, cn_cwi, cn_cwr, cn_cwl, cn_cwn, cn_wi2, cn_wl1, cn_wl3, cn_wr1, cn_wr2, cn_wi_eq, cn_wl_eq, cb_0, cb_n0, cb_b, cm_okb0, cm_okb1, Classical.not_not, true_and, and_true, Nat.reduceAdd, Nat.reduceSub, Nat.reduceLT, Nat.reduceLeDiff, Int.reduceToNat, Int.reduceNatCast', Nat.zero_le, Nat.reduceEqDiff, false_or, or_false, or_true, true_or, Int.reduceNeg, reduceCtorEq, false_implies, implies_true, forall_const, true_implies, not_true_eq_false, not_false_eq_true, Nat.le_refl, ne_eq, if_true, if_false, ite_true, ite_false, List.cons_append, List.nil_append]
      refine cm_go hX5_settleFile 200 oX5_settleFile (eX5_settleFile d hd) lX5_settleFile_14 ?_
      simp only [jX5_settleFile, kX5_settleFile_0, fl_5_24, h1, hsz, cn_iconst, cn_lconst0, cn_lconst1, cn_null, cn_iload, cn_aload, cn_lload, cn_lo1, cn_loa1, cn_loa2, cn_lol1, cn_get0, cn_gets, cn_put0, cn_puts, cn_istore, cn_astore, cn_astoreN, cn_lstore, cn_iinc, cn_in1, cn_iadd, cn_isub, cn_imul, cn_iand, cn_ior, cn_ixor, cn_ishl, cn_ishr, cn_iushr, cn_idiv, cn_irem, cn_ladd, cn_lmul, cn_ldiv, cn_lrem, cn_i2l, cn_l2i, cn_i2b, cn_lcmp, cn_dupi, cn_dupr, cn_dup2, cn_popi, cn_popr, cn_goto, cn_if_eq, cn_if_ne, cn_if_lt, cn_if_ge, cn_if_gt, cn_if_le, cn_ic_eq, cn_ic_ne, cn_ic_lt, cn_ic_ge, cn_ic_gt, cn_ic_le, cn_ifnullN, cn_ifnullR, cn_ifnonnullN, cn_ifnonnullR, cn_tswS, cn_tsw0, cn_tsw1, cn_lswS, cn_lsw0, cn_lsw1, cn_alen, cn_iaload, cn_laload, cn_rr1, cn_rr0, cn_aaload, cn_iastore, cn_lastore, cn_aastore, cn_getfield, cn_gf0, cn_gf1, cn_gf2, cn_gf3, cn_putfield, cn_pf0f, cn_pf1f, cn_pf2f, cn_pf3f, cn_pf0t, cn_pf1t, cn_pf2t, cn_pf3t, cn_new, cn_nw1, cn_newi, cn_newl, cn_anew, cn_an1, cn_inv_v, cn_inv_s, cn_inv_p, cn_ca1, cn_cb1, cn_pop0, cn_pops, cn_rk0, cn_rk1, cn_kcn, cn_kcs, cn_ireturn, cn_lreturn, cn_areturn, cn_return, cn_re0, cn_re1, cn_re2, cn_re3, cn_re4, cn_re5, cn_wp0, cn_wps, cn_m0, cn_m1, cn_e0, cn_en, cn_ei, cn_er, cn_eu, cn_el, cn_nl0, cn_nls, cn_nb0, cn_nb1, cn_nb2, cn_nb3, cn_bd0, cn_bds, cn_cwi, cn_cwr, cn_cwl, cn_cwn, cn_wi2, cn_wl1, cn_wl3, cn_wr1, cn_wr2, cn_wi_eq, cn_wl_eq, cb_0, cb_n0, cb_b, cm_okb0, cm_okb1, Classical.not_not, true_and, and_true, Nat.reduceAdd, Nat.reduceSub, Nat.reduceLT, Nat.reduceLeDiff, Int.reduceToNat, Int.reduceNatCast', Nat.zero_le, Nat.reduceEqDiff, false_or, or_false, or_true, true_or, Int.reduceNeg, reduceCtorEq, false_implies, implies_true, forall_const, true_implies, not_true_eq_false, not_false_eq_true, Nat.le_refl, ne_eq, if_true, if_false, ite_true, ite_false, List.cons_append, List.nil_append]
      simp (disch := omega) only [w3_le, w3_lt, w3_eq, w3_ix, w3_add, w3_sub, w3_mul, w3_toInt, w3_z]
      exact ⟨fun _ => hS, fun h => by omega⟩
    | some L =>
      rw [hL] at hS
      simp only [jX5_settleFile, kX5_settleFile_0, fl_5_24, cn_iconst, cn_lconst0, cn_lconst1, cn_null, cn_iload, cn_aload, cn_lload, cn_lo1, cn_loa1, cn_loa2, cn_lol1, cn_get0, cn_gets, cn_put0, cn_puts, cn_istore, cn_astore, cn_astoreN, cn_lstore, cn_iinc, cn_in1, cn_iadd, cn_isub, cn_imul, cn_iand, cn_ior, cn_ixor, cn_ishl, cn_ishr, cn_iushr, cn_idiv, cn_irem, cn_ladd, cn_lmul, cn_ldiv, cn_lrem, cn_i2l, cn_l2i, cn_i2b, cn_lcmp, cn_dupi, cn_dupr, cn_dup2, cn_popi, cn_popr, cn_goto, cn_if_eq, cn_if_ne, cn_if_lt, cn_if_ge, cn_if_gt, cn_if_le, cn_ic_eq, cn_ic_ne, cn_ic_lt, cn_ic_ge, cn_ic_gt, cn_ic_le, cn_ifnullN, cn_ifnullR, cn_ifnonnullN, cn_ifnonnullR, cn_tswS, cn_tsw0, cn_tsw1, cn_lswS, cn_lsw0, cn_lsw1, cn_alen, cn_iaload, cn_laload, cn_rr1, cn_rr0, cn_aaload, cn_iastore, cn_lastore, cn_aastore, cn_getfield, cn_gf0, cn_gf1, cn_gf2, cn_gf3, cn_putfield, cn_pf0f, cn_pf1f, cn_pf2f, cn_pf3f, cn_pf0t, cn_pf1t, cn_pf2t, cn_pf3t, cn_new, cn_nw1, cn_newi, cn_newl, cn_anew, cn_an1, cn_inv_v, cn_inv_s, cn_inv_p, cn_ca1, cn_cb1, cn_pop0, cn_pops, cn_rk0, cn_rk1, cn_kcn, cn_kcs, cn_ireturn, cn_lreturn, cn_areturn, cn_return, cn_re0, cn_re1, cn_re2, cn_re3, cn_re4, cn_re5, cn_wp0, cn_wps, cn_m0, cn_m1, cn_e0, cn_en, cn_ei, cn_er, cn_eu, cn_el, cn_nl0, cn_nls, cn_nb0, cn_nb1, cn_nb2, cn_nb3, cn_bd0, cn_bds, cn_cwi, cn_cwr, cn_cwl, cn_cwn, cn_wi2, cn_wl1, cn_wl3, cn_wr1, cn_wr2, cn_wi_eq, cn_wl_eq, cb_0, cb_n0, cb_b, cm_okb0, cm_okb1, Classical.not_not, true_and, and_true, Nat.reduceAdd, Nat.reduceSub, Nat.reduceLT, Nat.reduceLeDiff, Int.reduceToNat, Int.reduceNatCast', Nat.zero_le, Nat.reduceEqDiff, false_or, or_false, or_true, true_or, Int.reduceNeg, reduceCtorEq, false_implies, implies_true, forall_const, true_implies, not_true_eq_false, not_false_eq_true, Nat.le_refl, ne_eq, if_true, if_false, ite_true, ite_false, List.cons_append, List.nil_append]
      exact lX5_settleFile d hd s0 s2 hg hb hj hc hL hS 0 none (Nat.zero_le _)

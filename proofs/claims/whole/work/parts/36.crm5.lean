def setF (x : Tv) (f : Nat) (F : Fl) : Tv := (x.1, if f = 0 then F else x.2.1, if f = 1 then F else x.2.2.1, if f = 2 then F else x.2.2.2)
/-- a file of a tree is made another one -/
theorem tr_setf {T : cm_T} {M M1 : cm_M} {t f : Nat} (hg : TrG T M t) (hf : f < 3) (h : Fr M M1 (t + 2 + 2 * f) 2) (hz : szb M1 (t + 2 + 2 * f)) : TrG T M1 t ∧ trv M1 t = setF (trv M t) f (fl M1 (t + 2 + 2 * f)) := by
  obtain ⟨⟨g1, p1⟩, ⟨g2, p2⟩, ⟨g3, p3⟩⟩ := hg.sg
  obtain ⟨k1, s1, s2, s3⟩ := hg
  have e0 : M1.1 t 1 = M.1 t 1 := by rw [h.1 t (by omega)]
  unfold szb at *
  match f, hf with
  | 0, _ =>
    refine ⟨⟨by rw [h.2]; exact k1, hz, ?_, ?_⟩, ?_⟩
    · unfold szb; rw [h.szq (by omega)]; exact s2
    · unfold szb; rw [h.szq (by omega)]; exact s3
    · exact Prod.ext e0 (Prod.ext (@rfl _ (fl M1 (t + 2))) (Prod.ext (h.flq (by omega) (by rw [p2]; omega)) (h.flq (by omega) (by rw [p3]; omega))))
  | 1, _ =>
    refine ⟨⟨by rw [h.2]; exact k1, ?_, hz, ?_⟩, ?_⟩
    · unfold szb; rw [h.szq (by omega)]; exact s1
    · unfold szb; rw [h.szq (by omega)]; exact s3
    · exact Prod.ext e0 (Prod.ext (h.flq (by omega) (by rw [p1]; omega)) (Prod.ext (@rfl _ (fl M1 (t + 4))) (h.flq (by omega) (by rw [p3]; omega))))
  | 2, _ =>
    refine ⟨⟨by rw [h.2]; exact k1, ?_, ?_, hz⟩, ?_⟩
    · unfold szb; rw [h.szq (by omega)]; exact s1
    · unfold szb; rw [h.szq (by omega)]; exact s2
    · exact Prod.ext e0 (Prod.ext (h.flq (by omega) (by rw [p1]; omega)) (Prod.ext (h.flq (by omega) (by rw [p2]; omega)) (@rfl _ (fl M1 (t + 6)))))
theorem setF_g {x : Tv} {f : Nat} {F : Fl} (h : TvG x) (hF : Bal (cnt F)) : TvG (setF x f F) := by
  refine ⟨⟨?_, ?_, ?_⟩, h.2⟩
  · show Bal (cnt (if f = 0 then F else x.2.1))
    split
    · exact hF
    · exact h.1.1
  · show Bal (cnt (if f = 1 then F else x.2.2.1))
    split
    · exact hF
    · exact h.1.2.1
  · show Bal (cnt (if f = 2 then F else x.2.2.2))
    split
    · exact hF
    · exact h.1.2.2
/-- a change: the child that was added is given its file -/
theorem cs_child {T : cm_T} {M M1 M2 : cm_M} {x L f : Nat} {r : Tv × Int × Int} (hC : CMG T M x L) (F1 : Fr M M1 (x + 3) 134) (G1 : BkG T M1 (x + 3)) (b1 : bkv M1 (x + 3) = bAdd (bkv M (x + 3)) r) (h16 : (bkv M (x + 3)).1 < 16) (hf : f < 3) (h : Fr M1 M2 (x + 3 + 6 + 8 * (bkv M (x + 3)).1 + 2 + 2 * f) 2) (hz : szb M2 (x + 3 + 6 + 8 * (bkv M (x + 3)).1 + 2 + 2 * f)) (hb : Bal (cnt (fl M2 (x + 3 + 6 + 8 * (bkv M (x + 3)).1 + 2 + 2 * f)))) :
    CMG T M2 x L ∧ cst M2 x = stB (cst M x) (bAdd (bkv M (x + 3)) (setF r.1 f (fl M2 (x + 3 + 6 + 8 * (bkv M (x + 3)).1 + 2 + 2 * f)), r.2)) ∧ FrC M M2 x L := by
  have n1 : (bkv M (x + 3)).1 < (bkv M1 (x + 3)).1 := by rw [b1]; show (bkv M (x + 3)).1 < (bkv M (x + 3)).1 + 1; omega
  have tn1 := bkv_lt n1
  have er : (bkv M1 (x + 3)).2 (bkv M (x + 3)).1 = r := by rw [b1]; exact if_pos rfl
  have et : trv M1 (x + 3 + 6 + 8 * (bkv M (x + 3)).1) = r.1 := by rw [← er, tn1]
  have gt1 := G1.2.2.1 _ h16
  obtain ⟨t1, t2⟩ := tr_setf gt1 hf h hz
  rw [et] at t2
  have hg : TvG r.1 := by
    have := (G1.2.2.2.1.2.1 _ n1).1
    rw [er] at this
    exact this
  obtain ⟨G2, b2⟩ := bk_set G1 n1 (h.wide (by omega) (by omega)) t1 (by rw [t2]; exact setF_g hg hb)
  have F2 : Fr M M2 (x + 3) 134 := F1.trans (h.wide (by omega) (by omega))
  obtain ⟨c1, c2, c3⟩ := cs_book hC F2 G2
  refine ⟨c1, ?_, c3⟩
  rw [c2, b2, b1, t2, bSet_add]
def lo306 (a x : Nat) : Prop := a + 2 ≤ x + 306
def SX6_writtenOut : cm_CT := fun as T M Φ => match as with
  | [.ref x, .ref a, .int r] => ∃ (L ρ : Nat), CMG T M x L ∧ r = w3 ρ ∧ ρ < 6 ∧ Sg T M a ∧ szb M a ∧ lo306 a x ∧ (fl M a = none → Φ (some (.int (w3 (-9)))) T M) ∧ (fl M a ≠ none → ∀ M1, FrC M M1 x L → CMG T M1 x L → cst M1 x = stR (cst M x) ρ (fl M a) → Φ (some (.int (w3 ((cnt (fl M a)).length : Int)))) T M1)
  | _ => False
def JX6_writtenOut : cm_J := (6, false, 1, [(103, 1, 5, 0, 0, SX4_isThere), (212, 2, 5, 0, 0, SX4_become)], [], [])
theorem jX6_writtenOut : JX6_writtenOut.1 = 6 ∧ JX6_writtenOut.2.1 = false ∧ JX6_writtenOut.2.2.1 = 1 ∧ cm_gv JX6_writtenOut 103 = some (1, 5, 0, 0, SX4_isThere) ∧ cm_gv JX6_writtenOut 212 = some (2, 5, 0, 0, SX4_become) := ⟨rfl, rfl, rfl, rfl, rfl⟩
theorem eX6_writtenOut (d : Nat) (hd : 2 ≤ d) : cm_Cok d JX6_writtenOut := ⟨(List.forall_mem_cons.mpr ⟨q6_103 (mX4_isThere (d - 1) (by omega)) (by omega), (List.forall_mem_cons.mpr ⟨q6_212 (mX4_become (d - 1) (by omega)) (by omega), (fun q h => by cases h)⟩)⟩), (fun q h => by cases h), (fun q h => by cases h)⟩
set_option maxHeartbeats 4000000 in
theorem mX6_writtenOut (d : Nat) (hd : 2 ≤ d) : cm_Met d yX6_writtenOut cX6_writtenOut 3 (some .int) 0 0 SX6_writtenOut := by
  refine cm_meets (J := JX6_writtenOut) (by decide) rfl (fun h => by cases h) trivial ?_
  intro as T M Φ hS
  match as, hS with
  | [.ref x, .ref a, .int r], ⟨L, ρ, hC, hr1, hρ, sga, sza, hlo, hS1, hS2⟩ =>
    refine ⟨Nat.le_of_ble_eq_true rfl, ?_⟩
    subst hr1
    obtain ⟨k0, ⟨r0, r1, r2, r3, r4, r5, r6, r7, r8, r13⟩, ⟨k1, k2, k137, k305⟩, ⟨l1, l2, l137, l305⟩, hr, ht⟩ := id hC.2.1
    have hB := hC.2.2.1
    obtain ⟨⟨K0, ⟨R1, R2, R3, R4, R5⟩, ⟨KK1, K2, K3, K4, K5⟩, ⟨L1, L2, L3, L4, L5⟩, RV⟩, HZ, HT, HW, HA⟩ := id hB
    obtain ⟨hn, hn16⟩ := hB.n
    have hz0 : M.1 (x + 3) 0 = w3 ((bkv M (x + 3)).1 : Int) := i3_of hn
    have hlo1 : lo306 a x := hlo
    unfold lo306 at hlo1
    have a1 := sga.1
    have hρ1 : (ρ : Int) < 6 := by omega
    have er : (w3 (ρ : Int)).toInt = (ρ : Int) := w3_toInt (by omega) (by omega)
    obtain ⟨q1, q2, q3, q4, q5⟩ := hr ρ hρ
    obtain ⟨sg, pp, cp⟩ := hC.row hρ
    have ix : cm_ix (w3 (ρ : Int)) 6 := by rw [w3_ix (by omega) (by omega)]; exact ⟨by omega, by omega⟩
    refine cm_go hX6_writtenOut 200 oX6_writtenOut (eX6_writtenOut d hd) lX6_writtenOut_0 ?_
    simp only [jX6_writtenOut, kX6_writtenOut_0, fl_6_11, fl_6_107, SX4_isThere, SX4_become, fl_th, a1, er, ix, q1, q2, k0, r0, r1, r2, r3, r4, r5, r6, r7, r8, r13, k1, k2, k137, k305, l1, l2, l137, l305, K0, R1, R2, R3, R4, R5, KK1, K2, K3, K4, K5, L1, L2, L3, L4, L5, cn_iconst, cn_lconst0, cn_lconst1, cn_null, cn_iload, cn_aload, cn_lload, cn_lo1, cn_loa1, cn_loa2, cn_lol1, cn_get0, cn_gets, cn_put0, cn_puts, cn_istore, cn_astore, cn_astoreN, cn_lstore, cn_iinc, cn_in1, cn_iadd, cn_isub, cn_imul, cn_iand, cn_ior, cn_ixor, cn_ishl, cn_ishr, cn_iushr, cn_idiv, cn_irem, cn_ladd, cn_lmul, cn_ldiv, cn_lrem, cn_i2l, cn_l2i, cn_i2b, cn_lcmp, cn_dupi, cn_dupr, cn_dup2, cn_popi, cn_popr, cn_goto, cn_if_eq, cn_if_ne, cn_if_lt, cn_if_ge, cn_if_gt, cn_if_le, cn_ic_eq, cn_ic_ne, cn_ic_lt, cn_ic_ge, cn_ic_gt, cn_ic_le, cn_ifnullN, cn_ifnullR, cn_ifnonnullN, cn_ifnonnullR, cn_tswS, cn_tsw0, cn_tsw1, cn_lswS, cn_lsw0, cn_lsw1, cn_alen, cn_iaload, cn_laload, cn_rr1, cn_rr0, cn_aaload, cn_iastore, cn_lastore, cn_aastore, cn_getfield, cn_gf0, cn_gf1, cn_gf2, cn_gf3, cn_putfield, cn_pf0f, cn_pf1f, cn_pf2f, cn_pf3f, cn_pf0t, cn_pf1t, cn_pf2t, cn_pf3t, cn_new, cn_nw1, cn_newi, cn_newl, cn_anew, cn_an1, cn_inv_v, cn_inv_s, cn_inv_p, cn_ca1, cn_cb1, cn_pop0, cn_pops, cn_rk0, cn_rk1, cn_kcn, cn_kcs, cn_ireturn, cn_lreturn, cn_areturn, cn_return, cn_re0, cn_re1, cn_re2, cn_re3, cn_re4, cn_re5, cn_wp0, cn_wps, cn_m0, cn_m1, cn_e0, cn_en, cn_ei, cn_er, cn_eu, cn_el, cn_nl0, cn_nls, cn_nb0, cn_nb1, cn_nb2, cn_nb3, cn_bd0, cn_bds, cn_cwi, cn_cwr, cn_cwl, cn_cwn, cn_wi2, cn_wl1, cn_wl3, cn_wr1, cn_wr2, cn_wi_eq, cn_wl_eq, cb_0, cb_n0, cb_b, cm_okb0, cm_okb1, Classical.not_not, true_and, and_true, Nat.reduceAdd, Nat.reduceSub, Nat.reduceLT, Nat.reduceLeDiff, Int.reduceToNat, Int.reduceNatCast', Nat.zero_le, Nat.reduceEqDiff, false_or, or_false, or_true, true_or, Int.reduceNeg, reduceCtorEq, false_implies, implies_true, forall_const, true_implies, not_true_eq_false, not_false_eq_true, Nat.le_refl, ne_eq, if_true, if_false, ite_true, ite_false, List.cons_append, List.nil_append]
    refine ⟨fun q => ⟨sg, sga, by rw [pp, cp]; exact sza.2, ?_⟩, fun q => hS1 q⟩
    have F : Fr M (mRow M (x + 306 + 2 * ρ) (sz M a) (M.1 (pl M a))) (x + 306 + 2 * ρ) 2 := Fr.row (by omega) (by omega) (by omega) (by omega)
    have z1 := sza.1
    have z2 := sza.2
    have hf : fl (mRow M (x + 306 + 2 * ρ) (sz M a) (M.1 (pl M a))) (x + 306 + 2 * ρ) = fl M a := by
      rw [fl_row (by omega) (by omega) (by omega)]; rfl
    obtain ⟨c1, c2, c3⟩ := cs_row hC hρ F ⟨by rw [mRow_sz (by omega) (by omega)]; exact z1, by rw [mRow_sz (by omega) (by omega)]; exact z2⟩
    rw [hf] at c2
    have := hS2 q _ c3 c1 c2
    have es : (mRow M (x + 306 + 2 * ρ) (sz M a) (M.1 (pl M a))).1 a 1 = w3 ((cnt (fl M a)).length : Int) := by
      rw [F.1 a (by omega)]
      cases e : fl M a with
      | none => exact absurd e q
      | some K =>
        have := (Sg_len sga e).1
        exact i3_of this
    rw [es]
    exact this
noncomputable def fFil (s : St) (v f r : Int) : Int32 × St := if ((0 ≤ v ∧ v < (s.2.2.1.1 : Int)) ∧ 0 ≤ f ∧ f < 3) ∧ 0 ≤ r ∧ r < 6 then (if pk (s.2.2.1.2 v.toNat).1 f.toNat = none then (w3 (-9), s) else (w3 ((cnt (pk (s.2.2.1.2 v.toNat).1 f.toNat)).length : Int), stR s r.toNat (pk (s.2.2.1.2 v.toNat).1 f.toNat))) else (w3 (-1), s)
noncomputable def fDrp (s : St) (v f : Int) : Int32 × St := if (0 ≤ v ∧ v < (s.2.2.1.1 : Int)) ∧ 0 ≤ f ∧ f < 3 then (if pk (s.2.2.1.2 v.toNat).1 f.toNat = none then (w3 (-4), s) else if 16 ≤ s.2.2.1.1 then (w3 (-2), s) else (w3 (s.2.2.1.1 : Int), stB s (bAdd s.2.2.1 (setF (clr (s.2.2.1.2 v.toNat).1 (w3 f)) f.toNat none, v, -9)))) else (w3 (-1), s)
def SX6_file : cm_CT := fun as T M Φ => match as with
  | [.ref x, .int v, .int f, .int r] => ∃ L, CMG T M x L ∧ cPo T M x L Φ (fFil (cst M x) v.toInt f.toInt r.toInt)
  | _ => False
def JX6_file : cm_J := (6, false, 1, [(170, 3, 7, 0, 0, SX6_hasFile), (176, 3, 7, 0, 0, SX6_writtenOut)], [(77, 1, 0, 0, 0, SX6_isRow)], [])
theorem jX6_file : JX6_file.1 = 6 ∧ JX6_file.2.1 = false ∧ JX6_file.2.2.1 = 1 ∧ cm_gv JX6_file 170 = some (3, 7, 0, 0, SX6_hasFile) ∧ cm_gv JX6_file 176 = some (3, 7, 0, 0, SX6_writtenOut) ∧ cm_gs JX6_file 77 = some (1, 0, 0, 0, SX6_isRow) := ⟨rfl, rfl, rfl, rfl, rfl, rfl⟩
theorem eX6_file (d : Nat) (hd : 3 ≤ d) : cm_Cok d JX6_file := ⟨(List.forall_mem_cons.mpr ⟨q6_170 (mX6_hasFile (d - 1) (by omega)) (by omega), (List.forall_mem_cons.mpr ⟨q6_176 (mX6_writtenOut (d - 1) (by omega)) (by omega), (fun q h => by cases h)⟩)⟩), (List.forall_mem_cons.mpr ⟨q6_77 (mX6_isRow (d - 1) (by omega)) (by omega), (fun q h => by cases h)⟩), (fun q h => by cases h)⟩
set_option maxHeartbeats 4000000 in
theorem mX6_file (d : Nat) (hd : 3 ≤ d) : cm_Met d yX6_file cX6_file 4 (some .int) 0 0 SX6_file := by
  refine cm_meets (J := JX6_file) (by decide) rfl (fun h => by cases h) trivial ?_
  intro as T M Φ hS
  match as, hS with
  | [.ref x, .int v, .int f, .int r], ⟨L, hC, hS⟩ =>
    refine ⟨Nat.le_of_ble_eq_true rfl, ?_⟩
    obtain ⟨k0, ⟨r0, r1, r2, r3, r4, r5, r6, r7, r8, r13⟩, ⟨k1, k2, k137, k305⟩, ⟨l1, l2, l137, l305⟩, hr, ht⟩ := id hC.2.1
    have hB := hC.2.2.1
    obtain ⟨⟨K0, ⟨R1, R2, R3, R4, R5⟩, ⟨KK1, K2, K3, K4, K5⟩, ⟨L1, L2, L3, L4, L5⟩, RV⟩, HZ, HT, HW, HA⟩ := id hB
    obtain ⟨hn, hn16⟩ := hB.n
    have hz0 : M.1 (x + 3) 0 = w3 ((bkv M (x + 3)).1 : Int) := i3_of hn
    by_cases hv0 : (0 ≤ v.toInt ∧ v.toInt < ((bkv M (x + 3)).1 : Int)) ∧ 0 ≤ f.toInt ∧ f.toInt < 3
    · obtain ⟨⟨v1, v2⟩, f1, f2⟩ := id hv0
      obtain ⟨ν, ev, hν⟩ : ∃ ν : Nat, v.toInt = (ν : Int) ∧ ν < (bkv M (x + 3)).1 := ⟨v.toInt.toNat, by omega, by omega⟩
      obtain ⟨φ, ef, hφ⟩ : ∃ φ : Nat, f.toInt = (φ : Int) ∧ φ < 3 := ⟨f.toInt.toNat, by omega, by omega⟩
      have tG := HT ν (by omega)
      obtain ⟨g1, g2, g3, g4, g5, g6⟩ := tr_f tG hφ
      have rv := RV ν (by omega)
      have ixv : cm_ix v 16 := ⟨v1, by show v.toInt < ((16 : Nat) : Int); omega⟩
      have ixf : cm_ix f 3 := ⟨f1, by show f.toInt < ((3 : Nat) : Int); omega⟩
      have u1 := tG.1.1
      have u2 := tG.1.2.1
      have u3 := tG.1.2.2.1
      have u4 := tG.1.2.2.2.1
      have env : ((ν : Int)).toNat = ν := by omega
      have enf : ((φ : Int)).toNat = φ := by omega
      have hpk : pk ((bkv M (x + 3)).2 ν).1 φ = fl M (x + 3 + 6 + 8 * ν + 2 + 2 * φ) := by rw [bkv_lt hν]; exact pk_tr hφ
      have tt : ((0 ≤ (ν : Int) ∧ (ν : Int) < ((bkv M (x + 3)).1 : Int)) ∧ 0 ≤ (φ : Int) ∧ (φ : Int) < 3) = True := eq_true ⟨⟨by omega, by omega⟩, by omega, by omega⟩
      by_cases hr0 : 0 ≤ r.toInt ∧ r.toInt < 6
      · have tr := eq_true hr0
        unfold fFil at hS
        rw [cst_b, if_pos ⟨hv0, hr0⟩, ev, ef, env, enf, hpk] at hS
        refine cm_go hX6_file 200 oX6_file (eX6_file d hd) lX6_file_0 ?_
        simp only [jX6_file, kX6_file_0, fl_6_21, fl_6_154, fl_6_173, SX6_hasFile, SX6_isRow, tr, hn, ev, ef, ixv, ixf, rv, u1, u2, u3, u4, g1, g2, tt, k0, r0, r1, r2, r3, r4, r5, r6, r7, r8, r13, k1, k2, k137, k305, l1, l2, l137, l305, K0, R1, R2, R3, R4, R5, KK1, K2, K3, K4, K5, L1, L2, L3, L4, L5, cn_iconst, cn_lconst0, cn_lconst1, cn_null, cn_iload, cn_aload, cn_lload, cn_lo1, cn_loa1, cn_loa2, cn_lol1, cn_get0, cn_gets, cn_put0, cn_puts, cn_istore, cn_astore, cn_astoreN, cn_lstore, cn_iinc, cn_in1, cn_iadd, cn_isub, cn_imul, cn_iand, cn_ior, cn_ixor, cn_ishl, cn_ishr, cn_iushr, cn_idiv, cn_irem, cn_ladd, cn_lmul, cn_ldiv, cn_lrem, cn_i2l, cn_l2i, cn_i2b, cn_lcmp, cn_dupi, cn_dupr, cn_dup2, cn_popi, cn_popr, cn_goto, cn_if_eq, cn_if_ne, cn_if_lt, cn_if_ge, cn_if_gt, cn_if_le, cn_ic_eq, cn_ic_ne, cn_ic_lt, cn_ic_ge, cn_ic_gt, cn_ic_le, cn_ifnullN, cn_ifnullR, cn_ifnonnullN, cn_ifnonnullR, cn_tswS, cn_tsw0, cn_tsw1, cn_lswS, cn_lsw0, cn_lsw1, cn_alen, cn_iaload, cn_laload, cn_rr1, cn_rr0, cn_aaload, cn_iastore, cn_lastore, cn_aastore, cn_getfield, cn_gf0, cn_gf1, cn_gf2, cn_gf3, cn_putfield, cn_pf0f, cn_pf1f, cn_pf2f, cn_pf3f, cn_pf0t, cn_pf1t, cn_pf2t, cn_pf3t, cn_new, cn_nw1, cn_newi, cn_newl, cn_anew, cn_an1, cn_inv_v, cn_inv_s, cn_inv_p, cn_ca1, cn_cb1, cn_pop0, cn_pops, cn_rk0, cn_rk1, cn_kcn, cn_kcs, cn_ireturn, cn_lreturn, cn_areturn, cn_return, cn_re0, cn_re1, cn_re2, cn_re3, cn_re4, cn_re5, cn_wp0, cn_wps, cn_m0, cn_m1, cn_e0, cn_en, cn_ei, cn_er, cn_eu, cn_el, cn_nl0, cn_nls, cn_nb0, cn_nb1, cn_nb2, cn_nb3, cn_bd0, cn_bds, cn_cwi, cn_cwr, cn_cwl, cn_cwn, cn_wi2, cn_wl1, cn_wl3, cn_wr1, cn_wr2, cn_wi_eq, cn_wl_eq, cb_0, cb_n0, cb_b, cm_okb0, cm_okb1, Classical.not_not, true_and, and_true, Nat.reduceAdd, Nat.reduceSub, Nat.reduceLT, Nat.reduceLeDiff, Int.reduceToNat, Int.reduceNatCast', Nat.zero_le, Nat.reduceEqDiff, false_or, or_false, or_true, true_or, Int.reduceNeg, reduceCtorEq, false_implies, implies_true, forall_const, true_implies, not_true_eq_false, not_false_eq_true, Nat.le_refl, ne_eq, if_true, if_false, ite_true, ite_false, List.cons_append, List.nil_append]
        refine ⟨L, r.toInt.toNat, hC, by rw [Int.toNat_of_nonneg hr0.1]; exact (w3_self r).symm, by omega, g3, g5, by unfold lo306; omega, fun q => ?_, fun q M1 f1 c1 s1 => ?_⟩
        · rw [if_pos q] at hS
          simp only [jX6_file, kX6_file_0, fl_6_21, fl_6_154, fl_6_173, k0, r0, r1, r2, r3, r4, r5, r6, r7, r8, r13, k1, k2, k137, k305, l1, l2, l137, l305, K0, R1, R2, R3, R4, R5, KK1, K2, K3, K4, K5, L1, L2, L3, L4, L5, cn_iconst, cn_lconst0, cn_lconst1, cn_null, cn_iload, cn_aload, cn_lload, cn_lo1, cn_loa1, cn_loa2, cn_lol1, cn_get0, cn_gets, cn_put0, cn_puts, cn_istore, cn_astore, cn_astoreN, cn_lstore, cn_iinc, cn_in1, cn_iadd, cn_isub, cn_imul, cn_iand, cn_ior, cn_ixor, cn_ishl, cn_ishr, cn_iushr, cn_idiv, cn_irem, cn_ladd, cn_lmul, cn_ldiv, cn_lrem, cn_i2l, cn_l2i, cn_i2b, cn_lcmp, cn_dupi, cn_dupr, cn_dup2, cn_popi, cn_popr, cn_goto, cn_if_eq, cn_if_ne, cn_if_lt, cn_if_ge, cn_if_gt, cn_if_le, cn_ic_eq, cn_ic_ne, cn_ic_lt, cn_ic_ge, cn_ic_gt, cn_ic_le, cn_ifnullN, cn_ifnullR, cn_ifnonnullN, cn_ifnonnullR, cn_tswS, cn_tsw0, cn_tsw1, cn_lswS, cn_lsw0, cn_lsw1, cn_alen, cn_iaload, cn_laload, cn_rr1, cn_rr0, cn_aaload, cn_iastore, cn_lastore, cn_aastore, cn_getfield, cn_gf0, cn_gf1, cn_gf2, cn_gf3, cn_putfield, cn_pf0f, cn_pf1f, cn_pf2f, cn_pf3f, cn_pf0t, cn_pf1t, cn_pf2t, cn_pf3t, cn_new, cn_nw1, cn_newi, cn_newl, cn_anew, cn_an1, cn_inv_v, cn_inv_s, cn_inv_p, cn_ca1, cn_cb1, cn_pop0, cn_pops, cn_rk0, cn_rk1, cn_kcn, cn_kcs, cn_ireturn, cn_lreturn, cn_areturn, cn_return, cn_re0, cn_re1, cn_re2, cn_re3, cn_re4, cn_re5, cn_wp0, cn_wps, cn_m0, cn_m1, cn_e0, cn_en, cn_ei, cn_er, cn_eu, cn_el, cn_nl0, cn_nls, cn_nb0, cn_nb1, cn_nb2, cn_nb3, cn_bd0, cn_bds, cn_cwi, cn_cwr, cn_cwl, cn_cwn, cn_wi2, cn_wl1, cn_wl3, cn_wr1, cn_wr2, cn_wi_eq, cn_wl_eq, cb_0, cb_n0, cb_b, cm_okb0, cm_okb1, Classical.not_not, true_and, and_true, Nat.reduceAdd, Nat.reduceSub, Nat.reduceLT, Nat.reduceLeDiff, Int.reduceToNat, Int.reduceNatCast', Nat.zero_le, Nat.reduceEqDiff, false_or, or_false, or_true, true_or, Int.reduceNeg, reduceCtorEq, false_implies, implies_true, forall_const, true_implies, not_true_eq_false, not_false_eq_true, Nat.le_refl, ne_eq, if_true, if_false, ite_true, ite_false, List.cons_append, List.nil_append]
          exact hS.k hC
        · rw [if_neg q] at hS
          simp only [jX6_file, kX6_file_0, fl_6_21, fl_6_154, fl_6_173, k0, r0, r1, r2, r3, r4, r5, r6, r7, r8, r13, k1, k2, k137, k305, l1, l2, l137, l305, K0, R1, R2, R3, R4, R5, KK1, K2, K3, K4, K5, L1, L2, L3, L4, L5, cn_iconst, cn_lconst0, cn_lconst1, cn_null, cn_iload, cn_aload, cn_lload, cn_lo1, cn_loa1, cn_loa2, cn_lol1, cn_get0, cn_gets, cn_put0, cn_puts, cn_istore, cn_astore, cn_astoreN, cn_lstore, cn_iinc, cn_in1, cn_iadd, cn_isub, cn_imul, cn_iand, cn_ior, cn_ixor, cn_ishl, cn_ishr, cn_iushr, cn_idiv, cn_irem, cn_ladd, cn_lmul, cn_ldiv, cn_lrem, cn_i2l, cn_l2i, cn_i2b, cn_lcmp, cn_dupi, cn_dupr, cn_dup2, cn_popi, cn_popr, cn_goto, cn_if_eq, cn_if_ne, cn_if_lt, cn_if_ge, cn_if_gt, cn_if_le, cn_ic_eq, cn_ic_ne, cn_ic_lt, cn_ic_ge, cn_ic_gt, cn_ic_le, cn_ifnullN, cn_ifnullR, cn_ifnonnullN, cn_ifnonnullR, cn_tswS, cn_tsw0, cn_tsw1, cn_lswS, cn_lsw0, cn_lsw1, cn_alen, cn_iaload, cn_laload, cn_rr1, cn_rr0, cn_aaload, cn_iastore, cn_lastore, cn_aastore, cn_getfield, cn_gf0, cn_gf1, cn_gf2, cn_gf3, cn_putfield, cn_pf0f, cn_pf1f, cn_pf2f, cn_pf3f, cn_pf0t, cn_pf1t, cn_pf2t, cn_pf3t, cn_new, cn_nw1, cn_newi, cn_newl, cn_anew, cn_an1, cn_inv_v, cn_inv_s, cn_inv_p, cn_ca1, cn_cb1, cn_pop0, cn_pops, cn_rk0, cn_rk1, cn_kcn, cn_kcs, cn_ireturn, cn_lreturn, cn_areturn, cn_return, cn_re0, cn_re1, cn_re2, cn_re3, cn_re4, cn_re5, cn_wp0, cn_wps, cn_m0, cn_m1, cn_e0, cn_en, cn_ei, cn_er, cn_eu, cn_el, cn_nl0, cn_nls, cn_nb0, cn_nb1, cn_nb2, cn_nb3, cn_bd0, cn_bds, cn_cwi, cn_cwr, cn_cwl, cn_cwn, cn_wi2, cn_wl1, cn_wl3, cn_wr1, cn_wr2, cn_wi_eq, cn_wl_eq, cb_0, cb_n0, cb_b, cm_okb0, cm_okb1, Classical.not_not, true_and, and_true, Nat.reduceAdd, Nat.reduceSub, Nat.reduceLT, Nat.reduceLeDiff, Int.reduceToNat, Int.reduceNatCast', Nat.zero_le, Nat.reduceEqDiff, false_or, or_false, or_true, true_or, Int.reduceNeg, reduceCtorEq, false_implies, implies_true, forall_const, true_implies, not_true_eq_false, not_false_eq_true, Nat.le_refl, ne_eq, if_true, if_false, ite_true, ite_false, List.cons_append, List.nil_append]
          exact hS M1 f1 c1 s1
      · have ff := eq_false hr0
        unfold fFil at hS
        rw [cst_b, if_neg (fun w => hr0 w.2)] at hS
        refine cm_go hX6_file 200 oX6_file (eX6_file d hd) lX6_file_0 ?_
        simp only [jX6_file, kX6_file_0, fl_6_21, fl_6_154, fl_6_173, SX6_hasFile, SX6_isRow, ff, hn, ev, ef, ixv, ixf, rv, u1, u2, u3, u4, g1, g2, tt, k0, r0, r1, r2, r3, r4, r5, r6, r7, r8, r13, k1, k2, k137, k305, l1, l2, l137, l305, K0, R1, R2, R3, R4, R5, KK1, K2, K3, K4, K5, L1, L2, L3, L4, L5, cn_iconst, cn_lconst0, cn_lconst1, cn_null, cn_iload, cn_aload, cn_lload, cn_lo1, cn_loa1, cn_loa2, cn_lol1, cn_get0, cn_gets, cn_put0, cn_puts, cn_istore, cn_astore, cn_astoreN, cn_lstore, cn_iinc, cn_in1, cn_iadd, cn_isub, cn_imul, cn_iand, cn_ior, cn_ixor, cn_ishl, cn_ishr, cn_iushr, cn_idiv, cn_irem, cn_ladd, cn_lmul, cn_ldiv, cn_lrem, cn_i2l, cn_l2i, cn_i2b, cn_lcmp, cn_dupi, cn_dupr, cn_dup2, cn_popi, cn_popr, cn_goto, cn_if_eq, cn_if_ne, cn_if_lt, cn_if_ge, cn_if_gt, cn_if_le, cn_ic_eq, cn_ic_ne, cn_ic_lt, cn_ic_ge, cn_ic_gt, cn_ic_le, cn_ifnullN, cn_ifnullR, cn_ifnonnullN, cn_ifnonnullR, cn_tswS, cn_tsw0, cn_tsw1, cn_lswS, cn_lsw0, cn_lsw1, cn_alen, cn_iaload, cn_laload, cn_rr1, cn_rr0, cn_aaload, cn_iastore, cn_lastore, cn_aastore, cn_getfield, cn_gf0, cn_gf1, cn_gf2, cn_gf3, cn_putfield, cn_pf0f, cn_pf1f, cn_pf2f, cn_pf3f, cn_pf0t, cn_pf1t, cn_pf2t, cn_pf3t, cn_new, cn_nw1, cn_newi, cn_newl, cn_anew, cn_an1, cn_inv_v, cn_inv_s, cn_inv_p, cn_ca1, cn_cb1, cn_pop0, cn_pops, cn_rk0, cn_rk1, cn_kcn, cn_kcs, cn_ireturn, cn_lreturn, cn_areturn, cn_return, cn_re0, cn_re1, cn_re2, cn_re3, cn_re4, cn_re5, cn_wp0, cn_wps, cn_m0, cn_m1, cn_e0, cn_en, cn_ei, cn_er, cn_eu, cn_el, cn_nl0, cn_nls, cn_nb0, cn_nb1, cn_nb2, cn_nb3, cn_bd0, cn_bds, cn_cwi, cn_cwr, cn_cwl, cn_cwn, cn_wi2, cn_wl1, cn_wl3, cn_wr1, cn_wr2, cn_wi_eq, cn_wl_eq, cb_0, cb_n0, cb_b, cm_okb0, cm_okb1, Classical.not_not, true_and, and_true, Nat.reduceAdd, Nat.reduceSub, Nat.reduceLT, Nat.reduceLeDiff, Int.reduceToNat, Int.reduceNatCast', Nat.zero_le, Nat.reduceEqDiff, false_or, or_false, or_true, true_or, Int.reduceNeg, reduceCtorEq, false_implies, implies_true, forall_const, true_implies, not_true_eq_false, not_false_eq_true, Nat.le_refl, ne_eq, if_true, if_false, ite_true, ite_false, List.cons_append, List.nil_append]
        exact hS.k hC
    · have ff := eq_false hv0
      unfold fFil at hS
      rw [cst_b, if_neg (fun w => hv0 w.1)] at hS
      refine cm_go hX6_file 200 oX6_file (eX6_file d hd) lX6_file_0 ?_
      simp only [jX6_file, kX6_file_0, fl_6_21, fl_6_154, fl_6_173, SX6_hasFile, hn, ff, k0, r0, r1, r2, r3, r4, r5, r6, r7, r8, r13, k1, k2, k137, k305, l1, l2, l137, l305, K0, R1, R2, R3, R4, R5, KK1, K2, K3, K4, K5, L1, L2, L3, L4, L5, cn_iconst, cn_lconst0, cn_lconst1, cn_null, cn_iload, cn_aload, cn_lload, cn_lo1, cn_loa1, cn_loa2, cn_lol1, cn_get0, cn_gets, cn_put0, cn_puts, cn_istore, cn_astore, cn_astoreN, cn_lstore, cn_iinc, cn_in1, cn_iadd, cn_isub, cn_imul, cn_iand, cn_ior, cn_ixor, cn_ishl, cn_ishr, cn_iushr, cn_idiv, cn_irem, cn_ladd, cn_lmul, cn_ldiv, cn_lrem, cn_i2l, cn_l2i, cn_i2b, cn_lcmp, cn_dupi, cn_dupr, cn_dup2, cn_popi, cn_popr, cn_goto, cn_if_eq, cn_if_ne, cn_if_lt, cn_if_ge, cn_if_gt, cn_if_le, cn_ic_eq, cn_ic_ne, cn_ic_lt, cn_ic_ge, cn_ic_gt, cn_ic_le, cn_ifnullN, cn_ifnullR, cn_ifnonnullN, cn_ifnonnullR, cn_tswS, cn_tsw0, cn_tsw1, cn_lswS, cn_lsw0, cn_lsw1, cn_alen, cn_iaload, cn_laload, cn_rr1, cn_rr0, cn_aaload, cn_iastore, cn_lastore, cn_aastore, cn_getfield, cn_gf0, cn_gf1, cn_gf2, cn_gf3, cn_putfield, cn_pf0f, cn_pf1f, cn_pf2f, cn_pf3f, cn_pf0t, cn_pf1t, cn_pf2t, cn_pf3t, cn_new, cn_nw1, cn_newi, cn_newl, cn_anew, cn_an1, cn_inv_v, cn_inv_s, cn_inv_p, cn_ca1, cn_cb1, cn_pop0, cn_pops, cn_rk0, cn_rk1, cn_kcn, cn_kcs, cn_ireturn, cn_lreturn, cn_areturn, cn_return, cn_re0, cn_re1, cn_re2, cn_re3, cn_re4, cn_re5, cn_wp0, cn_wps, cn_m0, cn_m1, cn_e0, cn_en, cn_ei, cn_er, cn_eu, cn_el, cn_nl0, cn_nls, cn_nb0, cn_nb1, cn_nb2, cn_nb3, cn_bd0, cn_bds, cn_cwi, cn_cwr, cn_cwl, cn_cwn, cn_wi2, cn_wl1, cn_wl3, cn_wr1, cn_wr2, cn_wi_eq, cn_wl_eq, cb_0, cb_n0, cb_b, cm_okb0, cm_okb1, Classical.not_not, true_and, and_true, Nat.reduceAdd, Nat.reduceSub, Nat.reduceLT, Nat.reduceLeDiff, Int.reduceToNat, Int.reduceNatCast', Nat.zero_le, Nat.reduceEqDiff, false_or, or_false, or_true, true_or, Int.reduceNeg, reduceCtorEq, false_implies, implies_true, forall_const, true_implies, not_true_eq_false, not_false_eq_true, Nat.le_refl, ne_eq, if_true, if_false, ite_true, ite_false, List.cons_append, List.nil_append]
      exact hS.k hC
def SX6_drop : cm_CT := fun as T M Φ => match as with
  | [.ref x, .int v, .int f] => ∃ L, CMG T M x L ∧ cPo T M x L Φ (fDrp (cst M x) v.toInt f.toInt)
  | _ => False
def JX6_drop : cm_J := (6, false, 1, [(170, 3, 7, 0, 0, SX6_hasFile), (103, 1, 5, 0, 0, SX4_isThere), (206, 1, 1, 0, 0, SX0_isFull), (209, 3, 1, 0, 0, SX0_addChild)], [], [])
theorem jX6_drop : JX6_drop.1 = 6 ∧ JX6_drop.2.1 = false ∧ JX6_drop.2.2.1 = 1 ∧ cm_gv JX6_drop 170 = some (3, 7, 0, 0, SX6_hasFile) ∧ cm_gv JX6_drop 103 = some (1, 5, 0, 0, SX4_isThere) ∧ cm_gv JX6_drop 206 = some (1, 1, 0, 0, SX0_isFull) ∧ cm_gv JX6_drop 209 = some (3, 1, 0, 0, SX0_addChild) := ⟨rfl, rfl, rfl, rfl, rfl, rfl, rfl⟩
theorem eX6_drop (d : Nat) (hd : 5 ≤ d) : cm_Cok d JX6_drop := ⟨(List.forall_mem_cons.mpr ⟨q6_170 (mX6_hasFile (d - 1) (by omega)) (by omega), (List.forall_mem_cons.mpr ⟨q6_103 (mX4_isThere (d - 1) (by omega)) (by omega), (List.forall_mem_cons.mpr ⟨q6_206 (mX0_isFull (d - 1) (by omega)) (by omega), (List.forall_mem_cons.mpr ⟨q6_209 (mX0_addChild (d - 1) (by omega)) (by omega), (fun q h => by cases h)⟩)⟩)⟩)⟩), (fun q h => by cases h), (fun q h => by cases h)⟩
set_option maxHeartbeats 4000000 in
theorem mX6_drop (d : Nat) (hd : 5 ≤ d) : cm_Met d yX6_drop cX6_drop 4 (some .int) 0 0 SX6_drop := by
  refine cm_meets (J := JX6_drop) (by decide) rfl (fun h => by cases h) trivial ?_
  intro as T M Φ hS
  match as, hS with
  | [.ref x, .int v, .int f], ⟨L, hC, hS⟩ =>
    refine ⟨Nat.le_of_ble_eq_true rfl, ?_⟩
    obtain ⟨k0, ⟨r0, r1, r2, r3, r4, r5, r6, r7, r8, r13⟩, ⟨k1, k2, k137, k305⟩, ⟨l1, l2, l137, l305⟩, hr, ht⟩ := id hC.2.1
    have hB := hC.2.2.1
    obtain ⟨⟨K0, ⟨R1, R2, R3, R4, R5⟩, ⟨KK1, K2, K3, K4, K5⟩, ⟨L1, L2, L3, L4, L5⟩, RV⟩, HZ, HT, HW, HA⟩ := id hB
    obtain ⟨hn, hn16⟩ := hB.n
    have hz0 : M.1 (x + 3) 0 = w3 ((bkv M (x + 3)).1 : Int) := i3_of hn
    by_cases hv0 : (0 ≤ v.toInt ∧ v.toInt < ((bkv M (x + 3)).1 : Int)) ∧ 0 ≤ f.toInt ∧ f.toInt < 3
    · obtain ⟨⟨v1, v2⟩, f1, f2⟩ := id hv0
      obtain ⟨ν, ev, hν⟩ : ∃ ν : Nat, v.toInt = (ν : Int) ∧ ν < (bkv M (x + 3)).1 := ⟨v.toInt.toNat, by omega, by omega⟩
      obtain ⟨φ, ef, hφ⟩ : ∃ φ : Nat, f.toInt = (φ : Int) ∧ φ < 3 := ⟨f.toInt.toNat, by omega, by omega⟩
      have tG := HT ν (by omega)
      obtain ⟨g1, g2, g3, g4, g5, g6⟩ := tr_f tG hφ
      have rv := RV ν (by omega)
      have ixv : cm_ix v 16 := ⟨v1, by show v.toInt < ((16 : Nat) : Int); omega⟩
      have ixf : cm_ix f 3 := ⟨f1, by show f.toInt < ((3 : Nat) : Int); omega⟩
      have u1 := tG.1.1
      have u2 := tG.1.2.1
      have u3 := tG.1.2.2.1
      have u4 := tG.1.2.2.2.1
      have env : ((ν : Int)).toNat = ν := by omega
      have enf : ((φ : Int)).toNat = φ := by omega
      have hpk : pk ((bkv M (x + 3)).2 ν).1 φ = fl M (x + 3 + 6 + 8 * ν + 2 + 2 * φ) := by rw [bkv_lt hν]; exact pk_tr hφ
      have tt : ((0 ≤ (ν : Int) ∧ (ν : Int) < ((bkv M (x + 3)).1 : Int)) ∧ 0 ≤ (φ : Int) ∧ (φ : Int) < 3) = True := eq_true ⟨⟨by omega, by omega⟩, by omega, by omega⟩
      unfold fDrp at hS
      rw [cst_b, if_pos hv0, ev, ef, env, enf, hpk] at hS
      refine cm_go hX6_drop 200 oX6_drop (eX6_drop d hd) lX6_drop_0 ?_
      simp only [jX6_drop, kX6_drop_0, fl_6_21, fl_6_154, fl_6_173, fl_6_107, SX6_hasFile, SX4_isThere, SX0_isFull, fl_th, hn, ev, ef, ixv, ixf, rv, u1, u2, u3, u4, g1, g2, tt, k0, r0, r1, r2, r3, r4, r5, r6, r7, r8, r13, k1, k2, k137, k305, l1, l2, l137, l305, K0, R1, R2, R3, R4, R5, KK1, K2, K3, K4, K5, L1, L2, L3, L4, L5, cn_iconst, cn_lconst0, cn_lconst1, cn_null, cn_iload, cn_aload, cn_lload, cn_lo1, cn_loa1, cn_loa2, cn_lol1, cn_get0, cn_gets, cn_put0, cn_puts, cn_istore, cn_astore, cn_astoreN, cn_lstore, cn_iinc, cn_in1, cn_iadd, cn_isub, cn_imul, cn_iand, cn_ior, cn_ixor, cn_ishl, cn_ishr, cn_iushr, cn_idiv, cn_irem, cn_ladd, cn_lmul, cn_ldiv, cn_lrem, cn_i2l, cn_l2i, cn_i2b, cn_lcmp, cn_dupi, cn_dupr, cn_dup2, cn_popi, cn_popr, cn_goto, cn_if_eq, cn_if_ne, cn_if_lt, cn_if_ge, cn_if_gt, cn_if_le, cn_ic_eq, cn_ic_ne, cn_ic_lt, cn_ic_ge, cn_ic_gt, cn_ic_le, cn_ifnullN, cn_ifnullR, cn_ifnonnullN, cn_ifnonnullR, cn_tswS, cn_tsw0, cn_tsw1, cn_lswS, cn_lsw0, cn_lsw1, cn_alen, cn_iaload, cn_laload, cn_rr1, cn_rr0, cn_aaload, cn_iastore, cn_lastore, cn_aastore, cn_getfield, cn_gf0, cn_gf1, cn_gf2, cn_gf3, cn_putfield, cn_pf0f, cn_pf1f, cn_pf2f, cn_pf3f, cn_pf0t, cn_pf1t, cn_pf2t, cn_pf3t, cn_new, cn_nw1, cn_newi, cn_newl, cn_anew, cn_an1, cn_inv_v, cn_inv_s, cn_inv_p, cn_ca1, cn_cb1, cn_pop0, cn_pops, cn_rk0, cn_rk1, cn_kcn, cn_kcs, cn_ireturn, cn_lreturn, cn_areturn, cn_return, cn_re0, cn_re1, cn_re2, cn_re3, cn_re4, cn_re5, cn_wp0, cn_wps, cn_m0, cn_m1, cn_e0, cn_en, cn_ei, cn_er, cn_eu, cn_el, cn_nl0, cn_nls, cn_nb0, cn_nb1, cn_nb2, cn_nb3, cn_bd0, cn_bds, cn_cwi, cn_cwr, cn_cwl, cn_cwn, cn_wi2, cn_wl1, cn_wl3, cn_wr1, cn_wr2, cn_wi_eq, cn_wl_eq, cb_0, cb_n0, cb_b, cm_okb0, cm_okb1, Classical.not_not, true_and, and_true, Nat.reduceAdd, Nat.reduceSub, Nat.reduceLT, Nat.reduceLeDiff, Int.reduceToNat, Int.reduceNatCast', Nat.zero_le, Nat.reduceEqDiff, false_or, or_false, or_true, true_or, Int.reduceNeg, reduceCtorEq, false_implies, implies_true, forall_const, true_implies, not_true_eq_false, not_false_eq_true, Nat.le_refl, ne_eq, if_true, if_false, ite_true, ite_false, List.cons_append, List.nil_append]
      refine ⟨fun q => ⟨fun q2 => ?_, fun q2 => ?_⟩, fun q => ?_⟩
      · rw [if_neg q, if_neg (by omega)] at hS
        have efw : f = w3 (φ : Int) := by rw [← ef]; exact (w3_self f).symm
        refine ⟨hB, ⟨v1, v2⟩, by omega, fun M1 F1 G1 b1 => ?_⟩
        have e1 := F1.2
        have h16 : (bkv M (x + 3)).1 < 16 := by omega
        have en : (w3 ((bkv M (x + 3)).1 : Int)).toInt = ((bkv M (x + 3)).1 : Int) := w3_toInt (by omega) (by omega)
        have ixn : cm_ix (w3 ((bkv M (x + 3)).1 : Int)) 16 := by rw [w3_ix (by omega) (by omega)]; exact ⟨by omega, by omega⟩
        have rn := RV (bkv M (x + 3)).1 h16
        have tN := HT (bkv M (x + 3)).1 h16
        obtain ⟨y1, y2, y3, y4, y5, y6⟩ := tr_f tN hφ
        have w1 := tN.1.1
        have w2 := tN.1.2.1
        have wz3 := tN.1.2.2.1
        have w4 := tN.1.2.2.2.1
        simp only [jX6_drop, kX6_drop_0, fl_6_21, fl_6_154, fl_6_173, fl_6_107, e1, ef, ixf, en, ixn, rn, w1, w2, wz3, w4, y1, y2, k0, r0, r1, r2, r3, r4, r5, r6, r7, r8, r13, k1, k2, k137, k305, l1, l2, l137, l305, K0, R1, R2, R3, R4, R5, KK1, K2, K3, K4, K5, L1, L2, L3, L4, L5, cn_iconst, cn_lconst0, cn_lconst1, cn_null, cn_iload, cn_aload, cn_lload, cn_lo1, cn_loa1, cn_loa2, cn_lol1, cn_get0, cn_gets, cn_put0, cn_puts, cn_istore, cn_astore, cn_astoreN, cn_lstore, cn_iinc, cn_in1, cn_iadd, cn_isub, cn_imul, cn_iand, cn_ior, cn_ixor, cn_ishl, cn_ishr, cn_iushr, cn_idiv, cn_irem, cn_ladd, cn_lmul, cn_ldiv, cn_lrem, cn_i2l, cn_l2i, cn_i2b, cn_lcmp, cn_dupi, cn_dupr, cn_dup2, cn_popi, cn_popr, cn_goto, cn_if_eq, cn_if_ne, cn_if_lt, cn_if_ge, cn_if_gt, cn_if_le, cn_ic_eq, cn_ic_ne, cn_ic_lt, cn_ic_ge, cn_ic_gt, cn_ic_le, cn_ifnullN, cn_ifnullR, cn_ifnonnullN, cn_ifnonnullR, cn_tswS, cn_tsw0, cn_tsw1, cn_lswS, cn_lsw0, cn_lsw1, cn_alen, cn_iaload, cn_laload, cn_rr1, cn_rr0, cn_aaload, cn_iastore, cn_lastore, cn_aastore, cn_getfield, cn_gf0, cn_gf1, cn_gf2, cn_gf3, cn_putfield, cn_pf0f, cn_pf1f, cn_pf2f, cn_pf3f, cn_pf0t, cn_pf1t, cn_pf2t, cn_pf3t, cn_new, cn_nw1, cn_newi, cn_newl, cn_anew, cn_an1, cn_inv_v, cn_inv_s, cn_inv_p, cn_ca1, cn_cb1, cn_pop0, cn_pops, cn_rk0, cn_rk1, cn_kcn, cn_kcs, cn_ireturn, cn_lreturn, cn_areturn, cn_return, cn_re0, cn_re1, cn_re2, cn_re3, cn_re4, cn_re5, cn_wp0, cn_wps, cn_m0, cn_m1, cn_e0, cn_en, cn_ei, cn_er, cn_eu, cn_el, cn_nl0, cn_nls, cn_nb0, cn_nb1, cn_nb2, cn_nb3, cn_bd0, cn_bds, cn_cwi, cn_cwr, cn_cwl, cn_cwn, cn_wi2, cn_wl1, cn_wl3, cn_wr1, cn_wr2, cn_wi_eq, cn_wl_eq, cb_0, cb_n0, cb_b, cm_okb0, cm_okb1, Classical.not_not, true_and, and_true, Nat.reduceAdd, Nat.reduceSub, Nat.reduceLT, Nat.reduceLeDiff, Int.reduceToNat, Int.reduceNatCast', Nat.zero_le, Nat.reduceEqDiff, false_or, or_false, or_true, true_or, Int.reduceNeg, reduceCtorEq, false_implies, implies_true, forall_const, true_implies, not_true_eq_false, not_false_eq_true, Nat.le_refl, ne_eq, if_true, if_false, ite_true, ite_false, List.cons_append, List.nil_append]
        rw [ev, env] at b1
        have F : Fr M1 (cm_wi M1 (x + 3 + 6 + 8 * (bkv M (x + 3)).1 + 2 + 2 * φ) 1 (w3 (-1))) (x + 3 + 6 + 8 * (bkv M (x + 3)).1 + 2 + 2 * φ) 2 := Fr.wi (by omega) (by omega)
        have hz : sz (cm_wi M1 (x + 3 + 6 + 8 * (bkv M (x + 3)).1 + 2 + 2 * φ) 1 (w3 (-1))) (x + 3 + 6 + 8 * (bkv M (x + 3)).1 + 2 + 2 * φ) = -1 := by unfold sz; rw [cn_wi_eq]; decide
        have hf : fl (cm_wi M1 (x + 3 + 6 + 8 * (bkv M (x + 3)).1 + 2 + 2 * φ) 1 (w3 (-1))) (x + 3 + 6 + 8 * (bkv M (x + 3)).1 + 2 + 2 * φ) = none := flm_mkn (by rw [hz]; decide)
        obtain ⟨c1, c2, c3⟩ := cs_child hC F1 G1 b1 h16 hφ F ⟨by rw [hz]; decide, by rw [hz]; decide⟩ (by rw [hf]; exact Bal_nil)
        rw [hf] at c2
        refine hS _ c3 c1 ?_
        rw [c2, efw]
      · rw [if_neg q, if_pos (by omega)] at hS; exact hS.k hC
      · rw [if_pos q] at hS; exact hS.k hC
    · have ff := eq_false hv0
      unfold fDrp at hS
      rw [cst_b, if_neg hv0] at hS
      refine cm_go hX6_drop 200 oX6_drop (eX6_drop d hd) lX6_drop_0 ?_
      simp only [jX6_drop, kX6_drop_0, fl_6_21, fl_6_154, fl_6_173, fl_6_107, SX6_hasFile, hn, ff, k0, r0, r1, r2, r3, r4, r5, r6, r7, r8, r13, k1, k2, k137, k305, l1, l2, l137, l305, K0, R1, R2, R3, R4, R5, KK1, K2, K3, K4, K5, L1, L2, L3, L4, L5, cn_iconst, cn_lconst0, cn_lconst1, cn_null, cn_iload, cn_aload, cn_lload, cn_lo1, cn_loa1, cn_loa2, cn_lol1, cn_get0, cn_gets, cn_put0, cn_puts, cn_istore, cn_astore, cn_astoreN, cn_lstore, cn_iinc, cn_in1, cn_iadd, cn_isub, cn_imul, cn_iand, cn_ior, cn_ixor, cn_ishl, cn_ishr, cn_iushr, cn_idiv, cn_irem, cn_ladd, cn_lmul, cn_ldiv, cn_lrem, cn_i2l, cn_l2i, cn_i2b, cn_lcmp, cn_dupi, cn_dupr, cn_dup2, cn_popi, cn_popr, cn_goto, cn_if_eq, cn_if_ne, cn_if_lt, cn_if_ge, cn_if_gt, cn_if_le, cn_ic_eq, cn_ic_ne, cn_ic_lt, cn_ic_ge, cn_ic_gt, cn_ic_le, cn_ifnullN, cn_ifnullR, cn_ifnonnullN, cn_ifnonnullR, cn_tswS, cn_tsw0, cn_tsw1, cn_lswS, cn_lsw0, cn_lsw1, cn_alen, cn_iaload, cn_laload, cn_rr1, cn_rr0, cn_aaload, cn_iastore, cn_lastore, cn_aastore, cn_getfield, cn_gf0, cn_gf1, cn_gf2, cn_gf3, cn_putfield, cn_pf0f, cn_pf1f, cn_pf2f, cn_pf3f, cn_pf0t, cn_pf1t, cn_pf2t, cn_pf3t, cn_new, cn_nw1, cn_newi, cn_newl, cn_anew, cn_an1, cn_inv_v, cn_inv_s, cn_inv_p, cn_ca1, cn_cb1, cn_pop0, cn_pops, cn_rk0, cn_rk1, cn_kcn, cn_kcs, cn_ireturn, cn_lreturn, cn_areturn, cn_return, cn_re0, cn_re1, cn_re2, cn_re3, cn_re4, cn_re5, cn_wp0, cn_wps, cn_m0, cn_m1, cn_e0, cn_en, cn_ei, cn_er, cn_eu, cn_el, cn_nl0, cn_nls, cn_nb0, cn_nb1, cn_nb2, cn_nb3, cn_bd0, cn_bds, cn_cwi, cn_cwr, cn_cwl, cn_cwn, cn_wi2, cn_wl1, cn_wl3, cn_wr1, cn_wr2, cn_wi_eq, cn_wl_eq, cb_0, cb_n0, cb_b, cm_okb0, cm_okb1, Classical.not_not, true_and, and_true, Nat.reduceAdd, Nat.reduceSub, Nat.reduceLT, Nat.reduceLeDiff, Int.reduceToNat, Int.reduceNatCast', Nat.zero_le, Nat.reduceEqDiff, false_or, or_false, or_true, true_or, Int.reduceNeg, reduceCtorEq, false_implies, implies_true, forall_const, true_implies, not_true_eq_false, not_false_eq_true, Nat.le_refl, ne_eq, if_true, if_false, ite_true, ite_false, List.cons_append, List.nil_append]
      exact hS.k hC

/-- two books are alike below n -/
def Agr (B C : Bk) (n : Nat) : Prop := (n ≤ B.1 ∧ B.1 ≤ 16) ∧ (n ≤ C.1 ∧ C.1 ≤ 16) ∧ ∀ v, v < n → B.2 v = C.2 v
theorem Agr.an {B C : Bk} {n v : Nat} (h : Agr B C n) (hv : v < n) : anc B v = anc C v := anc_cong v (fun u hu => by rw [h.2.2 u (by omega)])
theorem nrL_s {B : Bk} {x : Int32} {k : Nat} : nrL B x (k + 1) = if x >>> (w3 (k : Int) &&& 31) &&& w3 1 = 0 then nrL B x k else nrL B x k ||| (anc B k &&& (bt k ^^^ w3 (-1))) := rfl
theorem nrL_ag {B C : Bk} {x : Int32} : ∀ k : Nat, (∀ u, u < k → anc B u = anc C u) → nrL B x k = nrL C x k
  | 0, _ => rfl
  | k + 1, h => by rw [nrL_s, nrL_s, nrL_ag k (fun u hu => h u (by omega)), h k (by omega)]
theorem nrL_hi {B : Bk} {x : Int32} {n : Nat} (hx : x.toBitVec.toNat < 2 ^ n) : ∀ j : Nat, n + j ≤ 16 → nrL B x (n + j) = nrL B x n
  | 0, _ => rfl
  | j + 1, h => by
    have e0 : x >>> (w3 ((n + j : Nat) : Int) &&& 31) &&& w3 1 = 0 := by
      rw [hb_bit (by omega), ← BitVec.testBit_toNat]
      exact Nat.testBit_lt_two_pow (Nat.lt_of_lt_of_le hx (Nat.pow_le_pow_right (by decide) (by omega)))
    show nrL B x (n + j + 1) = _
    rw [nrL_s, if_pos e0]
    exact nrL_hi hx j (by omega)
theorem Agr.nr {B C : Bk} {n a b : Nat} (h : Agr B C n) (ha : a < n) (hb : b < n) : nrB B (a : Int) (b : Int) = nrB C (a : Int) (b : Int) := by
  obtain ⟨⟨b1, b2⟩, ⟨c1, c2⟩, -⟩ := id h
  have key : ∀ D : Bk, n ≤ D.1 → D.1 ≤ 16 → nrB D (a : Int) (b : Int) = (anc D a &&& anc D b) &&& (nrL D (anc D a &&& anc D b) n ^^^ w3 (-1)) := by
    intro D h1 h2
    have hx : (anc D a &&& anc D b).toBitVec.toNat < 2 ^ n := by
      rw [Int32.toBitVec_and, BitVec.toNat_and]
      exact Nat.lt_of_le_of_lt Nat.and_le_left (Nat.lt_of_lt_of_le (anc_lt D a (by omega)) (Nat.pow_le_pow_right (by decide) (by omega)))
    have e := nrL_hi (B := D) hx (D.1 - n) (by omega)
    rw [show n + (D.1 - n) = D.1 by omega] at e
    unfold nrB
    rw [if_pos ⟨⟨by omega, by omega⟩, by omega, by omega⟩, Int.toNat_natCast, Int.toNat_natCast, e]
  rw [key B b1 b2, key C c1 c2, h.an ha, h.an hb, nrL_ag n (fun u hu => h.an hu)]
theorem cmL_ag {B C : Bk} {re re' : Int → Int → Option Tv} {nea : Int32} : ∀ (v : Nat), (∀ u : Nat, u < v → bs nea u → (B.2 u).1 = (C.2 u).1) → (∀ u w : Nat, u < w → w < v → bs nea u → bs nea w → re (u : Int) (w : Int) = re' (u : Int) (w : Int)) → cmL B re nea v = cmL C re' nea v
  | 0, _, _ => rfl
  | v + 1, h0, h => by
    have ih := cmL_ag (B := B) (C := C) (re := re) (re' := re') (nea := nea) v (fun u a => h0 u (by omega)) (fun u w a b => h u w a (by omega))
    cases hc : cmL B re nea v with
    | none =>
      have hc' := ih.symm.trans hc
      rw [cmL_n hc 1, cmL_n hc' 1]
    | some cl =>
      obtain ⟨c, lb⟩ := cl
      have hc' := ih.symm.trans hc
      by_cases hb0 : nea >>> (w3 (v : Int) &&& 31) &&& w3 1 = 0
      · rw [cmL_0 hc hb0, cmL_0 hc' hb0]
      · have hv := h0 v (by omega) hb0
        cases c with
        | none => rw [cmL_1 hc hb0, cmL_1 hc' hb0, hv]
        | some s =>
          obtain ⟨u, a, b, c⟩ := cmL_la v s lb hc
          rw [cmL_2 hc hb0, cmL_2 hc' hb0, b, h u v a (by omega) c hb0, hv]
theorem Agr.cm {B C : Bk} {n : Nat} (hA : Agr B C n) : ∀ (k l h : Nat), l < h → h < n → cmn B k (l : Int) (h : Int) = cmn C k (l : Int) (h : Int)
  | 0, _, _, _, _ => by unfold cmn; rfl
  | k + 1, l, h, hlh, hh => by
    obtain ⟨⟨b1, b2⟩, -, h2⟩ := id hA
    have e : cmL B (cmn B k) (nrB B (l : Int) (h : Int)) 16 = cmL C (cmn C k) (nrB C (l : Int) (h : Int)) 16 := by
      rw [← hA.nr (show l < n by omega) hh]
      refine cmL_ag 16 (fun u a c => ?_) (fun u w a b c d => ?_)
      · have := (nrB_ln b2 hlh (show h < B.1 by omega) c a).1
        rw [h2 u (by omega)]
      · have := (nrB_ln b2 hlh (show h < B.1 by omega) d b).1
        exact Agr.cm hA k u w a (by omega)
    conv => lhs; unfold cmn
    conv => rhs; unfold cmn
    rw [e]
theorem knd_f {B : Bk} {v : Nat} (h : ¬ (0 ≤ (B.2 v).2.1 ∧ (B.2 v).2.1 < (B.1 : Int))) : knd B v = w3 1 := if_pos h
theorem knd_s {B : Bk} {v : Nat} (h : 0 ≤ (B.2 v).2.1 ∧ (B.2 v).2.1 < (B.1 : Int)) (h2 : ¬ (0 ≤ (B.2 v).2.2 ∧ (B.2 v).2.2 < (B.1 : Int))) : knd B v = w3 2 := (if_neg (not_not_intro h)).trans (if_pos h2)
theorem knd_k {B : Bk} {v : Nat} (h : 0 ≤ (B.2 v).2.1 ∧ (B.2 v).2.1 < (B.1 : Int)) (h2 : 0 ≤ (B.2 v).2.2 ∧ (B.2 v).2.2 < (B.1 : Int)) : knd B v = kndI (nrB B (B.2 v).2.1 (B.2 v).2.2) := (if_neg (not_not_intro h)).trans (if_neg (not_not_intro h2))
theorem Agr.kn {B C : Bk} {n v : Nat} (h : Agr B C n) (hW : WB B) (hv : v < n) : knd B v = knd C v := by
  obtain ⟨⟨b1, b2⟩, ⟨c1, c2⟩, h2⟩ := id h
  have hp := (hW.2.1 v (by omega)).2
  have e := h2 v hv
  obtain ⟨p1, p2⟩ := hp.rg
  rcases p1 with q | q
  · rw [knd_f (B := B) (by omega), knd_f (B := C) (by rw [← e]; omega)]
  · rcases p2 with w | w
    · rw [knd_s (B := B) (by omega) (by omega), knd_s (B := C) (by rw [← e]; omega) (by rw [← e]; omega)]
    · rw [knd_k (B := B) (by omega) (by omega), knd_k (B := C) (by rw [← e]; omega) (by rw [← e]; omega), ← e]
      obtain ⟨a, ea⟩ : ∃ a : Nat, (B.2 v).2.1 = (a : Int) := ⟨(B.2 v).2.1.toNat, by omega⟩
      obtain ⟨b, eb⟩ : ∃ b : Nat, (B.2 v).2.2 = (b : Int) := ⟨(B.2 v).2.2.toNat, by omega⟩
      rw [ea] at q ⊢
      rw [eb] at w ⊢
      rw [h.nr (show a < n by omega) (show b < n by omega)]
theorem WB_add {B : Bk} {r : Tv × Int × Int} (hW : WB B) (h : B.1 < 16) (hx : TvG r.1) (hp : WP B.1 r.2.1 r.2.2) : WB (bAdd B r) := by
  refine ⟨by show B.1 + 1 ≤ 16; omega, fun v hv => ?_, fun v hv => ?_⟩
  · have hv : v < B.1 + 1 := hv
    show TvG (if v = B.1 then r else B.2 v).1 ∧ WP v (if v = B.1 then r else B.2 v).2.1 (if v = B.1 then r else B.2 v).2.2
    by_cases e : v = B.1
    · rw [if_pos e, e]; exact ⟨hx, hp⟩
    · rw [if_neg e]; exact hW.2.1 v (by omega)
  · have hv : B.1 + 1 ≤ v := hv
    show (if v = B.1 then r else B.2 v) = bkr0
    rw [if_neg (by omega)]
    exact hW.2.2 v (by omega)
theorem ag_add {B : Bk} {r : Tv × Int × Int} (h : B.1 < 16) : Agr B (bAdd B r) B.1 := by
  refine ⟨⟨Nat.le_refl _, by omega⟩, ⟨by show B.1 ≤ B.1 + 1; omega, by show B.1 + 1 ≤ 16; omega⟩, fun v hv => ?_⟩
  show B.2 v = if v = B.1 then r else B.2 v
  rw [if_neg (by omega)]
theorem WB_cut {B : Bk} {n : Nat} (hW : WB B) (h : n ≤ B.1) : WB (bCut B n) := by
  have h16 := hW.1
  refine ⟨by show n ≤ 16; omega, fun v hv => ?_, fun v hv => ?_⟩
  · have hv : v < n := hv
    show TvG (if v < n then B.2 v else bkr0).1 ∧ WP v (if v < n then B.2 v else bkr0).2.1 (if v < n then B.2 v else bkr0).2.2
    rw [if_pos hv]; exact hW.2.1 v (by omega)
  · have hv : n ≤ v := hv
    show (if v < n then B.2 v else bkr0) = bkr0
    rw [if_neg (by omega)]
theorem ag_cut {B : Bk} {n : Nat} (h : n ≤ B.1) (h16 : B.1 ≤ 16) : Agr B (bCut B n) n := by
  refine ⟨⟨h, h16⟩, ⟨Nat.le_refl _, by show n ≤ 16; omega⟩, fun v hv => ?_⟩
  show B.2 v = if v < n then B.2 v else bkr0
  rw [if_pos hv]
theorem CAk_ag {f f' g q : Int → Int32} {B C : Bk} {n l h : Nat} (hA : Agr B C n) (hl : l < h) (hh : h < n) (hf : ∀ k : Int, 2032 ≤ k → k < 16792 → f' k = f k) (hc : CAk f g q B l h) : CAk f' g q C l h := by
  obtain ⟨⟨b1, b2⟩, ⟨c1, c2⟩, h2⟩ := id hA
  obtain ⟨p1, p2, -⟩ := prI_rg hl (show h < 16 by omega)
  have ec := hA.cm 16 l h hl hh
  rcases hc with ⟨a1, v, v1, v2, t, v3⟩ | ⟨a1, ⟨t, a2⟩, a3⟩ | ⟨a1, a2⟩
  · exact Or.inl ⟨a1, v, v1, v2, t, by rw [← ec, v3, h2 v (by omega)]⟩
  · refine Or.inr (Or.inl ⟨a1, ⟨t, ?_⟩, fun φ hφ => ?_⟩)
    · rw [← ec, a2, tA_cong (g := f') (b := 2032 + 123 * prI l h) (fun φ hφ => (a3 φ hφ).2) (fun k k1 k2 => (hf _ (by omega) (by omega)).symm)]
    · rw [hf _ (by omega) (by omega)]
      exact a3 φ hφ
  · exact Or.inr (Or.inr ⟨a1, by rw [← ec]; exact a2⟩)
/-- the book and the kept ones are others -/
def bkP (m : Nat) : Nat → Int → Prop := fun q k => scr m q k ∨ (q = m ∧ k = 1) ∨ q = m + 1 ∨ q = m + 2 ∨ q = m + 3 ∨ q = m + 17 ∨ q = m + 18
theorem md_bok {T : cm_T} {M M1 : cm_M} {m : Nat} (hD : MD T M m) (h : Fz (bkP m) M M1) (hB : MDB M1 m) : MD T M1 m ∧ mst M1 m = ((mst M m).1, (mst M m).2.1, mbk M1 m, mKq M1 m, (mst M m).2.2.2.2) ∧ FrM M M1 m := by
  have mk : ∀ k : Int, k ≠ 1 → k ≠ 20 → k ≠ 21 → k ≠ 23 → k ≠ 24 → M1.1 m k = M.1 m k := fun k a b c d e => h.1 m k (fun w => by unfold bkP scr at w; omega)
  have ro : ∀ q : Nat, (m + 4 ≤ q ∧ q < m + 7) ∨ (m + 8 ≤ q ∧ q < m + 10) ∨ (m + 19 ≤ q) → M1.1 q = M.1 q := fun q a => funext fun k => h.1 q k (fun w => by unfold bkP scr at w; omega)
  refine ⟨⟨by rw [h.2]; exact hD.1, hB, fun r hr => ?_, fun t ht => ?_⟩, St_ext (funext fun r => ?_) (funext fun t => ?_) (@rfl _ (mbk M1 m)) (@rfl _ (mKq M1 m)) (mk 4 (by decide) (by decide) (by decide) (by decide) (by decide)) ?_ ?_ (mk 5 (by decide) (by decide) (by decide) (by decide) (by decide)) (funext fun k => ?_), h.m (fun q k w => by unfold bkP scr at w; omega)⟩
  · rw [ro (m + 6) (by omega)]; exact hD.2.2.1 r hr
  · rw [ro (m + 9) (by omega)]; exact hD.2.2.2 t ht
  · show mRw M1 m r = mRw M m r
    unfold mRw
    rw [ro (m + 5) (by omega), ro (m + 6) (by omega)]
  · show mTx M1 m t = mTx M m t
    unfold mTx
    rw [ro (m + 8) (by omega), ro (m + 9) (by omega)]
  · show M1.2.1 m 7 = M.2.1 m 7
    rw [h.2]
  · show M1.2.1 m 8 = M.2.1 m 8
    rw [h.2]
  · show mCt M1 m k = mCt M m k
    unfold mCt
    rw [ro (m + 4) (by omega)]
theorem mKq_k {M M1 : cm_M} {m : Nat} (h17 : M1.1 (m + 17) = M.1 (m + 17)) (h18 : M1.1 (m + 18) = M.1 (m + 18)) : mKq M1 m = mKq M m := by
  refine funext fun k => ?_
  unfold mKq
  rw [h17, h18]
theorem stB_m {M : cm_M} {m : Nat} {B : Bk} : ((mst M m).1, (mst M m).2.1, B, mKq M m, (mst M m).2.2.2.2) = stB (mst M m) B := St_ext (@rfl _ (mst M m).1) (@rfl _ (mst M m).2.1) (@rfl _ B) (@rfl _ (mKq M m)) (@rfl _ (M.1 m 4)) (@rfl _ (M.2.1 m 7)) (@rfl _ (M.2.1 m 8)) (@rfl _ (M.1 m 5)) (@rfl _ (mCt M m))
def adP (m n : Nat) : Nat → Int → Prop := fun q k => scr m q k ∨ (q = m ∧ k = 1) ∨ (q = m + 1 ∧ 127 * (n : Int) ≤ k ∧ k < 127 * (n : Int) + 127)
theorem md_add {T : cm_T} {M M1 : cm_M} {m n : Nat} {r : Tv × Int × Int} (hD : MD T M m) (hn : (mbk M m).1 = n) (h16 : n < 16) (h : Fz (adP m n) M M1) (h1 : M1.1 m 1 = w3 ((n : Int) + 1)) (hk : M1.1 (m + 1) (127 * (n : Int)) = knd (bAdd (mbk M m) r) n) (hr : vA (M1.1 (m + 1)) 0 n = r) (hz : ∀ φ : Nat, φ < 3 → -1 ≤ (M1.1 (m + 1) (127 * (n : Int) + 4 + 41 * (φ : Int))).toInt ∧ (M1.1 (m + 1) (127 * (n : Int) + 4 + 41 * (φ : Int))).toInt ≤ 40) (hx : TvG r.1) (hp : WP n r.2.1 r.2.2) : MD T M1 m ∧ mst M1 m = stB (mst M m) (bAdd (mbk M m) r) ∧ FrM M M1 m := by
  subst hn
  obtain ⟨g0, g1, g2, g3⟩ := hD.2.1
  have W : WB (mbk M m) := g1.1
  have A : Agr (mbk M m) (bAdd (mbk M m) r) (mbk M m).1 := ag_add h16
  have rm : ∀ k : Int, k < 127 * ((mbk M m).1 : Int) → M1.1 (m + 1) k = M.1 (m + 1) k := fun k hk => h.1 _ _ (fun w => by unfold adP scr at w; omega)
  have rc : ∀ k : Int, 2032 ≤ k → k < 16792 → M1.1 (m + 1) k = M.1 (m + 1) k := fun k k1 k2 => h.1 _ _ (fun w => by unfold adP scr at w; omega)
  have ro : ∀ q : Nat, q = m + 2 ∨ q = m + 3 ∨ q = m + 17 ∨ q = m + 18 → M1.1 q = M.1 q := fun q a => funext fun k => h.1 q k (fun w => by unfold adP scr at w; omega)
  have e1 : (M1.1 m 1).toInt = ((mbk M m).1 : Int) + 1 := by rw [h1]; exact w3_toInt (by omega) (by omega)
  have eN : (M1.1 m 1).toInt.toNat = (mbk M m).1 + 1 := by omega
  have er : rb (M1.1 (m + 1)) 0 ((mbk M m).1 + 1) = bAdd (mbk M m) r := by
    refine Prod.ext rfl (funext fun v => ?_)
    show (if v < (mbk M m).1 + 1 then vA (M1.1 (m + 1)) 0 v else bkr0) = if v = (mbk M m).1 then r else (mbk M m).2 v
    by_cases e : v = (mbk M m).1
    · rw [if_pos (by omega), if_pos e, e]; exact hr
    · rw [if_neg e]
      by_cases q : v < (mbk M m).1
      · rw [if_pos (by omega)]
        have e3 : (mbk M m).2 v = vA (M.1 (m + 1)) 0 v := if_pos q
        rw [e3]
        exact (vA_cong (fun φ hφ => (g1.2.1 v q φ hφ).2) (fun k k1 k2 => (rm _ (by omega)).symm)).symm
      · rw [if_neg (by omega)]; exact (W.2.2 v (by omega)).symm
  have eb : mbk M1 m = bAdd (mbk M m) r := by
    show rb (M1.1 (m + 1)) 0 (M1.1 m 1).toInt.toNat = _
    rw [eN]
    exact er
  have hBW : BW (M1.1 (m + 1)) 0 ((mbk M m).1 + 1) := by
    refine ⟨by rw [er]; exact WB_add W h16 hx hp, fun v hv φ hφ => ?_, fun v hv => ?_⟩
    · by_cases e : v = (mbk M m).1
      · rw [e, Int.zero_add]; exact hz φ hφ
      · rw [rm _ (by omega)]; exact g1.2.1 v (show v < (mbk M m).1 by omega) φ hφ
    · rw [er]
      by_cases e : v = (mbk M m).1
      · rw [e, Int.zero_add]; exact hk
      · rw [rm _ (by omega), ← A.kn W (show v < (mbk M m).1 by omega)]; exact g1.2.2 v (show v < (mbk M m).1 by omega)
  have hCA : CA (M1.1 (m + 1)) (M1.1 (m + 3)) (M1.1 (m + 2)) (bAdd (mbk M m) r) := by
    rw [ro (m + 2) (by omega), ro (m + 3) (by omega)]
    intro l hh hl h6
    rcases g3 l hh hl h6 with q | ⟨q, w⟩
    · exact Or.inl q
    · exact Or.inr ⟨by show hh < (mbk M m).1 + 1; omega, CAk_ag A hl q rc w⟩
  have hMB : MDB M1 m := ⟨by omega, by rw [eN]; exact hBW, by rw [ro (m + 17) (by omega), ro (m + 18) (by omega)]; exact g2, by rw [eb]; exact hCA⟩
  obtain ⟨d1, d2, d3⟩ := md_bok hD (h.mono (fun q k w => by rcases w with w | w | w; exact Or.inl w; exact Or.inr (Or.inl w); exact Or.inr (Or.inr (Or.inl w.1)))) hMB
  refine ⟨d1, ?_, d3⟩
  rw [d2, eb, mKq_k (ro (m + 17) (by omega)) (ro (m + 18) (by omega)), stB_m]
theorem md_cut {T : cm_T} {M M1 : cm_M} {m n : Nat} (hD : MD T M m) (hn : n ≤ (mbk M m).1) (h : Fz (fun q k => (q = m ∧ k = 1) ∨ q = m + 2) M M1) (h1 : M1.1 m 1 = w3 (n : Int)) (hf : ∀ l h : Nat, l < h → h < 16 → M1.1 (m + 2) (prI l h) = if n ≤ h then w3 0 else M.1 (m + 2) (prI l h)) : MD T M1 m ∧ mst M1 m = stB (mst M m) (bCut (mbk M m) n) ∧ FrM M M1 m := by
  obtain ⟨g0, g1, g2, g3⟩ := hD.2.1
  have W : WB (mbk M m) := g1.1
  have h16 := W.1
  have A : Agr (mbk M m) (bCut (mbk M m) n) n := ag_cut hn h16
  have ro : ∀ q : Nat, q ≠ m → q ≠ m + 2 → M1.1 q = M.1 q := fun q a b => funext fun k => h.1 q k (fun w => by omega)
  have e1 : (M1.1 m 1).toInt = (n : Int) := by rw [h1]; exact w3_toInt (by omega) (by omega)
  have eN : (M1.1 m 1).toInt.toNat = n := by omega
  have er : rb (M.1 (m + 1)) 0 n = bCut (mbk M m) n := by
    refine Prod.ext rfl (funext fun v => ?_)
    show (if v < n then vA (M.1 (m + 1)) 0 v else bkr0) = if v < n then (mbk M m).2 v else bkr0
    by_cases q : v < n
    · rw [if_pos q, if_pos q]
      exact (if_pos (show v < (mbk M m).1 by omega)).symm
    · rw [if_neg q, if_neg q]
  have eb : mbk M1 m = bCut (mbk M m) n := by
    show rb (M1.1 (m + 1)) 0 (M1.1 m 1).toInt.toNat = _
    rw [eN, ro (m + 1) (by omega) (by omega)]
    exact er
  have hBW : BW (M.1 (m + 1)) 0 n := by
    refine ⟨by rw [er]; exact WB_cut W hn, fun v hv φ hφ => g1.2.1 v (show v < (mbk M m).1 by omega) φ hφ, fun v hv => ?_⟩
    rw [er, ← A.kn W hv]
    exact g1.2.2 v (show v < (mbk M m).1 by omega)
  have hCA : CA (M1.1 (m + 1)) (M1.1 (m + 3)) (M1.1 (m + 2)) (bCut (mbk M m) n) := by
    rw [ro (m + 1) (by omega) (by omega), ro (m + 3) (by omega) (by omega)]
    intro l hh hl h6
    have e := hf l hh hl h6
    by_cases q : n ≤ hh
    · rw [if_pos q] at e; exact Or.inl e
    · rw [if_neg q] at e
      rcases g3 l hh hl h6 with q2 | ⟨q2, w⟩
      · exact Or.inl (e.trans q2)
      · refine Or.inr ⟨by show hh < n; omega, ?_⟩
        have w2 := CAk_ag (f' := M.1 (m + 1)) A hl (by omega) (fun _ _ _ => rfl) w
        unfold CAk at w2 ⊢
        rw [e]
        exact w2
  have hMB : MDB M1 m := ⟨by omega, by rw [eN, ro (m + 1) (by omega) (by omega)]; exact hBW, by rw [ro (m + 17) (by omega) (by omega), ro (m + 18) (by omega) (by omega)]; exact g2, by rw [eb]; exact hCA⟩
  obtain ⟨d1, d2, d3⟩ := md_bok hD (h.mono (fun q k w => by rcases w with w | w; exact Or.inr (Or.inl w); exact Or.inr (Or.inr (Or.inr (Or.inl w))))) hMB
  refine ⟨d1, ?_, d3⟩
  rw [d2, eb, mKq_k (ro (m + 17) (by omega) (by omega)) (ro (m + 18) (by omega) (by omega)), stB_m]

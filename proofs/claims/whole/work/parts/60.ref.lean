theorem i0_le {a : Int} (h1 : -2147483648 ≤ a) (h2 : a < 2147483648) : (w3 a ≤ (0 : Int32)) = (a ≤ 0) := by rw [w3_z, w3_le h1 h2 (by omega) (by omega)]
theorem i0_lt {a : Int} (h1 : -2147483648 ≤ a) (h2 : a < 2147483648) : (w3 a < (0 : Int32)) = (a < 0) := by rw [w3_z, w3_lt h1 h2 (by omega) (by omega)]
theorem i0_ge {a : Int} (h1 : -2147483648 ≤ a) (h2 : a < 2147483648) : ((0 : Int32) ≤ w3 a) = (0 ≤ a) := by rw [w3_z, w3_le (by omega) (by omega) h1 h2]
theorem i0_gt {a : Int} (h1 : -2147483648 ≤ a) (h2 : a < 2147483648) : ((0 : Int32) < w3 a) = (0 < a) := by rw [w3_z, w3_lt (by omega) (by omega) h1 h2]
theorem i0_eq {a : Int} (h1 : -2147483648 ≤ a) (h2 : a < 2147483648) : (w3 a = (0 : Int32)) = (a = 0) := by rw [w3_z, w3_eq h1 h2 (by omega) (by omega)]
/-- the reference's object: its rows lie one behind the other -/
def TMd (T : cm_T) (R : Nat → Int → Option Nat) (m : Nat) : Prop := T.1 m = 8 ∧ (R m 0 = some (m + 1) ∧ R m 2 = some (m + 2) ∧ R m 3 = some (m + 3) ∧ R m 6 = some (m + 4) ∧ R m 9 = some (m + 5) ∧ R m 10 = some (m + 6) ∧ R m 11 = some (m + 7) ∧ R m 12 = some (m + 8) ∧ R m 13 = some (m + 9) ∧ R m 14 = some (m + 10) ∧ R m 15 = some (m + 11) ∧ R m 16 = some (m + 12) ∧ R m 17 = some (m + 13) ∧ R m 18 = some (m + 14) ∧ R m 19 = some (m + 15) ∧ R m 22 = some (m + 16) ∧ R m 25 = some (m + 17) ∧ R m 26 = some (m + 18) ∧ R m 27 = some (m + 19)) ∧ (T.1 (m + 1) = 20 ∧ T.1 (m + 2) = 20 ∧ T.1 (m + 3) = 20 ∧ T.1 (m + 4) = 20 ∧ T.1 (m + 5) = 20 ∧ T.1 (m + 6) = 20 ∧ T.1 (m + 7) = 20 ∧ T.1 (m + 8) = 20 ∧ T.1 (m + 9) = 20 ∧ T.1 (m + 10) = 20 ∧ T.1 (m + 11) = 20 ∧ T.1 (m + 12) = 20 ∧ T.1 (m + 13) = 20 ∧ T.1 (m + 14) = 20 ∧ T.1 (m + 15) = 20 ∧ T.1 (m + 16) = 20 ∧ T.1 (m + 17) = 20 ∧ T.1 (m + 18) = 20 ∧ T.1 (m + 19) = 21) ∧ (T.2.1 (m + 1) = 17038 ∧ T.2.1 (m + 2) = 120 ∧ T.2.1 (m + 3) = 120 ∧ T.2.1 (m + 4) = 6 ∧ T.2.1 (m + 5) = 240 ∧ T.2.1 (m + 6) = 6 ∧ T.2.1 (m + 7) = 40 ∧ T.2.1 (m + 8) = 240 ∧ T.2.1 (m + 9) = 4 ∧ T.2.1 (m + 10) = 252 ∧ T.2.1 (m + 11) = 6 ∧ T.2.1 (m + 12) = 6 ∧ T.2.1 (m + 13) = 1681 ∧ T.2.1 (m + 14) = 41 ∧ T.2.1 (m + 15) = 41 ∧ T.2.1 (m + 16) = 16 ∧ T.2.1 (m + 17) = 6096 ∧ T.2.1 (m + 18) = 3 ∧ T.2.1 (m + 19) = 16)
/-- only what P tells has been written -/
def Fz (P : Nat → Int → Prop) (M M1 : cm_M) : Prop := (∀ q k, ¬ P q k → M1.1 q k = M.1 q k) ∧ M1.2 = M.2
theorem Fz.rf {P : Nat → Int → Prop} {M : cm_M} : Fz P M M := ⟨fun _ _ _ => rfl, rfl⟩
theorem Fz.trans {P : Nat → Int → Prop} {M M1 M2 : cm_M} (h : Fz P M M1) (g : Fz P M1 M2) : Fz P M M2 := ⟨fun q k hq => (g.1 q k hq).trans (h.1 q k hq), g.2.trans h.2⟩
theorem Fz.mono {P Q : Nat → Int → Prop} {M M1 : cm_M} (h : Fz P M M1) (hPQ : ∀ q k, P q k → Q q k) : Fz Q M M1 := ⟨fun q k hq => h.1 q k (fun w => hq (hPQ q k w)), h.2⟩
theorem Fz.wi {P : Nat → Int → Prop} {M : cm_M} {a : Nat} {j : Int} {v : Int32} (h : P a j) : Fz P M (cm_wi M a j v) := ⟨fun q k hq => cn_wi_ne (by
  by_cases e : q = a
  · right; intro e2; subst e e2; exact hq h
  · exact Or.inl e), rfl⟩
/-- a file in a row of numbers: how many, and these behind -/
def fA (f : Int → Int32) (a : Int) : Fl := flm f (a + 1) (f a).toInt
def tA (f : Int → Int32) (a : Int) : Fl × Fl × Fl := (fA f a, fA f (a + 41), fA f (a + 82))
def vA (f : Int → Int32) (o : Int) (v : Nat) : Tv × Int × Int := ((f (o + 127 * (v : Int) + 3), tA f (o + 127 * (v : Int) + 4)), (f (o + 127 * (v : Int) + 1)).toInt, (f (o + 127 * (v : Int) + 2)).toInt)
noncomputable def rb (f : Int → Int32) (o : Int) (n : Nat) : Bk := (n, fun v => if v < n then vA f o v else bkr0)
noncomputable def mRw (M : cm_M) (m r : Nat) : Fl := if r < 6 then flm (M.1 (m + 5)) (40 * (r : Int)) (M.1 (m + 6) (r : Int)).toInt else none
noncomputable def mTx (M : cm_M) (m t : Nat) : Fl := if t < 4 then flm (M.1 (m + 8)) (60 * (t : Int)) (M.1 (m + 9) (t : Int)).toInt else none
noncomputable def mbk (M : cm_M) (m : Nat) : Bk := rb (M.1 (m + 1)) 0 (M.1 m 1).toInt.toNat
noncomputable def mKq (M : cm_M) (m k : Nat) : Bk := if k < 3 then (if (M.1 (m + 18) (k : Int)).toInt < 0 then bkE else rb (M.1 (m + 17)) (2032 * (k : Int)) (M.1 (m + 18) (k : Int)).toInt.toNat) else bkE
noncomputable def mCt (M : cm_M) (m k : Nat) : Int32 := if k < 6 then M.1 (m + 4) (k : Int) else w3 0
noncomputable def mst (M : cm_M) (m : Nat) : St := (mRw M m, mTx M m, mbk M m, mKq M m, M.1 m 4, M.2.1 m 7, M.2.1 m 8, M.1 m 5, mCt M m)
/-- a book in a row of numbers is well -/
def BW (f : Int → Int32) (o : Int) (n : Nat) : Prop := WB (rb f o n) ∧ (∀ v : Nat, v < n → ∀ φ : Nat, φ < 3 → -1 ≤ (f (o + 127 * (v : Int) + 4 + 41 * (φ : Int))).toInt ∧ (f (o + 127 * (v : Int) + 4 + 41 * (φ : Int))).toInt ≤ 40) ∧ ∀ v : Nat, v < n → f (o + 127 * (v : Int)) = knd (rb f o n) v
def prI (l h : Nat) : Int := (h : Int) * ((h : Int) - 1) / 2 + (l : Int)
/-- a common that has been laid is the right one -/
def CAk (f g p : Int → Int32) (B : Bk) (l h : Nat) : Prop := (p (prI l h) = w3 1 ∧ ∃ v : Nat, v < h ∧ g (prI l h) = w3 (v : Int) ∧ ∃ t, cmn B 16 (l : Int) (h : Int) = some (t, (B.2 v).1.2)) ∨ (p (prI l h) = w3 2 ∧ (∃ t, cmn B 16 (l : Int) (h : Int) = some (t, tA f (2032 + 123 * prI l h))) ∧ ∀ φ : Nat, φ < 3 → -1 ≤ (f (2032 + 123 * prI l h + 41 * (φ : Int))).toInt ∧ (f (2032 + 123 * prI l h + 41 * (φ : Int))).toInt ≤ 40) ∨ (p (prI l h) = w3 3 ∧ cmn B 16 (l : Int) (h : Int) = none)
def CA (f g p : Int → Int32) (B : Bk) : Prop := ∀ l h : Nat, l < h → h < 16 → p (prI l h) = w3 0 ∨ (h < B.1 ∧ CAk f g p B l h)
/-- the book, the kept ones, the commons -/
def MDB (M : cm_M) (m : Nat) : Prop := 0 ≤ (M.1 m 1).toInt ∧ BW (M.1 (m + 1)) 0 (M.1 m 1).toInt.toNat ∧ (∀ k : Nat, k < 3 → M.1 (m + 18) (k : Int) = w3 (-1) ∨ (1 ≤ (M.1 (m + 18) (k : Int)).toInt ∧ BW (M.1 (m + 17)) (2032 * (k : Int)) (M.1 (m + 18) (k : Int)).toInt.toNat)) ∧ CA (M.1 (m + 1)) (M.1 (m + 3)) (M.1 (m + 2)) (mbk M m)
def MDR (M : cm_M) (m : Nat) : Prop := (∀ r : Nat, r < 6 → -1 ≤ (M.1 (m + 6) (r : Int)).toInt ∧ (M.1 (m + 6) (r : Int)).toInt ≤ 40) ∧ ∀ t : Nat, t < 4 → -1 ≤ (M.1 (m + 9) (t : Int)).toInt ∧ (M.1 (m + 9) (t : Int)).toInt ≤ 60
def MD (T : cm_T) (M : cm_M) (m : Nat) : Prop := TMd T M.2.2 m ∧ MDB M m ∧ MDR M m
/-- what a call of the reference leaves -/
def FrM (M M1 : cm_M) (m : Nat) : Prop := (∀ q : Nat, q < m ∨ m + 20 ≤ q → M1.1 q = M.1 q ∧ M1.2.1 q = M.2.1 q) ∧ M1.2.2 = M.2.2
theorem FrM.rf {M : cm_M} {m : Nat} : FrM M M m := ⟨fun _ _ => ⟨rfl, rfl⟩, rfl⟩
theorem FrM.trans {M M1 M2 : cm_M} {m : Nat} (h : FrM M M1 m) (g : FrM M1 M2 m) : FrM M M2 m := ⟨fun q hq => ⟨(g.1 q hq).1.trans (h.1 q hq).1, (g.1 q hq).2.trans (h.1 q hq).2⟩, g.2.trans h.2⟩
theorem Fz.m {P : Nat → Int → Prop} {M M1 : cm_M} {m : Nat} (h : Fz P M M1) (hP : ∀ q k, P q k → m ≤ q ∧ q < m + 20) : FrM M M1 m := ⟨fun q hq => ⟨funext fun k => h.1 q k (fun w => by have := hP q k w; omega), by rw [h.2]⟩, by rw [h.2]⟩
def mPo (T : cm_T) (M : cm_M) (m : Nat) (Φ : Option Value → cm_T → cm_M → Prop) (a : Int32 × St) : Prop := ∀ M1, FrM M M1 m → MD T M1 m → mst M1 m = a.2 → Φ (some (.int a.1)) T M1
theorem mPo.k {T : cm_T} {M : cm_M} {m : Nat} {Φ : Option Value → cm_T → cm_M → Prop} {v : Int32} (h : mPo T M m Φ (v, mst M m)) (hC : MD T M m) : Φ (some (.int v)) T M := h M FrM.rf hC rfl
theorem fA_cong {f g : Int → Int32} {a b : Int} (h0 : f a = g b) (hb : (f a).toInt ≤ 40) (h : ∀ k : Int, 0 ≤ k → k < 40 → f (a + 1 + k) = g (b + 1 + k)) : fA f a = fA g b := by
  unfold fA
  exact flm_cong (by rw [h0]) (fun k h1 h2 => h k h1 (by omega))
theorem tA_cong {f g : Int → Int32} {a b : Int} (hb : ∀ φ : Nat, φ < 3 → (f (a + 41 * (φ : Int))).toInt ≤ 40) (h : ∀ k : Int, 0 ≤ k → k < 123 → f (a + k) = g (b + k)) : tA f a = tA g b := by
  have b0 := hb 0 (by omega)
  have b1 := hb 1 (by omega)
  have b2 := hb 2 (by omega)
  have e0 : a + 41 * ((0 : Nat) : Int) = a := by omega
  have e1 : a + 41 * ((1 : Nat) : Int) = a + 41 := by omega
  have e2 : a + 41 * ((2 : Nat) : Int) = a + 82 := by omega
  rw [e0] at b0
  rw [e1] at b1
  rw [e2] at b2
  unfold tA
  rw [fA_cong (f := f) (g := g) (a := a) (b := b) (by have := h 0 (by omega) (by omega); rw [Int.add_zero, Int.add_zero] at this; exact this) b0 (fun k k1 k2 => by have := h (1 + k) (by omega) (by omega); rw [← Int.add_assoc, ← Int.add_assoc] at this; exact this), fA_cong (f := f) (g := g) (a := a + 41) (b := b + 41) (h 41 (by omega) (by omega)) b1 (fun k k1 k2 => by have := h (42 + k) (by omega) (by omega); rw [show a + (42 + k) = a + 41 + 1 + k by omega, show b + (42 + k) = b + 41 + 1 + k by omega] at this; exact this), fA_cong (f := f) (g := g) (a := a + 82) (b := b + 82) (h 82 (by omega) (by omega)) b2 (fun k k1 k2 => by have := h (83 + k) (by omega) (by omega); rw [show a + (83 + k) = a + 82 + 1 + k by omega, show b + (83 + k) = b + 82 + 1 + k by omega] at this; exact this)]
theorem vA_cong {f g : Int → Int32} {o o' : Int} {v v' : Nat} (hb : ∀ φ : Nat, φ < 3 → (f (o + 127 * (v : Int) + 4 + 41 * (φ : Int))).toInt ≤ 40) (h : ∀ k : Int, 0 ≤ k → k < 127 → f (o + 127 * (v : Int) + k) = g (o' + 127 * (v' : Int) + k)) : vA f o v = vA g o' v' := by
  unfold vA
  rw [h 3 (by omega) (by omega), h 1 (by omega) (by omega), h 2 (by omega) (by omega), tA_cong (g := g) (b := o' + 127 * (v' : Int) + 4) hb (fun k k1 k2 => by have := h (4 + k) (by omega) (by omega); rw [← Int.add_assoc, ← Int.add_assoc] at this; exact this)]
theorem rb_cong {f g : Int → Int32} {o o' : Int} {n : Nat} (hW : BW f o n) (h : ∀ k : Int, 0 ≤ k → k < 127 * (n : Int) → f (o + k) = g (o' + k)) : rb g o' n = rb f o n ∧ BW g o' n := by
  have e : rb g o' n = rb f o n := by
    refine Prod.ext rfl (funext fun v => ?_)
    show (if v < n then vA g o' v else bkr0) = if v < n then vA f o v else bkr0
    by_cases q : v < n
    · rw [if_pos q, if_pos q]
      exact (vA_cong (fun φ hφ => (hW.2.1 v q φ hφ).2) (fun k k1 k2 => by have := h (127 * (v : Int) + k) (by omega) (by omega); rw [← Int.add_assoc, ← Int.add_assoc] at this; exact this)).symm
    · rw [if_neg q, if_neg q]
  refine ⟨e, by rw [e]; exact hW.1, fun v hv φ hφ => ?_, fun v hv => ?_⟩
  · have := h (127 * (v : Int) + 4 + 41 * (φ : Int)) (by omega) (by omega)
    rw [show o' + 127 * (v : Int) + 4 + 41 * (φ : Int) = o' + (127 * (v : Int) + 4 + 41 * (φ : Int)) by omega, ← this, show o + (127 * (v : Int) + 4 + 41 * (φ : Int)) = o + 127 * (v : Int) + 4 + 41 * (φ : Int) by omega]
    exact hW.2.1 v hv φ hφ
  · rw [e, ← h (127 * (v : Int)) (by omega) (by omega)]
    exact hW.2.2 v hv
theorem prI_rg {l h : Nat} (h1 : l < h) (h2 : h < 16) : 0 ≤ prI l h ∧ prI l h < 120 ∧ prI l h = ((h * (h - 1) / 2 + l : Nat) : Int) := by
  have key : ∀ h : Fin 16, ((h.val : Int) * ((h.val : Int) - 1) / 2 = ((h.val * (h.val - 1) / 2 : Nat) : Int)) ∧ h.val * (h.val - 1) / 2 + h.val ≤ 120 := by decide
  obtain ⟨k1, k2⟩ := key ⟨h, h2⟩
  have k1 : (h : Int) * ((h : Int) - 1) / 2 = ((h * (h - 1) / 2 : Nat) : Int) := k1
  have k2 : h * (h - 1) / 2 + h ≤ 120 := k2
  unfold prI
  rw [k1]
  omega
/-- the book, the kept ones and the commons stay -/
theorem mdb_keep {M M1 : cm_M} {m : Nat} (h : MDB M m) (h0 : M1.1 m 1 = M.1 m 1) (h1 : ∀ k : Int, 0 ≤ k → k < 16792 → M1.1 (m + 1) k = M.1 (m + 1) k) (h2 : M1.1 (m + 2) = M.1 (m + 2)) (h3 : M1.1 (m + 3) = M.1 (m + 3)) (h17 : M1.1 (m + 17) = M.1 (m + 17)) (h18 : M1.1 (m + 18) = M.1 (m + 18)) : MDB M1 m ∧ mbk M1 m = mbk M m ∧ mKq M1 m = mKq M m := by
  obtain ⟨g0, g1, g2, g3⟩ := id h
  have n16 : (M.1 m 1).toInt.toNat ≤ 16 := g1.1.1
  obtain ⟨e1, e2⟩ := rb_cong (g := M1.1 (m + 1)) (o' := 0) g1 (fun k k1 k2 => by rw [Int.zero_add]; exact (h1 k k1 (by omega)).symm)
  have eb : mbk M1 m = mbk M m := by unfold mbk; rw [h0, e1]
  refine ⟨⟨by rw [h0]; exact g0, by rw [h0]; exact e2, by rw [h18, h17]; exact g2, ?_⟩, eb, funext fun k => by unfold mKq; rw [h17, h18]⟩
  rw [eb, h2, h3]
  intro l hh hl hh16
  rcases g3 l hh hl hh16 with q | ⟨q, w⟩
  · exact Or.inl q
  · refine Or.inr ⟨q, ?_⟩
    obtain ⟨p1, p2, -⟩ := prI_rg hl hh16
    rcases w with w | ⟨w1, ⟨t, w2⟩, w3'⟩ | w
    · exact Or.inl w
    · refine Or.inr (Or.inl ⟨w1, ⟨t, ?_⟩, fun φ hφ => ?_⟩)
      · rw [w2, tA_cong (g := M1.1 (m + 1)) (b := 2032 + 123 * prI l hh) (fun φ hφ => (w3' φ hφ).2) (fun k k1 k2 => (h1 _ (by omega) (by omega)).symm)]
      · rw [h1 _ (by omega) (by omega)]
        exact w3' φ hφ
    · exact Or.inr (Or.inr w)

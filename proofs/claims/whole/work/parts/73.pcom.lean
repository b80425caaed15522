def ab (B : Bk) (v u : Nat) : Prop := (anc B v).toBitVec.getLsbD u = true
theorem bt_bit {v u : Nat} (hv : v < 16) (hu : u < 16) : ((bt v).toBitVec.getLsbD u = true) = (u = v) := by
  have key : ∀ v u : Fin 16, ((bt v.val).toBitVec.getLsbD u.val = true) = (u.val = v.val) := by decide
  exact key ⟨v, hv⟩ ⟨u, hu⟩
theorem ab_eq {B : Bk} {v u : Nat} (hv : v < 16) (hu : u < 16) : ab B v u = (u = v ∨ (0 ≤ (B.2 v).2.1 ∧ (B.2 v).2.1 < (v : Int) ∧ ab B (B.2 v).2.1.toNat u) ∨ (0 ≤ (B.2 v).2.2 ∧ (B.2 v).2.2 < (v : Int) ∧ ab B (B.2 v).2.2.toNat u)) := by
  have one : ∀ f : Int, ((ancOf B v f).toBitVec.getLsbD u = true) = (0 ≤ f ∧ f < (v : Int) ∧ ab B f.toNat u) := by
    intro f
    unfold ancOf
    by_cases q : 0 ≤ f ∧ f < (v : Int)
    · rw [if_pos q]
      exact propext ⟨fun h => ⟨q.1, q.2, h⟩, fun h => h.2.2⟩
    · rw [if_neg q]
      refine propext ⟨fun h => ?_, fun h => absurd ⟨h.1, h.2.1⟩ q⟩
      have e : (w3 0).toBitVec = 0#32 := rfl
      rw [e, BitVec.getLsbD_zero] at h
      cases h
  unfold ab
  rw [anc_eq, Int32.toBitVec_or, Int32.toBitVec_or, BitVec.getLsbD_or, BitVec.getLsbD_or, Bool.or_eq_true, Bool.or_eq_true, bt_bit hv hu, one, one]
  exact propext ⟨fun h => h.elim (fun w => w.elim Or.inl (fun z => Or.inr (Or.inl z))) (fun z => Or.inr (Or.inr z)), fun h => h.elim (fun z => Or.inl (Or.inl z)) (fun w => w.elim (fun z => Or.inl (Or.inr z)) Or.inr)⟩
theorem ab_self {B : Bk} {v : Nat} (hv : v < 16) : ab B v v := by rw [ab_eq hv hv]; exact Or.inl rfl
theorem ab_le {B : Bk} : ∀ (v u : Nat), v < 16 → u < 16 → ab B v u → u ≤ v := by
  intro v
  induction v using Nat.strongRecOn with
  | _ v ih =>
    intro u hv hu h
    rw [ab_eq hv hu] at h
    rcases h with h | ⟨h1, h2, h3⟩ | ⟨h1, h2, h3⟩
    · omega
    · have := ih _ (by omega) u (by omega) hu h3
      omega
    · have := ih _ (by omega) u (by omega) hu h3
      omega
theorem ab_trans {B : Bk} : ∀ (v u w : Nat), v < 16 → u < 16 → w < 16 → ab B v u → ab B u w → ab B v w := by
  intro v
  induction v using Nat.strongRecOn with
  | _ v ih =>
    intro u w hv hu hw h1 h2
    rw [ab_eq hv hu] at h1
    rcases h1 with h | ⟨a1, a2, a3⟩ | ⟨a1, a2, a3⟩
    · rw [h] at h2; exact h2
    · rw [ab_eq hv hw]
      exact Or.inr (Or.inl ⟨a1, a2, ih _ (by omega) u w (by omega) hu hw a3 h2⟩)
    · rw [ab_eq hv hw]
      exact Or.inr (Or.inr ⟨a1, a2, ih _ (by omega) u w (by omega) hu hw a3 h2⟩)
def bs (x : Int32) (v : Nat) : Prop := ¬ (x >>> (w3 (v : Int) &&& 31) &&& w3 1 = 0)
theorem bs_bit {x : Int32} {v : Nat} (h : v < 16) : bs x v = (x.toBitVec.getLsbD v = true) := by
  unfold bs
  rw [propext (hb_bit h)]
  cases x.toBitVec.getLsbD v <;> simp
theorem nrL_bit {B : Bk} {x : Int32} {u : Nat} (hu : u < 16) : ∀ k : Nat, k ≤ 16 → ((nrL B x k).toBitVec.getLsbD u = true ↔ ∃ w, w < k ∧ bs x w ∧ ab B w u ∧ u ≠ w)
  | 0, _ => by
    refine ⟨fun h => ?_, fun ⟨w, hw, _⟩ => absurd hw (Nat.not_lt_zero _)⟩
    have e : (nrL B x 0).toBitVec = 0#32 := rfl
    rw [e, BitVec.getLsbD_zero] at h
    cases h
  | k + 1, hk => by
    have ih := nrL_bit (B := B) (x := x) hu k (by omega)
    have es : nrL B x (k + 1) = if x >>> (w3 (k : Int) &&& 31) &&& w3 1 = 0 then nrL B x k else nrL B x k ||| (anc B k &&& (bt k ^^^ w3 (-1))) := rfl
    rw [es]
    by_cases hb0 : x >>> (w3 (k : Int) &&& 31) &&& w3 1 = 0
    · rw [if_pos hb0, ih]
      refine ⟨fun ⟨w, a, b⟩ => ⟨w, by omega, b⟩, fun ⟨w, a, b, c⟩ => ⟨w, ?_, b, c⟩⟩
      by_cases e : w = k
      · rw [e] at b; exact absurd hb0 b
      · omega
    · rw [if_neg hb0, Int32.toBitVec_or, BitVec.getLsbD_or, Bool.or_eq_true, ih]
      have e1 : (anc B k &&& (bt k ^^^ w3 (-1))).toBitVec.getLsbD u = true ↔ ab B k u ∧ u ≠ k := by
        rw [Int32.toBitVec_and, BitVec.getLsbD_and, Bool.and_eq_true, Int32.toBitVec_xor, BitVec.getLsbD_xor]
        have e : (w3 (-1)).toBitVec = BitVec.allOnes 32 := by decide
        rw [e, BitVec.getLsbD_allOnes]
        have hb2 := bt_bit (v := k) (u := u) (by omega) hu
        have h32 : decide (u < 32) = true := decide_eq_true (by omega)
        rw [h32]
        refine ⟨fun h => ⟨h.1, fun e => ?_⟩, fun h => ⟨h.1, ?_⟩⟩
        · have : (bt k).toBitVec.getLsbD u = true := by rw [hb2]; exact e
          rw [this] at h
          exact absurd h.2 (by decide)
        · have : (bt k).toBitVec.getLsbD u = false := by
            cases q : (bt k).toBitVec.getLsbD u
            · rfl
            · rw [hb2] at q; exact absurd q h.2
          rw [this]; rfl
      rw [e1]
      refine ⟨fun h => ?_, fun ⟨w, a, b, c, d⟩ => ?_⟩
      · rcases h with ⟨w, a, b⟩ | ⟨a, b⟩
        · exact ⟨w, by omega, b⟩
        · exact ⟨k, by omega, hb0, a, b⟩
      · by_cases e : w = k
        · subst e; exact Or.inr ⟨c, d⟩
        · exact Or.inl ⟨w, by omega, b, c, d⟩
/-- a nearest one: an ancestor of both that is none of another such one -/
theorem nrB_bit {B : Bk} {a b u : Nat} (hn : B.1 ≤ 16) (ha : a < B.1) (hb : b < B.1) (hu : u < 16) : bs (nrB B (a : Int) (b : Int)) u ↔ (ab B a u ∧ ab B b u) ∧ ¬ ∃ w, w < B.1 ∧ (ab B a w ∧ ab B b w) ∧ ab B w u ∧ u ≠ w := by
  rw [bs_bit hu]
  unfold nrB
  rw [if_pos ⟨⟨by omega, by omega⟩, by omega, by omega⟩, show ((a : Int)).toNat = a by omega, show ((b : Int)).toNat = b by omega]
  have hboth : ∀ w, w < 16 → (bs (anc B a &&& anc B b) w ↔ ab B a w ∧ ab B b w) := fun w hw => by
    rw [bs_bit hw, Int32.toBitVec_and, BitVec.getLsbD_and, Bool.and_eq_true]
    exact Iff.rfl
  rw [Int32.toBitVec_and, BitVec.getLsbD_and, Bool.and_eq_true]
  have h1 : ((anc B a &&& anc B b).toBitVec.getLsbD u = true) ↔ ab B a u ∧ ab B b u := by rw [← hboth u hu, bs_bit hu]
  have hL := nrL_bit (B := B) (x := anc B a &&& anc B b) hu B.1 hn
  have h2 : ((nrL B (anc B a &&& anc B b) B.1 ^^^ w3 (-1)).toBitVec.getLsbD u = true) ↔ ¬ ((nrL B (anc B a &&& anc B b) B.1).toBitVec.getLsbD u = true) := by
    have e : (w3 (-1)).toBitVec = BitVec.allOnes 32 := by decide
    have h32 : decide (u < 32) = true := decide_eq_true (by omega)
    rw [Int32.toBitVec_xor, BitVec.getLsbD_xor, e, BitVec.getLsbD_allOnes, h32]
    cases (nrL B (anc B a &&& anc B b) B.1).toBitVec.getLsbD u <;> simp
  rw [h1, h2, hL]
  refine and_congr_right (fun _ => not_congr ⟨fun ⟨w, p, q, r⟩ => ⟨w, p, (hboth w (by omega)).mp q, r⟩, fun ⟨w, p, q, r⟩ => ⟨w, p, (hboth w (by omega)).mpr q, r⟩⟩)
theorem nrB_lo {B : Bk} {l h u v : Nat} (hn : B.1 ≤ 16) (hlh : l < h) (hh : h < B.1) (hu : bs (nrB B (l : Int) (h : Int)) u) (hv : bs (nrB B (l : Int) (h : Int)) v) (hv16 : v < 16) (huv : u < v) : v < l := by
  obtain ⟨⟨u1, u2⟩, u3⟩ := (nrB_bit hn (by omega) hh (by omega)).mp hu
  obtain ⟨⟨v1, v2⟩, v3⟩ := (nrB_bit hn (by omega) hh hv16).mp hv
  have hle := ab_le l v (by omega) hv16 v1
  by_cases e : v = l
  · subst e
    exact absurd ⟨v, by omega, ⟨v1, v2⟩, u1, by omega⟩ u3
  · omega
theorem nrB_ln {B : Bk} {l h v : Nat} (hn : B.1 ≤ 16) (hlh : l < h) (hh : h < B.1) (hv : bs (nrB B (l : Int) (h : Int)) v) (hv16 : v < 16) : v ≤ l ∧ v < B.1 := by
  obtain ⟨⟨v1, v2⟩, v3⟩ := (nrB_bit hn (by omega) hh hv16).mp hv
  have hle := ab_le l v (by omega) hv16 v1
  omega
theorem cmL_la {B : Bk} {re : Int → Int → Option Tv} {nea : Int32} : ∀ (v : Nat) (t : Tv) (la : Int), cmL B re nea v = some (some t, la) → ∃ u : Nat, u < v ∧ la = (u : Int) ∧ bs nea u
  | 0, t, la, h => by unfold cmL at h; cases h
  | v + 1, t, la, h => by
    cases hc : cmL B re nea v with
    | none => rw [cmL_n hc 1] at h; cases h
    | some cl =>
      obtain ⟨c, lb⟩ := cl
      by_cases hb0 : nea >>> (w3 (v : Int) &&& 31) &&& w3 1 = 0
      · rw [cmL_0 hc hb0] at h
        have e1 : c = some t ∧ lb = la := by cases h; exact ⟨rfl, rfl⟩
        rw [e1.1, e1.2] at hc
        obtain ⟨u, a, b⟩ := cmL_la v t la hc
        exact ⟨u, by omega, b⟩
      · cases c with
        | none =>
          rw [cmL_1 hc hb0] at h
          have e1 : (v : Int) = la := by cases h; rfl
          exact ⟨v, by omega, e1.symm, hb0⟩
        | some s =>
          rw [cmL_2 hc hb0] at h
          cases hr : re lb (v : Int) with
          | none => rw [hr] at h; cases h
          | some b =>
            rw [hr] at h
            cases hm : mgT false s (B.2 v).1 b with
            | none => simp only [hm] at h; cases h
            | some X =>
              simp only [hm] at h
              have e1 : (v : Int) = la := by cases h; rfl
              exact ⟨v, by omega, e1.symm, hb0⟩
theorem cmL_cong {B : Bk} {re re' : Int → Int → Option Tv} {nea : Int32} : ∀ (v : Nat), (∀ u w : Nat, u < w → w < v → bs nea u → bs nea w → re (u : Int) (w : Int) = re' (u : Int) (w : Int)) → cmL B re nea v = cmL B re' nea v
  | 0, _ => rfl
  | v + 1, h => by
    have ih := cmL_cong (B := B) (re := re) (re' := re') (nea := nea) v (fun u w a b => h u w a (by omega))
    cases hc : cmL B re nea v with
    | none =>
      have hc' := ih.symm.trans hc
      rw [cmL_n hc 1, cmL_n hc' 1]
    | some cl =>
      obtain ⟨c, lb⟩ := cl
      have hc' := ih.symm.trans hc
      by_cases hb0 : nea >>> (w3 (v : Int) &&& 31) &&& w3 1 = 0
      · rw [cmL_0 hc hb0, cmL_0 hc' hb0]
      · cases c with
        | none => rw [cmL_1 hc hb0, cmL_1 hc' hb0]
        | some s =>
          obtain ⟨u, a, b, c⟩ := cmL_la v s lb hc
          rw [cmL_2 hc hb0, cmL_2 hc' hb0, b, h u v a (by omega) c hb0]
/-- more fuel than that is not needed -/
theorem cmn_fu {B : Bk} (hn : B.1 ≤ 16) : ∀ (k l h : Nat), l < h → h < B.1 → l < k → cmn B k (l : Int) (h : Int) = cmn B (k + 1) (l : Int) (h : Int)
  | 0, l, h, _, _, hk => absurd hk (Nat.not_lt_zero _)
  | k + 1, l, h, hlh, hh, hk => by
    have e : cmL B (cmn B k) (nrB B (l : Int) (h : Int)) 16 = cmL B (cmn B (k + 1)) (nrB B (l : Int) (h : Int)) 16 := by
      refine cmL_cong 16 (fun u w a b c d => ?_)
      have hw := nrB_lo hn hlh hh c d b a
      exact cmn_fu hn k u w a (by omega) (by omega)
    conv => lhs; unfold cmn
    conv => rhs; unfold cmn
    rw [e]
theorem cmn_up {B : Bk} (hn : B.1 ≤ 16) {l h : Nat} (hlh : l < h) (hh : h < B.1) : ∀ (j k : Nat), l < k → cmn B k (l : Int) (h : Int) = cmn B (k + j) (l : Int) (h : Int)
  | 0, k, _ => rfl
  | j + 1, k, hk => (cmn_up hn hlh hh j k hk).trans (cmn_fu hn (k + j) l h hlh hh (by omega))
theorem cmn_16 {B : Bk} (hn : B.1 ≤ 16) {l h : Nat} (hlh : l < h) (hh : h < B.1) : cmn B 16 (l : Int) (h : Int) = match cmL B (cmn B 16) (nrB B (l : Int) (h : Int)) B.1 with
    | some (some X, _) => some X
    | _ => none := by
  have e : cmL B (cmn B 15) (nrB B (l : Int) (h : Int)) 16 = cmL B (cmn B 16) (nrB B (l : Int) (h : Int)) 16 := by
    refine cmL_cong 16 (fun u w a b c d => ?_)
    have hw := nrB_lo hn hlh hh c d b a
    exact cmn_fu hn 15 u w a (by omega) (by omega)
  have e2 : ∀ j : Nat, B.1 + j ≤ 16 → cmL B (cmn B 16) (nrB B (l : Int) (h : Int)) (B.1 + j) = cmL B (cmn B 16) (nrB B (l : Int) (h : Int)) B.1 := by
    intro j
    induction j with
    | zero => intro _; rfl
    | succ j ih =>
      intro hj
      have i1 := ih (by omega)
      have hb0 := nrB_no (B := B) (a := (l : Int)) (b := (h : Int)) hn (B.1 + j) (by omega) (by omega)
      show cmL B (cmn B 16) (nrB B (l : Int) (h : Int)) (B.1 + j + 1) = _
      cases hc : cmL B (cmn B 16) (nrB B (l : Int) (h : Int)) (B.1 + j) with
      | none => rw [cmL_n hc 1]; exact hc.symm.trans i1
      | some cl =>
        obtain ⟨c, lb⟩ := cl
        rw [cmL_0 hc hb0]; exact hc.symm.trans i1
  conv => lhs; unfold cmn
  rw [e, ← e2 (16 - B.1) (by omega), show B.1 + (16 - B.1) = 16 by omega]
  rfl
theorem cmL_g {B : Bk} (hW : WB B) {re : Int → Int → Option Tv} {nea : Int32} (hre : ∀ u w X, re u w = some X → TvG X) (hne : ∀ v : Nat, B.1 ≤ v → v < 16 → ¬ bs nea v) : ∀ (v : Nat) (t : Tv) (la : Int), v ≤ 16 → cmL B re nea v = some (some t, la) → TvG t
  | 0, t, la, _, h => by unfold cmL at h; cases h
  | v + 1, t, la, hv, h => by
    cases hc : cmL B re nea v with
    | none => rw [cmL_n hc 1] at h; cases h
    | some cl =>
      obtain ⟨c, lb⟩ := cl
      by_cases hb0 : nea >>> (w3 (v : Int) &&& 31) &&& w3 1 = 0
      · rw [cmL_0 hc hb0] at h
        have e1 : c = some t ∧ lb = la := by cases h; exact ⟨rfl, rfl⟩
        rw [e1.1] at hc
        exact cmL_g hW hre hne v t lb (by omega) hc
      · have hvn : v < B.1 := Nat.lt_of_not_le (fun w => hne v w (by omega) hb0)
        cases c with
        | none =>
          rw [cmL_1 hc hb0] at h
          have e1 : (B.2 v).1 = t := by cases h; rfl
          rw [← e1]; exact (hW.2.1 v hvn).1
        | some s =>
          rw [cmL_2 hc hb0] at h
          cases hr : re lb (v : Int) with
          | none => rw [hr] at h; cases h
          | some b =>
            rw [hr] at h
            cases hm : mgT false s (B.2 v).1 b with
            | none => simp only [hm] at h; cases h
            | some X =>
              simp only [hm] at h
              have e1 : X = t := by cases h; rfl
              rw [← e1]
              exact mgT_g (cmL_g hW hre hne v s lb (by omega) hc) (hW.2.1 v hvn).1 (hre _ _ _ hr) hm
theorem cmn_g {B : Bk} (hW : WB B) : ∀ (k : Nat) (a b : Int) (X : Tv), cmn B k a b = some X → TvG X
  | 0, _, _, _, h => by unfold cmn at h; cases h
  | k + 1, a, b, X, h => by
    unfold cmn at h
    cases hc : cmL B (cmn B k) (nrB B a b) 16 with
    | none => rw [hc] at h; cases h
    | some cl =>
      obtain ⟨c, lb⟩ := cl
      rw [hc] at h
      cases c with
      | none => cases h
      | some t =>
        have e : t = X := by cases h; rfl
        rw [← e]
        exact cmL_g hW (fun u w X h => cmn_g hW k u w X h) (fun v a b c => c (nrB_no hW.1 v a b)) 16 t lb (Nat.le_refl _) hc

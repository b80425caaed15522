/-- the reference stays where none of its cells is touched -/
theorem MD.ag {T T' : cm_T} {M M' : cm_M} {m : Nat} (hD : MD T M m) (h1 : ∀ q, m ≤ q → q < m + 20 → T'.1 q = T.1 q) (h2 : ∀ q, m ≤ q → q < m + 20 → T'.2.1 q = T.2.1 q) (h3 : ∀ q, m ≤ q → q < m + 20 → M'.1 q = M.1 q) (h4 : ∀ q, m ≤ q → q < m + 20 → M'.2.1 q = M.2.1 q) (h5 : ∀ q, m ≤ q → q < m + 20 → M'.2.2 q = M.2.2 q) : MD T' M' m ∧ mst M' m = mst M m := by
  have eb : mbk M' m = mbk M m := by
    unfold mbk
    rw [h3 m (by omega) (by omega), h3 (m + 1) (by omega) (by omega)]
  refine ⟨⟨?_, ?_, ?_⟩, St_ext (funext fun r => ?_) (funext fun t => ?_) eb (funext fun k => ?_) ?_ ?_ ?_ ?_ (funext fun k => ?_)⟩
  · have hT := hD.1
    unfold TMd at *
    simp (disch := omega) only [h1, h2, h5]
    exact hT
  · have hB := hD.2.1
    unfold MDB at *
    rw [eb]
    simp (disch := omega) only [h3]
    exact hB
  · have hR := hD.2.2
    unfold MDR at *
    simp (disch := omega) only [h3]
    exact hR
  · show mRw M' m r = mRw M m r
    unfold mRw
    rw [h3 (m + 5) (by omega) (by omega), h3 (m + 6) (by omega) (by omega)]
  · show mTx M' m t = mTx M m t
    unfold mTx
    rw [h3 (m + 8) (by omega) (by omega), h3 (m + 9) (by omega) (by omega)]
  · show mKq M' m k = mKq M m k
    unfold mKq
    rw [h3 (m + 17) (by omega) (by omega), h3 (m + 18) (by omega) (by omega)]
  · show M'.1 m 4 = M.1 m 4
    rw [h3 m (by omega) (by omega)]
  · show M'.2.1 m 7 = M.2.1 m 7
    rw [h4 m (by omega) (by omega)]
  · show M'.2.1 m 8 = M.2.1 m 8
    rw [h4 m (by omega) (by omega)]
  · show M'.1 m 5 = M.1 m 5
    rw [h3 m (by omega) (by omega)]
  · show mCt M' m k = mCt M m k
    unfold mCt
    rw [h3 (m + 4) (by omega) (by omega)]
theorem FrC.md {T : cm_T} {M M1 : cm_M} {x L m : Nat} (h : FrC M M1 x L) (h1 : x + 326 ≤ m) (h2 : m + 20 ≤ L) (hD : MD T M m) : MD T M1 m ∧ mst M1 m = mst M m := hD.ag (fun _ _ _ => rfl) (fun _ _ _ => rfl) (fun q a b => (h q (by omega)).1) (fun q a b => (h q (by omega)).2.1) (fun q a b => (h q (by omega)).2.2)
/-- the class stays where the reference alone has been at work -/
theorem FrM.cm {T : cm_T} {M M1 : cm_M} {x L m : Nat} (h : FrM M M1 m) (h1 : x + 326 ≤ m) (h2 : m + 20 ≤ L) (hC : CMG T M x L) : CMG T M1 x L ∧ cst M1 x = cst M x := by
  have bk : ∀ a : Nat, L ≤ a → BkG T M a → BkG T M1 a ∧ bkv M1 a = bkv M a := fun a ha hB => hB.ag (fun _ _ _ => rfl) (fun _ _ _ => rfl) (fun q u v => (h.1 q (by omega)).1) (fun q u v => by rw [h.2])
  refine hC.ag hC.1.2 (fun _ _ _ => rfl) (fun _ _ _ => rfl) (fun q u v => (h.1 q (by omega)).1) (fun q u v => (h.1 q (by omega)).2) (fun q u v w => by rw [h.2]) ⟨fun k hk a ha => ?_, fun k l hk hl hne a b ha hb => ?_⟩ (funext fun k => ?_)
  · rw [h.2] at ha
    obtain ⟨p1, p2, p3⟩ := hC.2.2.2.1.1 k hk a ha
    exact ⟨p1, p2, (bk a p1 p3).1⟩
  · rw [h.2] at ha hb
    exact hC.2.2.2.1.2 k l hk hl hne a b ha hb
  · unfold cKq
    by_cases q : k < 3
    · rw [if_pos q, if_pos q]
      unfold cKp
      rw [h.2]
      cases e : M.2.2 (x + 137) (k : Int) with
      | none => rfl
      | some a =>
        obtain ⟨p1, p2, p3⟩ := hC.2.2.2.1.1 k q a e
        exact (bk a p1 p3).2
    · rw [if_neg q, if_neg q]

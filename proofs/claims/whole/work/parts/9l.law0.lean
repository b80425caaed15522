/-- nothing is kept where there is no room for it -/
theorem CMG.no {T : cm_T} {M : cm_M} {x L : Nat} (hC : CMG T M x L) (h : T.2.2 < L + 134) : ∀ k : Nat, k < 3 → M.2.2 (x + 137) (k : Int) = none := by
  intro k hk
  cases e : M.2.2 (x + 137) (k : Int) with
  | none => rfl
  | some a =>
    obtain ⟨p1, p2, -⟩ := hC.2.2.2.1.1 k hk a e
    omega
theorem CMG.up {T : cm_T} {M : cm_M} {x L L' : Nat} (hC : CMG T M x L) (h0 : ∀ k : Nat, k < 3 → M.2.2 (x + 137) (k : Int) = none) (h1 : x + 326 ≤ L') (h2 : L' ≤ T.2.2) : CMG T M x L' := ⟨⟨h1, h2⟩, hC.2.1, hC.2.2.1, ⟨fun k hk a ha => (by rw [h0 k hk] at ha; cases ha), fun k l hk hl hne a b ha hb => (by rw [h0 k hk] at ha; cases ha)⟩, hC.2.2.2.2⟩

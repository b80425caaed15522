theorem eqr_symm {c e : List Int32} {i m j n : Nat} (h : eqr c i m e j n) : eqr e j n c i m := ⟨h.1.symm, fun k hk => (h.2 k (by rw [h.1]; exact hk)).symm⟩
theorem eqr_trans {c e f : List Int32} {i m j n a b : Nat} (h : eqr c i m e j n) (g : eqr e j n f a b) : eqr c i m f a b := ⟨h.1.trans g.1, fun k hk => (h.2 k hk).trans (g.2 k (by rw [← h.1]; exact hk))⟩
theorem slc_eq {c e : List Int32} {i m j n : Nat} (h : eqr c i m e j n) : slc c (stt c i) (stt c m) = slc e (stt e j) (stt e n) := by
  unfold slc
  have e1 : stt c m - stt c i = stt e n - stt e j := by have := h.1; omega
  rw [← e1]
  apply List.map_congr_left
  intro k hk
  have := List.mem_range.mp hk
  exact h.2 k (by omega)
theorem gapL_sym {tn : Bool} {co cb ct : List Int32} {o0 o1 b0 b1 t0 t1 : Nat} : gapL tn co cb ct o0 o1 b0 b1 t0 t1 = gapL (!tn) ct cb co t0 t1 b0 b1 o0 o1 := by
  by_cases h1 : eqr co o0 o1 ct t0 t1
  · rw [gapL_1 h1, gapL_1 (eqr_symm h1)]
    exact slc_eq h1
  · have h1' : ¬ eqr ct t0 t1 co o0 o1 := fun w => h1 (eqr_symm w)
    by_cases h2 : eqr co o0 o1 cb b0 b1
    · have h3 : ¬ eqr ct t0 t1 cb b0 b1 := fun w => h1 (eqr_trans h2 (eqr_symm w))
      rw [gapL_2 h1 h2, gapL_3 h1' h3 h2]
    · by_cases h3 : eqr ct t0 t1 cb b0 b1
      · rw [gapL_3 h1 h2 h3, gapL_2 h1' h3]
      · rw [gapL_4 h1 h2 h3, gapL_4 h1' h3 h2]
        cases tn <;> rfl
theorem mgS_sym {tn : Bool} {co cb ct : List Int32} : ∀ k : Nat, mgS (!tn) ct cb co k = ((mgS tn co cb ct k).1, (mgS tn co cb ct k).2.2.1, (mgS tn co cb ct k).2.1, (mgS tn co cb ct k).2.2.2)
  | 0 => rfl
  | k + 1 => by
    have ih := mgS_sym (tn := tn) (co := co) (cb := cb) (ct := ct) k
    by_cases h : 0 ≤ prt cb co k ∧ 0 ≤ prt cb ct k
    · rw [mgS_t h.1 h.2, mgS_t h.2 h.1, ih, gapL_sym (tn := tn)]
    · rw [mgS_f h, mgS_f (fun w => h ⟨w.2, w.1⟩), ih]
theorem mgL_sym {tn : Bool} {co cb ct : List Int32} : mgL (!tn) ct cb co = mgL tn co cb ct := by
  unfold mgL
  rw [mgS_sym, gapL_sym (tn := tn)]
theorem mgB_sym {tn : Bool} {a b c : Fl} (h : a ≠ b) : mgB (!tn) b a c = mgB tn a b c := by
  unfold mgB
  rw [mgL_sym]
  cases a with
  | none =>
    cases b with
    | none => exact absurd rfl h
    | some y => simp
  | some x =>
    cases b with
    | none => simp
    | some y => simp
theorem mgF_sym {tn : Bool} {a b c : Fl} : mgF (!tn) b a c = mgF tn a b c := by
  unfold mgF
  by_cases h : a = b
  · rw [if_pos h, if_pos h.symm, h]
  · rw [if_neg h, if_neg (fun w => h w.symm)]
    by_cases h2 : a = c
    · have h3 : ¬ b = c := fun w => h (h2.trans w.symm)
      simp only [if_pos h2, if_neg h3]
    · by_cases h3 : b = c
      · simp only [if_pos h3, if_neg h2]
      · simp only [if_neg h3, if_neg h2]
        exact mgB_sym h
theorem tor_sym {tn : Bool} {x y z : Tv} : ∀ k : Nat, tor (!tn) y x z k = tor tn x y z k
  | 0 => rfl
  | k + 1 => by
    have ih := tor_sym (tn := tn) (x := x) (y := y) (z := z) k
    unfold tor
    rw [mgF_sym, ih, Int32.or_comm]
theorem mgT_sym {tn : Bool} {x y z : Tv} : mgT (!tn) y x z = mgT tn x y z := by
  unfold mgT
  rw [mgF_sym, mgF_sym, mgF_sym, tor_sym]
theorem nrB_sym {B : Bk} {a b : Int} : nrB B a b = nrB B b a := by
  unfold nrB
  by_cases h : (0 ≤ a ∧ a < (B.1 : Int)) ∧ (0 ≤ b ∧ b < (B.1 : Int))
  · rw [if_pos h, if_pos ⟨h.2, h.1⟩, Int32.and_comm (anc B a.toNat)]
  · rw [if_neg h, if_neg (fun w => h ⟨w.2, w.1⟩)]
theorem cmn_sym {B : Bk} {k : Nat} {a b : Int} : cmn B k a b = cmn B k b a := by
  cases k with
  | zero => rfl
  | succ k =>
    unfold cmn
    rw [nrB_sym]
theorem mgX_sym {B : Bk} {tn : Bool} {a b : Int} : mgX B (!tn) b a = mgX B tn a b := by
  unfold mgX
  rw [cmn_sym]
  cases cmn B 16 a b with
  | none => rfl
  | some Z => exact mgT_sym
theorem mgA_sym {B : Bk} {tn : Bool} {a b : Int} : mgA B (!tn) b a = mgA B tn a b := by
  by_cases h : isP B a b
  · have h' : isP B b a := ⟨h.2.1, h.1, fun w => h.2.2 w.symm⟩
    by_cases h2 : anP B a b
    · rw [mgA_a h h2, mgA_a h' (Or.symm h2)]
    · rw [mgA_x h h2, mgA_x h' (fun w => h2 (Or.symm w)), mgX_sym]
  · rw [mgA_n h, mgA_n (fun w => h ⟨w.2.1, w.1, fun q => w.2.2 q.symm⟩)]
theorem mgA_c {B : Bk} {tn : Bool} {a b : Int} : (∃ X, mgA B tn a b = (w3 0, some X) ∧ isP B a b ∧ ¬ anP B a b ∧ mgX B tn a b = some X) ∨ (∃ r, mgA B tn a b = (r, none) ∧ (r = 0) = False) := by
  by_cases h : isP B a b
  · by_cases h2 : anP B a b
    · exact Or.inr ⟨_, mgA_a h h2, eq_false (by decide)⟩
    · have e := mgA_x (tn := tn) h h2
      cases hX : mgX B tn a b with
      | none => rw [hX] at e; exact Or.inr ⟨_, e, eq_false (by decide)⟩
      | some X => rw [hX] at e; exact Or.inl ⟨X, e, h, h2, rfl⟩
  · exact Or.inr ⟨_, mgA_n h, eq_false (by decide)⟩

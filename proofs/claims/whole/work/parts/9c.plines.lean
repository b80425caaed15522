theorem zc_apl {L L' : List Int32} {k : Nat} (h : k ≤ L.length) : zc (L ++ L') k = zc L k := zc_cong k (fun j hj => gt_apl (by omega))
theorem zc_apr {L L' : List Int32} (hb : Bal L) : ∀ k : Nat, zc (L ++ L') (L.length + k) = nl L + zc L' k
  | 0 => by
    rw [Nat.add_zero, zc_apl (Nat.le_refl _)]
    rfl
  | k + 1 => by
    have e : zc (L ++ L') (L.length + k + 1) = zc (L ++ L') (L.length + k) + (if dp (L ++ L') (L.length + k) = 0 then 1 else 0) := rfl
    have e2 : zc L' (k + 1) = zc L' k + (if dp L' k = 0 then 1 else 0) := rfl
    show zc (L ++ L') (L.length + k + 1) = _
    rw [e, e2, zc_apr hb k, dp_apr hb.2 k]
    omega
theorem nl_app {L L' : List Int32} (hb : Bal L) : nl (L ++ L') = nl L + nl L' := by
  unfold nl
  rw [List.length_append]
  exact zc_apr hb L'.length
theorem stt_apl {L L' : List Int32} {i : Nat} (hb : Bal L) (h : i ≤ nl L) : stt (L ++ L') i = stt L i := by
  obtain ⟨a, b, c⟩ := stt_spec hb h
  have e := stt_at (L := L ++ L') (j := stt L i) (by rw [List.length_append]; omega) (by rw [dp_apl a]; exact b)
  rw [zc_apl a, c] at e
  exact e
theorem stt_apr {L L' : List Int32} {i : Nat} (hb : Bal L) (hb' : Bal L') (h : i ≤ nl L') : stt (L ++ L') (nl L + i) = L.length + stt L' i := by
  obtain ⟨a, b, c⟩ := stt_spec hb' h
  have e := stt_at (L := L ++ L') (j := L.length + stt L' i) (by rw [List.length_append]; omega) (by rw [dp_apr hb.2]; exact b)
  rw [zc_apr hb, c] at e
  exact e
theorem eqr_apl {L L' e : List Int32} {i j n : Nat} (hb : Bal L) (h : i < nl L) : eqr (L ++ L') i (i + 1) e j n = eqr L i (i + 1) e j n := by
  unfold eqr
  rw [stt_apl hb (show i ≤ nl L by omega), stt_apl hb (show i + 1 ≤ nl L by omega)]
  have hl := (stt_spec hb (show i + 1 ≤ nl L by omega)).1
  refine propext ⟨fun w => ⟨w.1, fun k hk => ?_⟩, fun w => ⟨w.1, fun k hk => ?_⟩⟩
  · rw [← w.2 k hk, gt_apl (by omega)]
  · rw [gt_apl (by omega)]; exact w.2 k hk
theorem eqr_apr {L L' e : List Int32} {i j n : Nat} (hb : Bal L) (hb' : Bal L') (h : i < nl L') : eqr (L ++ L') (nl L + i) (nl L + i + 1) e j n = eqr L' i (i + 1) e j n := by
  have s2 := stt_apr (i := i + 1) hb hb' (show i + 1 ≤ nl L' by omega)
  rw [← Nat.add_assoc] at s2
  unfold eqr
  rw [stt_apr hb hb' (show i ≤ nl L' by omega), s2]
  refine propext ⟨fun w => ⟨by have := w.1; omega, fun k hk => ?_⟩, fun w => ⟨by have := w.1; omega, fun k hk => ?_⟩⟩
  · rw [← w.2 k (by omega), Nat.add_assoc, gt_apr]
  · rw [Nat.add_assoc, gt_apr]; exact w.2 k (by omega)
/-- how many lines the files ahead have -/
def ofs (x : Tv) : Nat → Nat
  | 0 => 0
  | s + 1 => ofs x s + nl (cnt (pk x s))
theorem ofs_mono {x : Tv} {a : Nat} : ∀ b : Nat, ofs x a ≤ ofs x (a + b)
  | 0 => Nat.le_refl _
  | b + 1 => by
    have := ofs_mono (x := x) (a := a) b
    show ofs x a ≤ ofs x (a + b) + nl (cnt (pk x (a + b)))
    omega
theorem ofs_le {x : Tv} {a b : Nat} (h : a ≤ b) : ofs x a ≤ ofs x b := by
  have := ofs_mono (x := x) (a := a) (b - a)
  rw [show a + (b - a) = b by omega] at this
  exact this
theorem trc_nl {x : Tv} (h : TvG x) : nl (trcT x) = ofs x 3 := by
  obtain ⟨⟨b0, b1, b2⟩, -⟩ := h
  unfold trcT
  rw [nl_app (Bal_app b0 b1), nl_app b0]
  show _ = 0 + nl (cnt x.2.1) + nl (cnt x.2.2.1) + nl (cnt x.2.2.2)
  omega
theorem eqT {x : Tv} {s i : Nat} {e : List Int32} {j n : Nat} (h : TvG x) (hs : s < 3) (hi : i < nl (cnt (pk x s))) : eqr (trcT x) (ofs x s + i) (ofs x s + i + 1) e j n = eqr (cnt (pk x s)) i (i + 1) e j n := by
  obtain ⟨⟨b0, b1, b2⟩, -⟩ := h
  have b01 := Bal_app b0 b1
  have n01 : nl (cnt x.2.1 ++ cnt x.2.2.1) = nl (cnt x.2.1) + nl (cnt x.2.2.1) := nl_app b0
  unfold trcT
  match s, hs with
  | 0, _ =>
    have hi : i < nl (cnt x.2.1) := hi
    show eqr _ (0 + i) (0 + i + 1) e j n = eqr (cnt x.2.1) i (i + 1) e j n
    rw [Nat.zero_add, eqr_apl b01 (by omega), eqr_apl b0 hi]
  | 1, _ =>
    have hi : i < nl (cnt x.2.2.1) := hi
    show eqr _ (0 + nl (cnt x.2.1) + i) (0 + nl (cnt x.2.1) + i + 1) e j n = eqr (cnt x.2.2.1) i (i + 1) e j n
    rw [Nat.zero_add, eqr_apl b01 (by omega), eqr_apr b0 b1 hi]
  | 2, _ =>
    have hi : i < nl (cnt x.2.2.2) := hi
    show eqr _ (0 + nl (cnt x.2.1) + nl (cnt x.2.2.1) + i) (0 + nl (cnt x.2.1) + nl (cnt x.2.2.1) + i + 1) e j n = eqr (cnt x.2.2.2) i (i + 1) e j n
    rw [Nat.zero_add, ← n01, eqr_apr b01 b2 hi]
theorem eqr_s {c e : List Int32} {i m j n : Nat} : eqr c i m e j n = eqr e j n c i m := propext ⟨eqr_symm, eqr_symm⟩
theorem eqT2 {x : Tv} {s i : Nat} {e : List Int32} {j n : Nat} (h : TvG x) (hs : s < 3) (hi : i < nl (cnt (pk x s))) : eqr e j n (trcT x) (ofs x s + i) (ofs x s + i + 1) = eqr e j n (cnt (pk x s)) i (i + 1) := by
  rw [eqr_s, eqT h hs hi, eqr_s]
theorem pos_ex {x : Tv} {k : Nat} (hk : k < ofs x 3) : ∃ s i, s < 3 ∧ i < nl (cnt (pk x s)) ∧ k = ofs x s + i := by
  have e1 : ofs x 1 = ofs x 0 + nl (cnt (pk x 0)) := rfl
  have e2 : ofs x 2 = ofs x 1 + nl (cnt (pk x 1)) := rfl
  have e3 : ofs x 3 = ofs x 2 + nl (cnt (pk x 2)) := rfl
  have e0 : ofs x 0 = 0 := rfl
  by_cases a : k < ofs x 1
  · exact ⟨0, k, by omega, by omega, by omega⟩
  · by_cases b : k < ofs x 2
    · exact ⟨1, k - ofs x 1, by omega, by omega, by omega⟩
    · exact ⟨2, k - ofs x 2, by omega, by omega, by omega⟩
/-- a line stands in some file -/
def stQ (C : Nat → List Int32) (σ l fr to : Nat) : Prop := ∃ s i, fr ≤ s ∧ s ≤ to ∧ i < (if s = σ then l else nl (C s)) ∧ aln (C σ) (C s) l i
theorem frs_st {x : Tv} {C : Nat → List Int32} {s i : Nat} (h : TvG x) (hC : ∀ s, s < 3 → C s = cnt (pk x s)) (hs : s < 3) (hi : i < nl (C s)) : frs (trcT x) (ofs x s + i) ↔ ¬ stQ C s i 0 s := by
  have hi' : i < nl (cnt (pk x s)) := by rw [← hC s hs]; exact hi
  constructor
  · intro hf ⟨s', i', _, h2, h3, h4⟩
    have hs' : s' < 3 := by omega
    have key : i' < nl (cnt (pk x s')) ∧ ofs x s' + i' < ofs x s + i := by
      by_cases e : s' = s
      · subst e
        rw [if_pos rfl] at h3
        exact ⟨by omega, by omega⟩
      · rw [if_neg e, hC s' hs'] at h3
        have : ofs x (s' + 1) ≤ ofs x s := ofs_le (by omega)
        have e5 : ofs x (s' + 1) = ofs x s' + nl (cnt (pk x s')) := rfl
        exact ⟨h3, by omega⟩
    refine hf _ key.2 ?_
    rw [eqT h hs' key.1, eqT2 h hs hi', eqr_s, ← hC s hs, ← hC s' hs']
    exact h4
  · intro hn k hk he
    have h3 : ofs x (s + 1) ≤ ofs x 3 := ofs_le (by omega)
    have e5 : ofs x (s + 1) = ofs x s + nl (cnt (pk x s)) := rfl
    obtain ⟨s', i', a, b, c⟩ := pos_ex (x := x) (k := k) (by omega)
    subst c
    have hle : s' ≤ s := by
      rcases Nat.lt_or_ge s s' with q | q
      · have : ofs x (s + 1) ≤ ofs x s' := ofs_le (by omega)
        omega
      · exact q
    rw [eqT h a b, eqT2 h hs hi', eqr_s, ← hC s hs, ← hC s' a] at he
    refine hn ⟨s', i', Nat.zero_le _, hle, ?_, he⟩
    by_cases e : s' = s
    · subst e
      rw [if_pos rfl]
      omega
    · rw [if_neg e, hC s' a]; exact b
theorem hoc_pos {c e : List Int32} {l : Nat} : ∀ k : Nat, 0 < hoc c e l k ↔ ∃ j, j < k ∧ eqr c j (j + 1) e l (l + 1)
  | 0 => ⟨fun w => absurd w (by show ¬ (0 : Int) < 0; omega), fun ⟨j, hj, _⟩ => absurd hj (Nat.not_lt_zero _)⟩
  | k + 1 => by
    have ih := hoc_pos (c := c) (e := e) (l := l) k
    have bd := hoc_bd c e l k
    by_cases q : eqr c k (k + 1) e l (l + 1)
    · rw [hoc_t q]
      exact ⟨fun _ => ⟨k, by omega, q⟩, fun _ => by omega⟩
    · rw [hoc_f q, ih]
      exact ⟨fun ⟨j, a, b⟩ => ⟨j, by omega, b⟩, fun ⟨j, a, b⟩ => ⟨j, by
        rcases Nat.lt_or_ge j k with w | w
        · exact w
        · have : j = k := by omega
          rw [this] at b; exact absurd b q, b⟩⟩
theorem hoc_e {c e e' : List Int32} {l l' : Nat} (h : ∀ j, eqr c j (j + 1) e l (l + 1) = eqr c j (j + 1) e' l' (l' + 1)) : ∀ k : Nat, hoc c e l k = hoc c e' l' k
  | 0 => rfl
  | k + 1 => by
    by_cases q : eqr c k (k + 1) e l (l + 1)
    · rw [hoc_t q, hoc_t (by rw [← h]; exact q), hoc_e h k]
    · rw [hoc_f q, hoc_f (by rw [← h]; exact q), hoc_e h k]
theorem st_35 {x y : Tv} {C : Nat → List Int32} {s i : Nat} (hx : TvG x) (hy : TvG y) (hC : ∀ s, s < 3 → C s = cnt (pk x s)) (hE : ∀ s, s < 3 → C (3 + s) = cnt (pk y s)) (hs : s < 3) (hi : i < nl (C s)) : (0 < hoc (trcT y) (trcT x) (ofs x s + i) (nl (trcT y))) ↔ stQ C s i 3 5 := by
  have hi' : i < nl (cnt (pk x s)) := by rw [← hC s hs]; exact hi
  rw [hoc_pos, trc_nl hy]
  constructor
  · intro ⟨k, hk, he⟩
    obtain ⟨s', i', a, b, c⟩ := pos_ex hk
    subst c
    rw [eqT hy a b, eqT2 hx hs hi', eqr_s, ← hC s hs, ← hE s' a] at he
    refine ⟨3 + s', i', by omega, by omega, ?_, he⟩
    rw [if_neg (by omega), hE s' a]; exact b
  · intro ⟨s', i', a, b, c, d⟩
    obtain ⟨u, hu⟩ : ∃ u, s' = 3 + u := ⟨s' - 3, by omega⟩
    subst hu
    have hu3 : u < 3 := by omega
    rw [if_neg (by omega), hE u hu3] at c
    have h3 : ofs y (u + 1) ≤ ofs y 3 := ofs_le (by omega)
    have e5 : ofs y (u + 1) = ofs y u + nl (cnt (pk y u)) := rfl
    refine ⟨ofs y u + i', by omega, ?_⟩
    rw [eqT hy hu3 c, eqT2 hx hs hi', eqr_s, ← hC s hs, ← hE u hu3]
    exact d
theorem st_11 {C : Nat → List Int32} {l : Nat} : stQ C 0 l 1 1 ↔ 0 < hoc (C 1) (C 0) l (nl (C 1)) := by
  rw [hoc_pos]
  constructor
  · intro ⟨s, i, a, b, c, e⟩
    have es : s = 1 := by omega
    subst es
    rw [if_neg (by decide)] at c
    exact ⟨i, c, by rw [eqr_s]; exact e⟩
  · intro ⟨i, c, e⟩
    exact ⟨1, i, Nat.le_refl _, Nat.le_refl _, by rw [if_neg (by decide)]; exact c, by unfold aln; rw [eqr_s]; exact e⟩

theorem kn0 {s : State} {args : Array Value} {scr : Cell} (htl : ∀ w ∈ lw_tbl, w.before args s = true) (h1 : s.isArrayOf scr .int) (h2 : scr.vm ≠ .unknown) : ∃ (D : va_G) (E : Nat → ClassId), cm_K (D, E, scr) s := by
  have hts : ∀ w ∈ cm_tb, w.before args s = true := fun w hw => htl w (cm_tbs hw)
  have hK : ∀ ci, ci < 8 → ∃ (cC : ClassId) (iS : Nat → Nat), u_Kn s (cm_R ci) (cm_TT ci) (cm_nf ci) cC iS := fun ci h => by
    have hi := hts _ (cm_in0 ci h).1
    have hj := cm_uin h
    match ci, h, hi, hj with
    | 0, _, hi, hj => exact u_known hts hj hi
    | 1, _, hi, hj => exact u_known hts hj hi
    | 2, _, hi, hj => exact u_known hts hj hi
    | 3, _, hi, hj => exact u_known hts hj hi
    | 4, _, hi, hj => exact u_known hts hj hi
    | 5, _, hi, hj => exact u_known hts hj hi
    | 6, _, hi, hj => exact u_known hts hj hi
    | 7, _, hi, hj => exact u_known hts hj hi
    | n + 8, h, _, _ => exact absurd h (by omega)
  have hf0 : ∀ ci : Nat, ∃ q : ClassId × (Nat → Nat), ci < 8 → u_Kn s (cm_R ci) (cm_TT ci) (cm_nf ci) q.1 q.2 := fun ci => by
    by_cases h : ci < 8
    · obtain ⟨a, b, c⟩ := hK ci h
      exact ⟨(a, b), fun _ => c⟩
    · obtain ⟨a, b, c⟩ := hK 0 (by decide)
      exact ⟨(a, b), fun z => absurd z h⟩
  obtain ⟨f, hf⟩ := Classical.axiomOfChoice hf0
  obtain ⟨c20, k20, p20, a1, a2, a3⟩ := Cond.arrayClass_spec (hts (.arrayClass .int) (by decide +kernel))
  obtain ⟨c21, k21, p21, a4, a5, a6⟩ := Cond.arrayClass_spec (hts (.arrayClass .long) (by decide +kernel))
  have o0 := htl (.arrayOver (.object RX0)) (by decide +kernel)
  have o4 := htl (.arrayOver (.object RX4)) (by decide +kernel)
  have o5 := htl (.arrayOver (.object RX5)) (by decide +kernel)
  obtain ⟨p0, c0, k0, b1, -, b3, b4, b5⟩ := Cond.arrayOver_spec o0
  obtain ⟨p4, c4, k4, d1, -, d3, d4, d5⟩ := Cond.arrayOver_spec o4
  obtain ⟨p5, c5, k5, e1, -, e3, e4, e5⟩ := Cond.arrayOver_spec o5
  refine ⟨(fun k => (f k).1, fun k => (f k).2), fun k => if k = 20 then c20 else if k = 21 then c21 else if k = 22 then c0 else if k = 26 then c4 else c5, ⟨fun k q hq => ?_, fun k q hq => ?_⟩, h1, h2, va_AO.of o0, va_AO.of o4, va_AO.of o5⟩
  · have hk : k < 8 := (List.getElem?_eq_some_iff.mp hq).1
    rw [cm_cls hk] at hq
    cases hq
    exact hf k hk
  · match k, hq with
    | 0, hq => cases hq; exact ⟨fun n z => ⟨fun k h => (by cases h), k20, a2, p20, a3⟩, a1⟩
    | 1, hq => cases hq; exact ⟨fun n z => ⟨fun k h => (by cases h), k21, a5, p21, a6⟩, a4⟩
    | 2, hq => cases hq; exact ⟨fun n z => ⟨fun k h => (by cases h), k0, b3, p0, b4⟩, k0, p0, b3, b4, b1, b5⟩
    | 3, hq => cases hq; exact ⟨fun n z => ⟨fun k h => (by cases h), k4, d3, p4, d4⟩, k4, p4, d3, d4, d1, d5⟩
    | 4, hq => cases hq; exact ⟨fun n z => ⟨fun k h => (by cases h), k5, e3, p5, e4⟩, k5, p5, e3, e4, e1, e5⟩
    | k + 5, hq => simp [cm_tys] at hq

theorem Fr.bkq {T : cm_T} {M M1 : cm_M} {lo n β : Nat} (h : Fr M M1 lo n) (hd : β + 134 ≤ lo ∨ lo + n ≤ β) (hG : BkG T M β) : BkG T M1 β ∧ bkv M1 β = bkv M β := by
  obtain ⟨hK, hz, hT, hW, hA⟩ := id hG
  obtain ⟨hn, hn16⟩ := hG.n
  have e0 : bsz M1 β = bsz M β := by unfold bsz; rw [h.1 β (by omega)]
  have hb : bkv M1 β = bkv M β := by
    refine bkv_eq (e0.trans hn) (fun v hv => ?_) (fun v hv => bkv_ge (by omega))
    rw [bkv_lt hv, h.1 (β + 2) (by omega), h.1 (β + 3) (by omega), h.tvq (by omega) (hT v (by omega))]
  refine ⟨⟨by rw [h.2]; exact hK, by rw [e0]; exact hz, fun v hv => h.trq (by omega) (hT v hv), by rw [hb]; exact hW, ?_⟩, hb⟩
  rw [hb]
  intro v hv
  rw [h.1 (β + 4) (by omega)]
  exact hA v hv
def bkE : Bk := (0, fun _ => bkr0)
/-- the object's cells, one behind the other -/
def TCM (T : cm_T) (R : Nat → Int → Option Nat) (x : Nat) : Prop := T.1 x = 7 ∧ (R x 0 = some (x + 1) ∧ R x 1 = some (x + 2) ∧ R x 2 = some (x + 3) ∧ R x 3 = some (x + 137) ∧ R x 4 = some (x + 138) ∧ R x 5 = some (x + 283) ∧ R x 6 = some (x + 291) ∧ R x 7 = some (x + 299) ∧ R x 8 = some (x + 302) ∧ R x 13 = some (x + 305)) ∧ (T.1 (x + 1) = 26 ∧ T.1 (x + 2) = 26 ∧ T.1 (x + 137) = 22 ∧ T.1 (x + 305) = 20) ∧ (T.2.1 (x + 1) = 6 ∧ T.2.1 (x + 2) = 4 ∧ T.2.1 (x + 137) = 3 ∧ T.2.1 (x + 305) = 6) ∧ (∀ r : Nat, r < 6 → R (x + 1) (r : Int) = some (x + 306 + 2 * r) ∧ T.1 (x + 306 + 2 * r) = 5 ∧ R (x + 306 + 2 * r) 0 = some (x + 307 + 2 * r) ∧ T.1 (x + 307 + 2 * r) = 20 ∧ T.2.1 (x + 307 + 2 * r) = 40) ∧ (∀ t : Nat, t < 4 → R (x + 2) (t : Int) = some (x + 318 + 2 * t) ∧ T.1 (x + 318 + 2 * t) = 5 ∧ R (x + 318 + 2 * t) 0 = some (x + 319 + 2 * t) ∧ T.1 (x + 319 + 2 * t) = 20 ∧ T.2.1 (x + 319 + 2 * t) = 60)
/-- what is only written aside -/
def SCR (T : cm_T) (M : cm_M) (x : Nat) : Prop := (MgG T M (x + 138) ∧ M.1 (x + 138) 2 = tb false) ∧ (T.1 (x + 141) = 27 ∧ T.2.1 (x + 141) = 16 ∧ ∀ i : Nat, i < 16 → M.2.2 (x + 141) (i : Int) = some (x + 155 + 8 * i) ∧ TrG T M (x + 155 + 8 * i)) ∧ (TrG T M (x + 283) ∧ TrG T M (x + 291)) ∧ (TLL T M.2.2 (x + 299) ∧ M.1 (x + 301) 0 = w3 0 ∧ TLL T M.2.2 (x + 302) ∧ M.1 (x + 304) 0 = w3 0)
def KPT (T : cm_T) (M : cm_M) (x L : Nat) : Prop := (∀ k : Nat, k < 3 → ∀ a, M.2.2 (x + 137) (k : Int) = some a → L ≤ a ∧ a + 134 ≤ T.2.2 ∧ BkG T M a) ∧ ∀ k l : Nat, k < 3 → l < 3 → k ≠ l → ∀ a b, M.2.2 (x + 137) (k : Int) = some a → M.2.2 (x + 137) (l : Int) = some b → dB a b
def sz1 (M : cm_M) (a : Nat) (c : Int) : Prop := -1 ≤ sz M a ∧ sz M a ≤ c
def CMG (T : cm_T) (M : cm_M) (x L : Nat) : Prop := (x + 326 ≤ L ∧ L ≤ T.2.2) ∧ TCM T M.2.2 x ∧ BkG T M (x + 3) ∧ KPT T M x L ∧ SCR T M x ∧ (∀ r : Nat, r < 6 → sz1 M (x + 306 + 2 * r) 40) ∧ (∀ t : Nat, t < 4 → sz1 M (x + 318 + 2 * t) 60)
/-- rows, texts, the book, the kept ones, what is told: a number, the upper and the lower one; the last finding, how many of each -/
abbrev St : Type := (Nat → Fl) × (Nat → Fl) × Bk × (Nat → Bk) × Int32 × Int64 × Int64 × Int32 × (Nat → Int32)
noncomputable def cKp (M : cm_M) (x k : Nat) : Bk := match M.2.2 (x + 137) (k : Int) with
  | some a => bkv M a
  | none => bkE
noncomputable def cRw (M : cm_M) (x r : Nat) : Fl := if r < 6 then fl M (x + 306 + 2 * r) else none
noncomputable def cTx (M : cm_M) (x t : Nat) : Fl := if t < 4 then fl M (x + 318 + 2 * t) else none
noncomputable def cCt (M : cm_M) (x k : Nat) : Int32 := if k < 6 then M.1 (x + 305) (k : Int) else w3 0
noncomputable def cKq (M : cm_M) (x k : Nat) : Bk := if k < 3 then cKp M x k else bkE
noncomputable def cst (M : cm_M) (x : Nat) : St := (cRw M x, cTx M x, bkv M (x + 3), cKq M x, M.1 x 9, M.2.1 x 10, M.2.1 x 11, M.1 x 12, cCt M x)
def St.r (s : St) : Nat → Fl := s.1
def St.t (s : St) : Nat → Fl := s.2.1
def St.b (s : St) : Bk := s.2.2.1
def St.k (s : St) : Nat → Bk := s.2.2.2.1
def St.o (s : St) : Int32 := s.2.2.2.2.1
def St.u (s : St) : Int64 := s.2.2.2.2.2.1
def St.l (s : St) : Int64 := s.2.2.2.2.2.2.1
def St.f (s : St) : Int32 := s.2.2.2.2.2.2.2.1
def St.c (s : St) : Nat → Int32 := s.2.2.2.2.2.2.2.2
noncomputable def up {α : Type} (g : Nat → α) (k : Nat) (v : α) : Nat → α := fun q => if q = k then v else g q
noncomputable def stR (s : St) (r : Nat) (F : Fl) : St := (up s.1 r F, s.2)
noncomputable def stT (s : St) (t : Nat) (F : Fl) : St := (s.1, up s.2.1 t F, s.2.2)
def stB (s : St) (B : Bk) : St := (s.1, s.2.1, B, s.2.2.2)
def stO (s : St) (v : Int32) : St := (s.1, s.2.1, s.2.2.1, s.2.2.2.1, v, s.2.2.2.2.2)
def stU (s : St) (u l : Int64) : St := (s.1, s.2.1, s.2.2.1, s.2.2.2.1, s.2.2.2.2.1, u, l, s.2.2.2.2.2.2.2)
/-- a finding -/
noncomputable def stF (s : St) (v : Int32) : St := (s.1, s.2.1, s.2.2.1, s.2.2.2.1, s.2.2.2.2.1, s.2.2.2.2.2.1, s.2.2.2.2.2.2.1, v, if w3 1 ≤ v ∧ v ≤ w3 5 then up s.2.2.2.2.2.2.2.2 v.toInt.toNat (s.2.2.2.2.2.2.2.2 v.toInt.toNat + w3 1) else s.2.2.2.2.2.2.2.2)
theorem cm_pl {T : cm_T} {M : cm_M} {x r : Nat} (h : TCM T M.2.2 x) (hr : r < 6) : pl M (x + 306 + 2 * r) = x + 307 + 2 * r := pl_eq (h.2.2.2.2.1 r hr).2.2.1
theorem cm_plt {T : cm_T} {M : cm_M} {x t : Nat} (h : TCM T M.2.2 x) (hr : t < 4) : pl M (x + 318 + 2 * t) = x + 319 + 2 * t := pl_eq (h.2.2.2.2.2 t hr).2.2.1
theorem CMG.row {T : cm_T} {M : cm_M} {x L r : Nat} (h : CMG T M x L) (hr : r < 6) : Sg T M (x + 306 + 2 * r) ∧ pl M (x + 306 + 2 * r) = x + 307 + 2 * r ∧ T.2.1 (x + 307 + 2 * r) = 40 := by
  obtain ⟨a1, a2, a3, a4, a5⟩ := h.2.1.2.2.2.2.1 r hr
  have p := cm_pl h.2.1 hr
  obtain ⟨s1, s2⟩ := h.2.2.2.2.2.1 r hr
  exact ⟨⟨a2, by rw [p]; exact a3, by rw [p]; exact a4, s1, by rw [p, a5]; exact s2, by rw [p, a5]; decide⟩, p, a5⟩
theorem CMG.txt {T : cm_T} {M : cm_M} {x L t : Nat} (h : CMG T M x L) (hr : t < 4) : Sg T M (x + 318 + 2 * t) ∧ pl M (x + 318 + 2 * t) = x + 319 + 2 * t ∧ T.2.1 (x + 319 + 2 * t) = 60 := by
  obtain ⟨a1, a2, a3, a4, a5⟩ := h.2.1.2.2.2.2.2 t hr
  have p := cm_plt h.2.1 hr
  obtain ⟨s1, s2⟩ := h.2.2.2.2.2.2 t hr
  exact ⟨⟨a2, by rw [p]; exact a3, by rw [p]; exact a4, s1, by rw [p, a5]; exact s2, by rw [p, a5]; decide⟩, p, a5⟩
/-- only cells of the object's own have changed -/
def FrC (M M1 : cm_M) (x L : Nat) : Prop := ∀ q : Nat, q < x ∨ (x + 326 ≤ q ∧ q < L) → M1.1 q = M.1 q ∧ M1.2.1 q = M.2.1 q ∧ M1.2.2 q = M.2.2 q
theorem FrC.rf {M : cm_M} {x L : Nat} : FrC M M x L := fun _ _ => ⟨rfl, rfl, rfl⟩
theorem FrC.trans {M M1 M2 : cm_M} {x L : Nat} (h : FrC M M1 x L) (k : FrC M1 M2 x L) : FrC M M2 x L := fun q hq => ⟨(k q hq).1.trans (h q hq).1, (k q hq).2.1.trans (h q hq).2.1, (k q hq).2.2.trans (h q hq).2.2⟩
theorem Fr.c {M M1 : cm_M} {x L lo n : Nat} (h : Fr M M1 lo n) (h1 : x ≤ lo) (h2 : lo + n ≤ x + 326) : FrC M M1 x L := fun q hq => ⟨h.1 q (by omega), by rw [h.2], by rw [h.2]⟩
theorem Fr.scr {T : cm_T} {M M1 : cm_M} {x lo n : Nat} (h : Fr M M1 lo n) (hd : x + 305 ≤ lo ∨ lo + n ≤ x + 138) (hS : SCR T M x) : SCR T M1 x := by
  obtain ⟨⟨⟨g1, ⟨g2, g3, g4⟩, g5⟩, g6⟩, ⟨l1, l2, l3⟩, ⟨t1, t2⟩, s1, s2, s3, s4⟩ := hS
  refine ⟨⟨⟨by rw [h.2]; exact g1, ⟨?_, ?_, ?_⟩, ?_⟩, ?_⟩, ⟨l1, l2, fun i hi => ⟨by rw [h.2]; exact (l3 i hi).1, h.trq (by omega) (l3 i hi).2⟩⟩, ⟨h.trq (by omega) t1, h.trq (by omega) t2⟩, by rw [h.2]; exact s1, ?_, by rw [h.2]; exact s3, ?_⟩
  · rw [h.1 _ (by omega)]; exact g2
  · rw [h.1 _ (by omega)]; exact g3
  · rw [h.1 _ (by omega)]; exact g4
  · rw [h.szq (by omega)]; exact g5
  · rw [h.1 _ (by omega)]; exact g6
  · rw [h.1 _ (by omega)]; exact s2
  · rw [h.1 _ (by omega)]; exact s4
theorem Fr.kpt {T : cm_T} {M M1 : cm_M} {x L lo n : Nat} (h : Fr M M1 lo n) (hd : lo + n ≤ L) (hK : KPT T M x L) : KPT T M1 x L ∧ cKq M1 x = cKq M x := by
  refine ⟨⟨fun k hk a ha => ?_, fun k l hk hl hkl a b ha hb => ?_⟩, funext fun k => ?_⟩
  · rw [h.2] at ha
    obtain ⟨b1, b2, b3⟩ := hK.1 k hk a ha
    exact ⟨b1, b2, (h.bkq (by omega) b3).1⟩
  · rw [h.2] at ha hb
    exact hK.2 k l hk hl hkl a b ha hb
  · unfold cKq
    by_cases q : k < 3
    · rw [if_pos q, if_pos q]
      unfold cKp
      rw [h.2]
      cases e : M.2.2 (x + 137) (k : Int) with
      | none => rfl
      | some a =>
        obtain ⟨b1, b2, b3⟩ := hK.1 k q a e
        exact (h.bkq (by omega) b3).2
    · rw [if_neg q, if_neg q]
theorem Fr.rwq {T : cm_T} {M M1 : cm_M} {x lo n r : Nat} (h : Fr M M1 lo n) (hT : TCM T M.2.2 x) (hr : r < 6) (hd : x + 308 + 2 * r ≤ lo ∨ lo + n ≤ x + 306 + 2 * r) : fl M1 (x + 306 + 2 * r) = fl M (x + 306 + 2 * r) ∧ sz M1 (x + 306 + 2 * r) = sz M (x + 306 + 2 * r) := ⟨h.flq (by omega) (by rw [cm_pl hT hr]; omega), h.szq (by omega)⟩
theorem Fr.txq {T : cm_T} {M M1 : cm_M} {x lo n r : Nat} (h : Fr M M1 lo n) (hT : TCM T M.2.2 x) (hr : r < 4) (hd : x + 320 + 2 * r ≤ lo ∨ lo + n ≤ x + 318 + 2 * r) : fl M1 (x + 318 + 2 * r) = fl M (x + 318 + 2 * r) ∧ sz M1 (x + 318 + 2 * r) = sz M (x + 318 + 2 * r) := ⟨h.flq (by omega) (by rw [cm_plt hT hr]; omega), h.szq (by omega)⟩
/-- one part of the object has been made another one: the others stay -/
theorem cm_part {T : cm_T} {M M1 : cm_M} {x L lo n : Nat} (hC : CMG T M x L) (h : Fr M M1 lo n) (h2 : lo + n ≤ x + 326) :
    TCM T M1.2.2 x ∧ (KPT T M1 x L ∧ cKq M1 x = cKq M x) ∧ (x + 137 ≤ lo ∨ lo + n ≤ x + 3 → BkG T M1 (x + 3) ∧ bkv M1 (x + 3) = bkv M (x + 3)) ∧ (x + 305 ≤ lo ∨ lo + n ≤ x + 138 → SCR T M1 x) ∧ (lo + n ≤ x + 306 ∨ x + 318 ≤ lo → (∀ r : Nat, r < 6 → sz1 M1 (x + 306 + 2 * r) 40) ∧ cRw M1 x = cRw M x) ∧ (lo + n ≤ x + 318 → (∀ t : Nat, t < 4 → sz1 M1 (x + 318 + 2 * t) 60) ∧ cTx M1 x = cTx M x) ∧ (lo + n ≤ x + 305 ∨ x + 306 ≤ lo → cCt M1 x = cCt M x) ∧ (x + 1 ≤ lo → M1.1 x = M.1 x) ∧ M1.2.1 = M.2.1 := by
  obtain ⟨⟨L1, L2⟩, hT, hB, hK, hS, hr, ht⟩ := id hC
  refine ⟨by rw [h.2]; exact hT, h.kpt (by omega) hK, fun d => h.bkq (by omega) hB, fun d => h.scr (by omega) hS, fun d => ⟨fun r q => ?_, funext fun r => ?_⟩, fun d => ⟨fun r q => ?_, funext fun r => ?_⟩, fun d => funext fun k => ?_, fun d => h.1 x (by omega), by rw [h.2]⟩
  · unfold sz1; rw [(h.rwq hT q (by omega)).2]; exact hr r q
  · unfold cRw
    by_cases q : r < 6
    · rw [if_pos q, if_pos q, (h.rwq hT q (by omega)).1]
    · rw [if_neg q, if_neg q]
  · unfold sz1; rw [(h.txq hT q (by omega)).2]; exact ht r q
  · unfold cTx
    by_cases q : r < 4
    · rw [if_pos q, if_pos q, (h.txq hT q (by omega)).1]
    · rw [if_neg q, if_neg q]
  · unfold cCt; rw [h.1 (x + 305) (by omega)]

/-- a file: missing, or its numbers -/
abbrev Fl : Type := Option (List Int32)
def gt (L : List Int32) (k : Nat) : Int32 := L.getD k 0
def dstep (x : Int32) : Int := if x = w3 10 then 1 else if x = w3 13 then -1 else 0
def dp (L : List Int32) : Nat → Int
  | 0 => 0
  | k + 1 => dp L k + dstep (gt L k)
def zc (L : List Int32) : Nat → Nat
  | 0 => 0
  | k + 1 => zc L k + (if dp L k = 0 then 1 else 0)
def zs (L : List Int32) : Nat → List Nat
  | 0 => []
  | k + 1 => zs L k ++ (if dp L k = 0 then [k] else [])
def Bal (L : List Int32) : Prop := (∀ k, k ≤ L.length → 0 ≤ dp L k) ∧ dp L L.length = 0
/-- how many lines -/
def nl (L : List Int32) : Nat := zc L L.length
/-- where line i begins -/
def stt (L : List Int32) (i : Nat) : Nat := (zs L (L.length + 1)).getD i 0
theorem zs_len (L : List Int32) : ∀ k, (zs L k).length = zc L k
  | 0 => rfl
  | k + 1 => by
    simp only [zs, zc, List.length_append, zs_len L k]
    split <;> simp
theorem zc_mono (L : List Int32) {j k : Nat} (h : j ≤ k) : zc L j ≤ zc L k := by
  induction h with
  | refl => exact Nat.le_refl _
  | step h ih => simp only [zc]; omega
theorem zc_lt (L : List Int32) {j k : Nat} (h : j < k) (hj : dp L j = 0) : zc L j < zc L k := by
  have := zc_mono L (show j + 1 ≤ k from h)
  simp only [zc, hj, if_true] at this
  omega
theorem zs_at (L : List Int32) : ∀ (k j : Nat), j < k → dp L j = 0 → (zs L k)[zc L j]? = some j
  | 0, j, h, _ => absurd h (by omega)
  | k + 1, j, h, hj => by
    simp only [zs]
    by_cases e : j = k
    · subst e
      rw [List.getElem?_append_right (by rw [zs_len]; exact Nat.le_refl _), zs_len, Nat.sub_self, if_pos hj]
      rfl
    · have h2 : j < k := by omega
      rw [List.getElem?_append_left (by rw [zs_len]; exact zc_lt L h2 hj)]
      exact zs_at L k j h2 hj
theorem zs_mem (L : List Int32) : ∀ (k i : Nat), i < zc L k → ∃ j, j < k ∧ dp L j = 0 ∧ zc L j = i ∧ (zs L k)[i]? = some j
  | 0, i, h => absurd h (by simp [zc])
  | k + 1, i, h => by
    by_cases h2 : i < zc L k
    · obtain ⟨j, a, b, c, d⟩ := zs_mem L k i h2
      refine ⟨j, by omega, b, c, ?_⟩
      simp only [zs]
      rw [List.getElem?_append_left (by rw [zs_len]; exact h2)]
      exact d
    · simp only [zc] at h
      by_cases e : dp L k = 0
      · rw [if_pos e] at h
        have e2 : zc L k = i := by omega
        refine ⟨k, by omega, e, e2, ?_⟩
        rw [← e2]
        exact zs_at L (k + 1) k (by omega) e
      · rw [if_neg e] at h
        omega
theorem nl_len {L : List Int32} (h : Bal L) : zc L (L.length + 1) = nl L + 1 := by
  simp only [zc, h.2, if_true, nl]
theorem stt_at {L : List Int32} {j : Nat} (h : j ≤ L.length) (hj : dp L j = 0) : stt L (zc L j) = j := by
  unfold stt
  rw [List.getD_eq_getElem?_getD, zs_at L _ j (by omega) hj]
  rfl
theorem stt_spec {L : List Int32} (hb : Bal L) {i : Nat} (h : i ≤ nl L) : stt L i ≤ L.length ∧ dp L (stt L i) = 0 ∧ zc L (stt L i) = i := by
  obtain ⟨j, a, b, c, d⟩ := zs_mem L (L.length + 1) i (by rw [nl_len hb]; omega)
  have e : stt L i = j := by
    unfold stt
    rw [List.getD_eq_getElem?_getD, d]
    rfl
  rw [e]
  exact ⟨by omega, b, c⟩
theorem stt_lt {L : List Int32} (hb : Bal L) {i j : Nat} (h : i < j) (hj : j ≤ nl L) : stt L i < stt L j := by
  obtain ⟨a1, a2, a3⟩ := stt_spec hb (show i ≤ nl L by omega)
  obtain ⟨b1, b2, b3⟩ := stt_spec hb hj
  rcases Nat.lt_or_ge (stt L i) (stt L j) with q | q
  · exact q
  · have := zc_mono L q
    omega
theorem stt_le {L : List Int32} (hb : Bal L) {i j : Nat} (h : i ≤ j) (hj : j ≤ nl L) : stt L i ≤ stt L j := by
  rcases Nat.lt_or_ge i j with q | q
  · exact Nat.le_of_lt (stt_lt hb q hj)
  · have e : i = j := by omega
    rw [e]
    exact Nat.le_refl _
theorem stt_0 (L : List Int32) : stt L 0 = 0 := stt_at (L := L) (j := 0) (Nat.zero_le _) rfl
theorem stt_n {L : List Int32} (hb : Bal L) : stt L (nl L) = L.length := stt_at (Nat.le_refl _) hb.2
theorem nl_le (L : List Int32) : ∀ k, zc L k ≤ k
  | 0 => Nat.le_refl _
  | k + 1 => by
    have := nl_le L k
    simp only [zc]
    split <;> omega
/-- what a file in memory is -/
def rdl (f : Int → Int32) (o : Int) (n : Nat) : List Int32 := (List.range n).map (fun k : Nat => f (o + (k : Int)))
theorem rdl_len (f : Int → Int32) (o : Int) (n : Nat) : (rdl f o n).length = n := by simp [rdl]
theorem rdl_at {f : Int → Int32} {o : Int} {n k : Nat} (h : k < n) : gt (rdl f o n) k = f (o + (k : Int)) := by
  simp [gt, rdl, List.getD_eq_getElem?_getD, h]
theorem rdl_cong {f g : Int → Int32} {o o' : Int} {n : Nat} (h : ∀ k : Nat, k < n → f (o + (k : Int)) = g (o' + (k : Int))) : rdl f o n = rdl g o' n := by
  unfold rdl
  apply List.map_congr_left
  intro k hk
  exact h k (List.mem_range.mp hk)
theorem rdl_ext {L : List Int32} {f : Int → Int32} {o : Int} {n : Nat} (hn : L.length = n) (h : ∀ k : Nat, k < n → f (o + (k : Int)) = gt L k) : rdl f o n = L := by
  apply List.ext_getElem?
  intro k
  by_cases hk : k < n
  · rw [List.getElem?_eq_getElem (by rw [rdl_len]; exact hk), List.getElem?_eq_getElem (by omega)]
    congr 1
    have h1 := h k hk
    simp only [gt, List.getD_eq_getElem?_getD, List.getElem?_eq_getElem (show k < L.length by omega), Option.getD_some] at h1
    simp [rdl, h1]
  · rw [List.getElem?_eq_none (by rw [rdl_len]; omega), List.getElem?_eq_none (by omega)]
def flm (f : Int → Int32) (o z : Int) : Fl := if z < 0 then none else some (rdl f o z.toNat)
/-- the file of a row of the system's -/
def fl (M : cm_M) (a : Nat) : Fl := flm (M.1 (pl M a)) 0 (sz M a)
theorem flm_cong {f g : Int → Int32} {o o' z z' : Int} (hz : z = z') (h : ∀ k : Int, 0 ≤ k → k < z → f (o + k) = g (o' + k)) : flm f o z = flm g o' z' := by
  subst hz
  unfold flm
  split
  · rfl
  · congr 1
    exact rdl_cong (fun k hk => h k (by omega) (by omega))
theorem flm_some {f : Int → Int32} {o z : Int} {L : List Int32} (h : flm f o z = some L) : z = (L.length : Int) ∧ ∀ k : Nat, k < L.length → f (o + (k : Int)) = gt L k := by
  unfold flm at h
  split at h
  · cases h
  · have e := Option.some.inj h
    have hl : L.length = z.toNat := by rw [← e, rdl_len]
    refine ⟨by omega, fun k hk => ?_⟩
    rw [← e, rdl_at (by omega)]
theorem flm_none {f : Int → Int32} {o z : Int} (h : flm f o z = none) : z < 0 := by
  unfold flm at h
  split at h
  · assumption
  · cases h
theorem flm_mk {f : Int → Int32} {o z : Int} {L : List Int32} (hz : z = (L.length : Int)) (h : ∀ k : Nat, k < L.length → f (o + (k : Int)) = gt L k) : flm f o z = some L := by
  unfold flm
  rw [if_neg (by omega)]
  congr 1
  exact rdl_ext (by omega) (fun k hk => h k (by omega))
theorem flm_mkn {f : Int → Int32} {o z : Int} (hz : z < 0) : flm f o z = none := if_pos hz
theorem flm_inj {f g : Int → Int32} {o o' z z' : Int} (h1 : -1 ≤ z) (h2 : -1 ≤ z') : (flm f o z = flm g o' z') = (z = z' ∧ ∀ k : Int, 0 ≤ k → k < z → f (o + k) = g (o' + k)) := by
  apply propext
  refine ⟨fun h => ?_, fun h => flm_cong h.1 h.2⟩
  cases hL : flm f o z with
  | none =>
    have := flm_none hL
    rw [hL] at h
    have := flm_none h.symm
    exact ⟨by omega, fun k a b => by omega⟩
  | some L =>
    rw [hL] at h
    obtain ⟨a1, a2⟩ := flm_some hL
    obtain ⟨b1, b2⟩ := flm_some h.symm
    refine ⟨by omega, fun k c1 c2 => ?_⟩
    have e : k = ((k.toNat : Nat) : Int) := by omega
    rw [e, a2 _ (by omega), b2 _ (by omega)]
theorem fl_row {M : cm_M} {a : Nat} {z : Int} {f : Int → Int32} (h0 : pl M a ≠ a) (h1 : -2147483648 ≤ z) (h2 : z < 2147483648) : fl (mRow M a z f) a = flm f 0 z := by
  unfold fl
  rw [mRow_sz h1 h2, mRow_pl]
  refine flm_cong rfl (fun k c1 c2 => ?_)
  rw [Int.zero_add, mRow_in h0 c1 c2]
theorem fl_rown {M : cm_M} {a b : Nat} {z : Int} {f : Int → Int32} (n1 : b ≠ a) (n2 : b ≠ pl M a) (n3 : pl M b ≠ a) (n4 : pl M b ≠ pl M a) : fl (mRow M a z f) b = fl M b := by
  unfold fl
  rw [mRow_szn n1 n2, mRow_pl]
  refine flm_cong rfl (fun k c1 c2 => ?_)
  rw [mRow_ne (Or.inl n3) (Or.inl n4)]
theorem fl_keep {M M' : cm_M} {a : Nat} (h1 : M'.2.2 a 0 = M.2.2 a 0) (h2 : M'.1 a 1 = M.1 a 1) (h3 : M'.1 (pl M a) = M.1 (pl M a)) : fl M' a = fl M a := by
  have e : pl M' a = pl M a := by unfold pl; rw [h1]
  unfold fl sz
  rw [e, h2, h3]

def cm_Cal (d o : Nat) (i : Instr) (E : cm_E) : Prop := ∀ {p : Program} {l : Launch} {e : Env} {R : Room} {s : State} {m : MethodId} {args : Array Value} {below : List Frame} {meth : Method} {c : Code} {H : Heap} {locs : List Loc} {cells slots : Nat} {Z : State → Prop} {cc : ByteArray} {J : cm_J} {G : cm_G} {A0 : Nat → Prop} {maxL pc : Nat} {T : cm_T} {M : cm_M} {ls : Array Slot} {as r : List Value} {Φ : Option Value → cm_T → cm_M → Prop},
  cm_X p s m args meth c cc maxL J G → J.1 = o → (d + 1 ≤ R.frames ∧ 64 * (d + 1) ≤ R.locals) → decode cc pc = .ok (i, 3) → ls.size = maxL → cm_P G A0 s.heap T M H locs → (cells + E.2.2.1 ≤ R.cells ∧ slots + E.2.2.2.1 ≤ R.slots) → as.length = E.1 → cm_rk E.2.1 T as → cm_cw r ≤ 8 → E.2.2.2.2 as T M Φ →
  (∀ (v : Option Value) (T' : cm_T) (M' : cm_M) (H' : Heap) (locs' : List Loc), Φ v T' M' → cm_P G A0 s.heap T' M' H' locs' → W p l e R s m args below meth c H' locs' (cells + E.2.2.1) (slots + E.2.2.2.1) Z (F0 m (pc + 3) ls (v.toList ++ r))) →
  W p l e R s m args below meth c H locs cells slots Z (F0 m pc ls (as.reverse ++ r))
def cm_Cok (d : Nat) (J : cm_J) : Prop := (∀ q ∈ J.2.2.2.1, cm_Cal d J.1 (.invokevirtual q.1) q.2) ∧ (∀ q ∈ J.2.2.2.2.1, cm_Cal d J.1 (.invokestatic q.1) q.2) ∧ (∀ q ∈ J.2.2.2.2.2, cm_Cal d J.1 (.invokespecial q.1) q.2)
def cm_Ret (p : Program) (l : Launch) (e : Env) (R : Room) (s : State) (m : MethodId) (args : Array Value) (below : List Frame) (meth : Method) (c : Code) (cc : ByteArray) (G : cm_G) (A0 : Nat → Prop) (mc ms rt : Nat) (Z : State → Prop) (ρ : Option Value → cm_T → cm_M → Prop) : Prop :=
  ∀ (i : Instr) (v : Option Value) (pc : Nat) (T : cm_T) (M : cm_M) (H : Heap) (locs : List Loc) (cells slots : Nat) (ls : Array Slot), decode cc pc = .ok (i, 1) →
    ((i = .ireturn ∧ (rt = 1 ∨ rt = 2) ∧ ∃ x : Int32, v = some (.int x) ∧ (rt = 2 → x = 0 ∨ x = 1)) ∨ (i = .lreturn ∧ rt = 3 ∧ ∃ x : Int64, v = some (.long x)) ∨ (i = .areturn ∧ rt = 4 ∧ (v = some .null ∨ ∃ a, v = some (.ref a))) ∨ (i = .return_ ∧ rt = 0 ∧ v = none)) →
    ρ v T M → cm_P G A0 s.heap T M H locs → cells ≤ mc → slots ≤ ms → W p l e R s m args below meth c H locs cells slots Z (F0 m pc ls v.toList)
section CMT
variable {p : Program} {l : Launch} {e : Env} {R : Room} {s : State} {m : MethodId} {args : Array Value} {below : List Frame} {meth : Method} {c : Code} {H : Heap} {locs : List Loc} {cells slots : Nat} {Z : State → Prop} {cc : ByteArray} {J : cm_J} {G : cm_G} {A0 : Nat → Prop} {mc ms maxL pc ln d : Nat} {lv : cm_LV} {st : List Value} {B : Nat × Nat} {T : cm_T} {M : cm_M} {ls : Array Slot}
theorem cm_re_spec {rt : Nat} {ρ : Option Value → Prop} (h : cm_re rt st ρ) : ∃ v : Option Value, st = v.toList ∧ ρ v ∧ ((rt = 0 ∧ v = none) ∨ ((rt = 1 ∨ rt = 2) ∧ ∃ x : Int32, v = some (.int x) ∧ (rt = 2 → x = 0 ∨ x = 1)) ∨ (rt = 3 ∧ ∃ x : Int64, v = some (.long x)) ∨ (rt = 4 ∧ (v = some .null ∨ ∃ a, v = some (.ref a)))) := by
  match rt, st, h with
  | 0, [], h => exact ⟨none, rfl, h, Or.inl ⟨rfl, rfl⟩⟩
  | 1, [.int x], h => exact ⟨some (.int x), rfl, h, Or.inr (Or.inl ⟨Or.inl rfl, x, rfl, fun z => by omega⟩)⟩
  | 2, [.int x], h => exact ⟨some (.int x), rfl, h.2, Or.inr (Or.inl ⟨Or.inr rfl, x, rfl, fun _ => h.1⟩)⟩
  | 3, [.long x], h => exact ⟨some (.long x), rfl, h, Or.inr (Or.inr (Or.inl ⟨rfl, x, rfl⟩))⟩
  | 4, [.ref x], h => exact ⟨some (.ref x), rfl, h, Or.inr (Or.inr (Or.inr ⟨rfl, Or.inr ⟨x, rfl⟩⟩))⟩
  | 4, [.null], h => exact ⟨some .null, rfl, h, Or.inr (Or.inr (Or.inr ⟨rfl, Or.inl rfl⟩))⟩
theorem cm_tgt {pc : Nat} {o : Int} (h : 0 ≤ (pc : Int) + o) : (pc : Int) + o = ((((pc : Int) + o).toNat : Nat) : Int) := by omega
theorem cm_b8 {v : Int} (h1 : -128 ≤ v) (h2 : v < 128) : (Int8.ofInt v).toInt32 = w3 v := by
  apply Int32.toInt_inj.mp
  rw [Int8.toInt_toInt32, Int8.toInt_ofInt_of_le (by omega) (by omega)]
  exact (Int32.toInt_ofInt_of_le (by omega) (by omega)).symm
theorem cm_b16 {v : Int} (h1 : -32768 ≤ v) (h2 : v < 32768) : (Int16.ofInt v).toInt32 = w3 v := by
  apply Int32.toInt_inj.mp
  rw [Int16.toInt_toInt32, Int16.toInt_ofInt_of_le (by omega) (by omega)]
  exact (Int32.toInt_ofInt_of_le (by omega) (by omega)).symm
theorem cm_tsw_spec : ∀ (os : List Int) (lo x : Int) (κ : Nat → Prop), cm_tsw os lo x κ → lo ≤ x → x < lo + os.length → ∃ o, os[(x - lo).toNat]? = some o ∧ κ o.toNat
  | [], lo, x, κ, _, h1, h2 => by simp at h2; omega
  | o :: os, lo, x, κ, ⟨a, b⟩, h1, h2 => by
    by_cases hx : x = lo
    · subst hx
      exact ⟨o, by simp, a rfl⟩
    · obtain ⟨o', g1, g2⟩ := cm_tsw_spec os (lo + 1) x κ b (by omega) (by simp only [List.length_cons] at h2; omega)
      refine ⟨o', ?_, g2⟩
      rw [show (x - lo).toNat = (x - (lo + 1)).toNat + 1 by omega, List.getElem?_cons_succ]
      exact g1
theorem cm_lsw_spec (pc : Nat) : ∀ (ps : List (Int × Int)) (d x : Int) (κ : Nat → Prop), cm_lsw (ps.map (fun q => (q.1, (pc : Int) + q.2))) (pc + d) x κ → κ ((pc : Int) + Op.lookupswitch.offset ps d x).toNat
  | [], d, x, κ, h => h
  | q :: ps, d, x, κ, h => by
    obtain ⟨a, o⟩ := q
    rw [Op.lookupswitch.offset_cons]
    by_cases hx : a = x
    · rw [if_pos hx]
      exact h.1 hx.symm
    · rw [if_neg hx]
      exact cm_lsw_spec pc ps d x κ (h.2 (fun z => hx z.symm))
theorem cm_off_nn (pc : Nat) : ∀ (ps : List (Int × Int)) (d x : Int), 0 ≤ (pc : Int) + d → ps.all (fun q => decide (0 ≤ (pc : Int) + q.2)) = true → 0 ≤ (pc : Int) + Op.lookupswitch.offset ps d x
  | [], d, x, h, _ => h
  | q :: ps, d, x, h, h2 => by
    obtain ⟨a, o⟩ := q
    simp only [List.all_cons, Bool.and_eq_true, decide_eq_true_eq] at h2
    rw [Op.lookupswitch.offset_cons]
    by_cases hx : a = x
    · rw [if_pos hx]; exact h2.1
    · rw [if_neg hx]; exact cm_off_nn pc ps d x h h2.2
set_option maxHeartbeats 4000000 in
theorem cm_step (X : cm_X p s m args meth c cc maxL J G) (hd : d + 1 ≤ R.frames ∧ 64 * (d + 1) ≤ R.locals) (hm : mc ≤ R.cells ∧ ms ≤ R.slots) (hJ : cm_Cok d J) {ρ : Option Value → cm_T → cm_M → Prop} (hR : cm_Ret p l e R s m args below meth c cc G A0 mc ms J.2.2.1 Z ρ) (i0 : Instr) (hdec : decode cc pc = .ok (i0, ln)) (hok : cm_okI pc i0 ln = true)
    (hS : cm_Sit G A0 s.heap mc ms maxL lv B T M H locs cells slots ls) {κ : Nat → cm_LV → List Value → Nat × Nat → cm_T → cm_M → Prop} (h : cm_stp J (cm_nrm pc i0) ln pc lv st B T M κ ρ)
    (kk : ∀ pc' lv' st' B' T' M' H' locs' cells' slots' ls', κ pc' lv' st' B' T' M' → cm_Sit G A0 s.heap mc ms maxL lv' B' T' M' H' locs' cells' slots' ls' → W p l e R s m args below meth c H' locs' cells' slots' Z (F0 m pc' ls' st')) : W p l e R s m args below meth c H locs cells slots Z (F0 m pc ls st) := by
  have X0 := X
  obtain ⟨hx, hb, hml, hown, hini, hts, hK⟩ := X
  have S0 := hS
  obtain ⟨hP, hB1, hB2, hl⟩ := hS
  cases i0
  all_goals try (exact False.elim h)
  case iconst v =>
    have hln : ln = 1 := by simpa [cm_okI, cm_ln] using hok
    subst hln
    exact lv_iconst hx hb hdec rfl (kk _ _ _ _ _ _ _ _ _ _ _ h S0)
  case bipush v =>
    simp only [cm_okI, Bool.and_eq_true, beq_iff_eq, decide_eq_true_eq] at hok
    obtain ⟨⟨hln, g1⟩, g2⟩ := hok
    subst hln
    exact lv_bipush hx hb hdec (cm_b8 g1 g2) (kk _ _ _ _ _ _ _ _ _ _ _ h S0)
  case sipush v =>
    simp only [cm_okI, Bool.and_eq_true, beq_iff_eq, decide_eq_true_eq] at hok
    obtain ⟨⟨hln, g1⟩, g2⟩ := hok
    subst hln
    exact lv_sipush hx hb hdec (cm_b16 g1 g2) (kk _ _ _ _ _ _ _ _ _ _ _ h S0)
  case lconst n =>
    have hln : ln = 1 := by simpa [cm_okI, cm_ln] using hok
    subst hln
    refine lv_lconst hx hb hdec (v := cm_lk2 n) ?_ (kk _ _ _ _ _ _ _ _ _ _ _ h S0)
    match n with
    | 0 => rfl
    | 1 => rfl
  case aconst_null =>
    have hln : ln = 1 := by simpa [cm_okI, cm_ln] using hok
    subst hln
    exact lv_null hx hb hdec (kk _ _ _ _ _ _ _ _ _ _ _ h S0)
  case ldc_w x =>
    have hln : ln = 3 := by simpa [cm_okI, cm_ln] using hok
    subst hln
    change (match cm_il2 J.1 x with | some v => x < 1000 ∧ κ (pc + 3) lv (.int (w3 v) :: st) B T M | none => False) at h
    cases hv : cm_il2 J.1 x with
    | none => rw [hv] at h; exact h.elim
    | some v =>
      rw [hv] at h
      exact lv_ldcw hx hb hown (hts _ (cm_il_ok h.1 hv)) hdec (kk _ _ _ _ _ _ _ _ _ _ _ h.2 S0)
  case ldc2_w x =>
    have hln : ln = 3 := by simpa [cm_okI, cm_ln] using hok
    subst hln
    change (match cm_ll J.1 x with | some v => x < 1000 ∧ κ (pc + 3) lv (.long (w6 v) :: st) B T M | none => False) at h
    cases hv : cm_ll J.1 x with
    | none => rw [hv] at h; exact h.elim
    | some v =>
      rw [hv] at h
      exact lv_ldc2 hx hb hown (hts _ (cm_ll_ok h.1 hv)) hdec (kk _ _ _ _ _ _ _ _ _ _ _ h.2 S0)
  case iload k =>
    have hln : ln = 2 := by simpa [cm_okI, cm_ln] using hok
    subst hln
    change cm_lo (cm_get lv k) st (fun st => κ (pc + 2) lv st B T M) at h
    unfold cm_lo at h
    split at h
    next x hv => exact lv_iload hx hb hdec (hl.at hv) (kk _ _ _ _ _ _ _ _ _ _ _ h S0)
    next => exact h.elim
  case iload_n k =>
    have hln : ln = 1 := by simpa [cm_okI, cm_ln] using hok
    subst hln
    change cm_lo (cm_get lv (k : Nat)) st (fun st => κ (pc + 1) lv st B T M) at h
    unfold cm_lo at h
    split at h
    next x hv => exact lv_iload_n hx hb hdec rfl (hl.at hv) (kk _ _ _ _ _ _ _ _ _ _ _ h S0)
    next => exact h.elim
  case aload k =>
    have hln : ln = 2 := by simpa [cm_okI, cm_ln] using hok
    subst hln
    change cm_loa (cm_get lv k) st (fun st => κ (pc + 2) lv st B T M) at h
    unfold cm_loa at h
    split at h
    next x hv => exact lv_aload hx hb hdec (hl.at hv) (kk _ _ _ _ _ _ _ _ _ _ _ h S0)
    next hv => exact lv_aloadN hx hb hdec (hl.at hv) (kk _ _ _ _ _ _ _ _ _ _ _ h S0)
    next => exact h.elim
  case aload_n k =>
    have hln : ln = 1 := by simpa [cm_okI, cm_ln] using hok
    subst hln
    change cm_loa (cm_get lv (k : Nat)) st (fun st => κ (pc + 1) lv st B T M) at h
    unfold cm_loa at h
    split at h
    next x hv => exact lv_aload_n hx hb hdec rfl (hl.at hv) (kk _ _ _ _ _ _ _ _ _ _ _ h S0)
    next hv => exact lv_aload_nN hx hb hdec rfl (hl.at hv) (kk _ _ _ _ _ _ _ _ _ _ _ h S0)
    next => exact h.elim
  case lload k =>
    have hln : ln = 2 := by simpa [cm_okI, cm_ln] using hok
    subst hln
    change cm_lol (cm_get lv k) st (fun st => κ (pc + 2) lv st B T M) at h
    unfold cm_lol at h
    split at h
    next x hv => exact lv_lload hx hb hdec (hl.at hv) (kk _ _ _ _ _ _ _ _ _ _ _ h S0)
    next => exact h.elim
  case lload_n k =>
    have hln : ln = 1 := by simpa [cm_okI, cm_ln] using hok
    subst hln
    change cm_lol (cm_get lv (k : Nat)) st (fun st => κ (pc + 1) lv st B T M) at h
    unfold cm_lol at h
    split at h
    next x hv => exact lv_lload_n hx hb hdec rfl (hl.at hv) (kk _ _ _ _ _ _ _ _ _ _ _ h S0)
    next => exact h.elim
  case istore k =>
    have hln : ln = 2 := by simpa [cm_okI, cm_ln] using hok
    subst hln
    change cm_is lv k st (fun lv st => κ (pc + 2) lv st B T M) at h
    match st, h with
    | .int x :: r, ⟨h1, hlt, h2⟩ => exact lv_istore hx hb hdec hl.1 (hl.2 ▸ cm_bd_lt _ _ hlt) rfl (fun ls' hl' => kk _ _ _ _ _ _ _ _ _ _ _ h2 ⟨hP, hB1, hB2, cm_store1 hl h1 hl'⟩)
  case istore_n k =>
    have hln : ln = 1 := by simpa [cm_okI, cm_ln] using hok
    subst hln
    change cm_is lv (k : Nat) st (fun lv st => κ (pc + 1) lv st B T M) at h
    match st, h with
    | .int x :: r, ⟨h1, hlt, h2⟩ => exact lv_istore_n hx hb hdec rfl hl.1 (hl.2 ▸ cm_bd_lt _ _ hlt) rfl (fun ls' hl' => kk _ _ _ _ _ _ _ _ _ _ _ h2 ⟨hP, hB1, hB2, cm_store1 hl h1 hl'⟩)
  case astore k =>
    have hln : ln = 2 := by simpa [cm_okI, cm_ln] using hok
    subst hln
    change cm_rs lv k st (fun lv st => κ (pc + 2) lv st B T M) at h
    match st, h with
    | .ref x :: r, ⟨h1, hlt, h2⟩ => exact lv_astore hx hb hdec hl.1 (hl.2 ▸ cm_bd_lt _ _ hlt) rfl (fun ls' hl' => kk _ _ _ _ _ _ _ _ _ _ _ h2 ⟨hP, hB1, hB2, cm_store1 hl h1 hl'⟩)
    | .null :: r, ⟨h1, hlt, h2⟩ => exact lv_astoreN hx hb hdec hl.1 (hl.2 ▸ cm_bd_lt _ _ hlt) rfl (fun ls' hl' => kk _ _ _ _ _ _ _ _ _ _ _ h2 ⟨hP, hB1, hB2, cm_store1 hl h1 hl'⟩)
  case astore_n k =>
    have hln : ln = 1 := by simpa [cm_okI, cm_ln] using hok
    subst hln
    change cm_rs lv (k : Nat) st (fun lv st => κ (pc + 1) lv st B T M) at h
    match st, h with
    | .ref x :: r, ⟨h1, hlt, h2⟩ => exact lv_astore_n hx hb hdec rfl hl.1 (hl.2 ▸ cm_bd_lt _ _ hlt) rfl (fun ls' hl' => kk _ _ _ _ _ _ _ _ _ _ _ h2 ⟨hP, hB1, hB2, cm_store1 hl h1 hl'⟩)
    | .null :: r, ⟨h1, hlt, h2⟩ => exact lv_astore_nN hx hb hdec rfl hl.1 (hl.2 ▸ cm_bd_lt _ _ hlt) rfl (fun ls' hl' => kk _ _ _ _ _ _ _ _ _ _ _ h2 ⟨hP, hB1, hB2, cm_store1 hl h1 hl'⟩)
  case lstore k =>
    have hln : ln = 2 := by simpa [cm_okI, cm_ln] using hok
    subst hln
    change cm_ls lv k st (fun lv st => κ (pc + 2) lv st B T M) at h
    match st, h with
    | .long x :: r, ⟨h1, hlt, h2⟩ => exact lv_lstore hx hb hdec hl.1 (hl.2 ▸ cm_bd_lt _ _ hlt) rfl (fun ls' hl' => kk _ _ _ _ _ _ _ _ _ _ _ h2 ⟨hP, hB1, hB2, cm_store2 hl h1 hl'⟩)
  case lstore_n k =>
    have hln : ln = 1 := by simpa [cm_okI, cm_ln] using hok
    subst hln
    change cm_ls lv (k : Nat) st (fun lv st => κ (pc + 1) lv st B T M) at h
    match st, h with
    | .long x :: r, ⟨h1, hlt, h2⟩ => exact lv_lstore_n hx hb hdec rfl hl.1 (hl.2 ▸ cm_bd_lt _ _ hlt) rfl (fun ls' hl' => kk _ _ _ _ _ _ _ _ _ _ _ h2 ⟨hP, hB1, hB2, cm_store2 hl h1 hl'⟩)
  case iinc k n =>
    have hln : ln = 3 := by simpa [cm_okI, cm_ln] using hok
    subst hln
    change cm_in lv k n (fun lv => κ (pc + 3) lv st B T M) at h
    unfold cm_in at h
    split at h
    next x hv =>
      obtain ⟨i, hi⟩ := List.getElem?_of_mem ((cm_as_iff lv k (.int x)).mpr hv)
      exact lv_iinc hx hb hdec hl.1 hi rfl (cm_has_lt hl hv) rfl (fun ls' hl' => kk _ _ _ _ _ _ _ _ _ _ _ h.2 ⟨hP, hB1, hB2, cm_store1 hl h.1 hl'⟩)
    next => exact h.elim
  case iadd =>
    have hln : ln = 1 := by simpa [cm_okI, cm_ln] using hok
    subst hln
    match st, h with
    | .int y :: .int x :: r, h => exact lv_iadd hx hb hdec (kk _ _ _ _ _ _ _ _ _ _ _ h S0)
  case isub =>
    have hln : ln = 1 := by simpa [cm_okI, cm_ln] using hok
    subst hln
    match st, h with
    | .int y :: .int x :: r, h => exact lv_isub hx hb hdec (kk _ _ _ _ _ _ _ _ _ _ _ h S0)
  case imul =>
    have hln : ln = 1 := by simpa [cm_okI, cm_ln] using hok
    subst hln
    match st, h with
    | .int y :: .int x :: r, h => exact lv_imul hx hb hdec (kk _ _ _ _ _ _ _ _ _ _ _ h S0)
  case iand =>
    have hln : ln = 1 := by simpa [cm_okI, cm_ln] using hok
    subst hln
    match st, h with
    | .int y :: .int x :: r, h => exact lv_iand hx hb hdec (kk _ _ _ _ _ _ _ _ _ _ _ h S0)
  case ior =>
    have hln : ln = 1 := by simpa [cm_okI, cm_ln] using hok
    subst hln
    match st, h with
    | .int y :: .int x :: r, h => exact lv_ior hx hb hdec (kk _ _ _ _ _ _ _ _ _ _ _ h S0)
  case ixor =>
    have hln : ln = 1 := by simpa [cm_okI, cm_ln] using hok
    subst hln
    match st, h with
    | .int y :: .int x :: r, h => exact lv_ixor hx hb hdec (kk _ _ _ _ _ _ _ _ _ _ _ h S0)
  case ishl =>
    have hln : ln = 1 := by simpa [cm_okI, cm_ln] using hok
    subst hln
    match st, h with
    | .int y :: .int x :: r, h => exact lv_ishl hx hb hdec (kk _ _ _ _ _ _ _ _ _ _ _ h S0)
  case ishr =>
    have hln : ln = 1 := by simpa [cm_okI, cm_ln] using hok
    subst hln
    match st, h with
    | .int y :: .int x :: r, h => exact lv_ishr hx hb hdec (kk _ _ _ _ _ _ _ _ _ _ _ h S0)
  case iushr =>
    have hln : ln = 1 := by simpa [cm_okI, cm_ln] using hok
    subst hln
    match st, h with
    | .int y :: .int x :: r, h => exact lv_iushr hx hb hdec rfl (kk _ _ _ _ _ _ _ _ _ _ _ h S0)
  case ladd =>
    have hln : ln = 1 := by simpa [cm_okI, cm_ln] using hok
    subst hln
    match st, h with
    | .long y :: .long x :: r, h => exact lv_ladd hx hb hdec (kk _ _ _ _ _ _ _ _ _ _ _ h S0)
  case lmul =>
    have hln : ln = 1 := by simpa [cm_okI, cm_ln] using hok
    subst hln
    match st, h with
    | .long y :: .long x :: r, h => exact lv_lmul hx hb hdec (kk _ _ _ _ _ _ _ _ _ _ _ h S0)
  case idiv =>
    have hln : ln = 1 := by simpa [cm_okI, cm_ln] using hok
    subst hln
    match st, h with
    | .int y :: .int x :: r, h => exact lv_idiv hx hb hdec h.1 (kk _ _ _ _ _ _ _ _ _ _ _ h.2 S0)
  case irem =>
    have hln : ln = 1 := by simpa [cm_okI, cm_ln] using hok
    subst hln
    match st, h with
    | .int y :: .int x :: r, h => exact lv_irem hx hb hdec h.1 (kk _ _ _ _ _ _ _ _ _ _ _ h.2 S0)
  case ldiv =>
    have hln : ln = 1 := by simpa [cm_okI, cm_ln] using hok
    subst hln
    match st, h with
    | .long y :: .long x :: r, h => exact lv_ldiv hx hb hdec h.1 (kk _ _ _ _ _ _ _ _ _ _ _ h.2 S0)
  case lrem =>
    have hln : ln = 1 := by simpa [cm_okI, cm_ln] using hok
    subst hln
    match st, h with
    | .long y :: .long x :: r, h => exact lv_lrem hx hb hdec h.1 (kk _ _ _ _ _ _ _ _ _ _ _ h.2 S0)
  case i2l =>
    have hln : ln = 1 := by simpa [cm_okI, cm_ln] using hok
    subst hln
    match st, h with
    | .int x :: r, h => exact lv_i2l hx hb hdec rfl (kk _ _ _ _ _ _ _ _ _ _ _ h S0)
  case i2b =>
    have hln : ln = 1 := by simpa [cm_okI, cm_ln] using hok
    subst hln
    match st, h with
    | .int x :: r, h => exact lv_i2b hx hb hdec rfl (kk _ _ _ _ _ _ _ _ _ _ _ h S0)
  case l2i =>
    have hln : ln = 1 := by simpa [cm_okI, cm_ln] using hok
    subst hln
    match st, h with
    | .long x :: r, h => exact lv_l2i hx hb hdec rfl (kk _ _ _ _ _ _ _ _ _ _ _ h S0)
  case lcmp =>
    have hln : ln = 1 := by simpa [cm_okI, cm_ln] using hok
    subst hln
    match st, h with
    | .long y :: .long x :: r, h => exact W.lcmp hx hb hdec (kk _ _ _ _ _ _ _ _ _ _ _ h S0)
  case dup =>
    have hln : ln = 1 := by simpa [cm_okI, cm_ln] using hok
    subst hln
    match st, h with
    | .int x :: r, h => exact lv_dup hx hb hdec rfl (kk _ _ _ _ _ _ _ _ _ _ _ h S0)
    | .ref x :: r, h => exact lv_dup hx hb hdec rfl (kk _ _ _ _ _ _ _ _ _ _ _ h S0)
  case pop =>
    have hln : ln = 1 := by simpa [cm_okI, cm_ln] using hok
    subst hln
    match st, h with
    | .int x :: r, h => exact lv_pop hx hb hdec rfl (kk _ _ _ _ _ _ _ _ _ _ _ h S0)
    | .ref x :: r, h => exact lv_pop hx hb hdec rfl (kk _ _ _ _ _ _ _ _ _ _ _ h S0)
  case dup2 =>
    have hln : ln = 1 := by simpa [cm_okI, cm_ln] using hok
    subst hln
    match st, h with
    | .int y :: .ref x :: r, h => exact lv_dup2_11 hx hb hdec rfl rfl (kk _ _ _ _ _ _ _ _ _ _ _ h S0)
  case goto o =>
    simp only [cm_okI, Bool.and_eq_true, beq_iff_eq, decide_eq_true_eq] at hok
    obtain ⟨hln, g1⟩ := hok
    subst hln
    have ht := cm_tgt g1
    exact lv_goto hx hb hdec ht (kk _ _ _ _ _ _ _ _ _ _ _ h S0)
  case ifCond cd o =>
    simp only [cm_okI, Bool.and_eq_true, beq_iff_eq, decide_eq_true_eq] at hok
    obtain ⟨hln, g1⟩ := hok
    subst hln
    have ht := cm_tgt g1
    match cd, hdec, st, h with
    | .eq, hdec, .int x :: r, h => exact lv_if_eq hx hb hdec ht (fun q => kk _ _ _ _ _ _ _ _ _ _ _ (h.1 q) S0) (fun q => kk _ _ _ _ _ _ _ _ _ _ _ (h.2 q) S0)
    | .ne, hdec, .int x :: r, h => exact lv_if_ne hx hb hdec ht (fun q => kk _ _ _ _ _ _ _ _ _ _ _ (h.1 q) S0) (fun q => kk _ _ _ _ _ _ _ _ _ _ _ (h.2 (fun z => z q)) S0)
    | .lt, hdec, .int x :: r, h => exact lv_if_lt hx hb hdec ht (fun q => kk _ _ _ _ _ _ _ _ _ _ _ (h.1 q) S0) (fun q => kk _ _ _ _ _ _ _ _ _ _ _ (h.2 q) S0)
    | .ge, hdec, .int x :: r, h => exact lv_if_ge hx hb hdec ht (fun q => kk _ _ _ _ _ _ _ _ _ _ _ (h.1 q) S0) (fun q => kk _ _ _ _ _ _ _ _ _ _ _ (h.2 q) S0)
    | .gt, hdec, .int x :: r, h => exact lv_if_gt hx hb hdec ht (fun q => kk _ _ _ _ _ _ _ _ _ _ _ (h.1 q) S0) (fun q => kk _ _ _ _ _ _ _ _ _ _ _ (h.2 q) S0)
    | .le, hdec, .int x :: r, h => exact lv_if_le hx hb hdec ht (fun q => kk _ _ _ _ _ _ _ _ _ _ _ (h.1 q) S0) (fun q => kk _ _ _ _ _ _ _ _ _ _ _ (h.2 q) S0)
  case if_icmp cd o =>
    simp only [cm_okI, Bool.and_eq_true, beq_iff_eq, decide_eq_true_eq] at hok
    obtain ⟨hln, g1⟩ := hok
    subst hln
    have ht := cm_tgt g1
    match cd, hdec, st, h with
    | .eq, hdec, .int y :: .int x :: r, h => exact lv_icmp_eq hx hb hdec ht (fun q => kk _ _ _ _ _ _ _ _ _ _ _ (h.1 q) S0) (fun q => kk _ _ _ _ _ _ _ _ _ _ _ (h.2 q) S0)
    | .ne, hdec, .int y :: .int x :: r, h => exact lv_icmp_ne hx hb hdec ht (fun q => kk _ _ _ _ _ _ _ _ _ _ _ (h.1 q) S0) (fun q => kk _ _ _ _ _ _ _ _ _ _ _ (h.2 (fun z => z q)) S0)
    | .lt, hdec, .int y :: .int x :: r, h => exact lv_icmp_lt hx hb hdec ht (fun q => kk _ _ _ _ _ _ _ _ _ _ _ (h.1 q) S0) (fun q => kk _ _ _ _ _ _ _ _ _ _ _ (h.2 q) S0)
    | .ge, hdec, .int y :: .int x :: r, h => exact lv_icmp_ge hx hb hdec ht (fun q => kk _ _ _ _ _ _ _ _ _ _ _ (h.1 q) S0) (fun q => kk _ _ _ _ _ _ _ _ _ _ _ (h.2 q) S0)
    | .gt, hdec, .int y :: .int x :: r, h => exact lv_icmp_gt hx hb hdec ht (fun q => kk _ _ _ _ _ _ _ _ _ _ _ (h.1 q) S0) (fun q => kk _ _ _ _ _ _ _ _ _ _ _ (h.2 q) S0)
    | .le, hdec, .int y :: .int x :: r, h => exact lv_icmp_le hx hb hdec ht (fun q => kk _ _ _ _ _ _ _ _ _ _ _ (h.1 q) S0) (fun q => kk _ _ _ _ _ _ _ _ _ _ _ (h.2 q) S0)
  case ifnull o =>
    simp only [cm_okI, Bool.and_eq_true, beq_iff_eq, decide_eq_true_eq] at hok
    obtain ⟨hln, g1⟩ := hok
    subst hln
    have ht := cm_tgt g1
    match st, h with
    | .null :: r, h => exact lv_ifnullN hx hb hdec ht (kk _ _ _ _ _ _ _ _ _ _ _ h S0)
    | .ref x :: r, h => exact lv_ifnull hx hb hdec (kk _ _ _ _ _ _ _ _ _ _ _ h S0)
  case ifnonnull o =>
    simp only [cm_okI, Bool.and_eq_true, beq_iff_eq, decide_eq_true_eq] at hok
    obtain ⟨hln, g1⟩ := hok
    subst hln
    have ht := cm_tgt g1
    match st, h with
    | .null :: r, h => exact lv_ifnonnullN hx hb hdec (kk _ _ _ _ _ _ _ _ _ _ _ h S0)
    | .ref x :: r, h => exact lv_ifnonnull hx hb hdec ht (kk _ _ _ _ _ _ _ _ _ _ _ h S0)
  case tableswitch dd lo hi os =>
    simp only [cm_okI, Bool.and_eq_true, decide_eq_true_eq] at hok
    obtain ⟨⟨g1, g2⟩, g3⟩ := hok
    match st, h with
    | .int x :: r, h =>
      by_cases hin : x.toInt < lo ∨ hi < x.toInt
      · exact lv_tableOut hx hb hdec hin (cm_tgt g1) (kk _ _ _ _ _ _ _ _ _ _ _ (h.1 hin) S0)
      · have h2 := h.2 hin
        obtain ⟨o', q1, q2⟩ := cm_tsw_spec _ _ _ _ h2 (by omega) (by simp only [Array.toList_map, List.length_map]; omega)
        rw [Array.toList_map, List.getElem?_map] at q1
        obtain ⟨o, q3, q4⟩ := Option.map_eq_some_iff.mp q1
        have g4 := List.all_eq_true.mp g2 o (List.mem_of_getElem? q3)
        simp only [decide_eq_true_eq] at g4
        subst q4
        exact lv_tableIn hx hb hdec (fun z => hin (Or.inl z)) (fun z => hin (Or.inr z)) (by rw [← Array.getElem?_toList]; exact q3) (cm_tgt g4) (kk _ _ _ _ _ _ _ _ _ _ _ q2 S0)
  case lookupswitch dd ps =>
    simp only [cm_okI, Bool.and_eq_true, decide_eq_true_eq] at hok
    obtain ⟨⟨g1, g2⟩, g3⟩ := hok
    match st, h with
    | .int x :: r, h =>
      change cm_lsw (ps.map (fun q => (q.1, (pc : Int) + q.2))).toList (pc + dd) x.toInt (fun t => κ t lv r B T M) at h
      rw [Array.toList_map] at h
      have h2 := cm_lsw_spec pc _ _ _ _ h
      exact lv_lookup hx hb hdec g3 rfl (cm_tgt (cm_off_nn pc _ _ _ g1 g2)) (kk _ _ _ _ _ _ _ _ _ _ _ h2 S0)
  case arraylength =>
    have hln : ln = 1 := by simpa [cm_okI, cm_ln] using hok
    subst hln
    exact cm_sal (κ := fun st => κ (pc + 1) lv st B T M) X0 hdec hP h (fun st' h' => kk _ _ _ _ _ _ _ _ _ _ _ h' S0)
  case iaload =>
    have hln : ln = 1 := by simpa [cm_okI, cm_ln] using hok
    subst hln
    exact cm_sia (κ := fun st => κ (pc + 1) lv st B T M) X0 hdec hP h (fun st' h' => kk _ _ _ _ _ _ _ _ _ _ _ h' S0)
  case laload =>
    have hln : ln = 1 := by simpa [cm_okI, cm_ln] using hok
    subst hln
    exact cm_sla (κ := fun st => κ (pc + 1) lv st B T M) X0 hdec hP h (fun st' h' => kk _ _ _ _ _ _ _ _ _ _ _ h' S0)
  case aaload =>
    have hln : ln = 1 := by simpa [cm_okI, cm_ln] using hok
    subst hln
    exact cm_saa (κ := fun st => κ (pc + 1) lv st B T M) X0 hdec hP h (fun st' h' => kk _ _ _ _ _ _ _ _ _ _ _ h' S0)
  case iastore =>
    have hln : ln = 1 := by simpa [cm_okI, cm_ln] using hok
    subst hln
    exact cm_sib X0 hdec hP h (fun st' M' H' locs' h' hP' => kk _ _ _ _ _ _ _ _ _ _ _ h' ⟨hP', hB1, hB2, hl⟩)
  case lastore =>
    have hln : ln = 1 := by simpa [cm_okI, cm_ln] using hok
    subst hln
    exact cm_slb X0 hdec hP h (fun st' M' H' locs' h' hP' => kk _ _ _ _ _ _ _ _ _ _ _ h' ⟨hP', hB1, hB2, hl⟩)
  case aastore =>
    have hln : ln = 1 := by simpa [cm_okI, cm_ln] using hok
    subst hln
    exact cm_sab X0 hdec hP h (fun st' M' H' locs' h' hP' => kk _ _ _ _ _ _ _ _ _ _ _ h' ⟨hP', hB1, hB2, hl⟩)
  case getfield x =>
    have hln : ln = 3 := by simpa [cm_okI, cm_ln] using hok
    subst hln
    obtain ⟨hlt, h⟩ := h
    cases hv : cm_fl J.1 x with
    | none => rw [hv] at h; exact h.elim
    | some q =>
      obtain ⟨tg, ci, k, fin⟩ := q
      rw [hv] at h
      exact cm_sgf (κ := fun st => κ (pc + 3) lv st B T M) X0 hlt hv hdec hP h (fun st' h' => kk _ _ _ _ _ _ _ _ _ _ _ h' S0)
  case putfield x =>
    have hln : ln = 3 := by simpa [cm_okI, cm_ln] using hok
    subst hln
    obtain ⟨hlt, h⟩ := h
    cases hv : cm_fl J.1 x with
    | none => rw [hv] at h; exact h.elim
    | some q =>
      obtain ⟨tg, ci, k, fin⟩ := q
      rw [hv] at h
      cases fin with
      | false => exact cm_spf X0 hlt hv (fun z => by cases z) hdec hP h (fun st' M' H' locs' h' hP' => kk _ _ _ _ _ _ _ _ _ _ _ h' ⟨hP', hB1, hB2, hl⟩)
      | true => exact cm_spf X0 hlt hv (fun _ => h.1) hdec hP h.2 (fun st' M' H' locs' h' hP' => kk _ _ _ _ _ _ _ _ _ _ _ h' ⟨hP', hB1, hB2, hl⟩)
  case new x =>
    have hln : ln = 3 := by simpa [cm_okI, cm_ln] using hok
    subst hln
    obtain ⟨hlt, h⟩ := h
    cases hv : cm_kl J.1 x with
    | none => rw [hv] at h; exact h.elim
    | some ci =>
      rw [hv] at h
      obtain ⟨b1, b2, h⟩ := h
      exact cm_snw X0 hlt hv hdec hP (by omega) (by omega) (fun H' hP' => kk _ _ _ _ _ _ _ _ _ _ _ h ⟨hP', by show cells + 1 + (B.1 - 1) = mc; omega, by show slots + cm_nf ci + (B.2 - cm_nf ci) = ms; omega, hl⟩)
  case newarray at0 =>
    have hln : ln = 2 := by simpa [cm_okI, cm_ln] using hok
    subst hln
    cases at0
    all_goals try (exact False.elim h)
    case int =>
      match st, h with
      | .int n :: r, ⟨h0, h1, b1, b2, h⟩ => exact cm_sna X0 (Or.inl ⟨rfl, rfl⟩) hdec hP h0 h1 (by omega) (by omega) (fun H' hP' => kk _ _ _ _ _ _ _ _ _ _ _ h ⟨hP', by show cells + 1 + (B.1 - 1) = mc; omega, by show slots + n.toInt.toNat + (B.2 - n.toInt.toNat) = ms; omega, hl⟩)
    case long =>
      match st, h with
      | .int n :: r, ⟨h0, h1, b1, b2, h⟩ => exact cm_sna X0 (Or.inr ⟨rfl, rfl⟩) hdec hP h0 h1 (by omega) (by omega) (fun H' hP' => kk _ _ _ _ _ _ _ _ _ _ _ h ⟨hP', by show cells + 1 + (B.1 - 1) = mc; omega, by show slots + n.toInt.toNat + (B.2 - n.toInt.toNat) = ms; omega, hl⟩)
  case anewarray x =>
    have hln : ln = 3 := by simpa [cm_okI, cm_ln] using hok
    subst hln
    obtain ⟨hlt, h⟩ := h
    cases hv : cm_kl J.1 x with
    | none => rw [hv] at h; exact h.elim
    | some ci =>
      rw [hv] at h
      obtain ⟨hci, h⟩ := h
      match st, h with
      | .int n :: r, ⟨h0, h1, b1, b2, h⟩ => exact cm_san X0 hlt hv hci hdec hP h0 h1 (by omega) (by omega) (fun H' hP' => kk _ _ _ _ _ _ _ _ _ _ _ h ⟨hP', by show cells + 1 + (B.1 - 1) = mc; omega, by show slots + n.toInt.toNat + (B.2 - n.toInt.toNat) = ms; omega, hl⟩)
  case invokevirtual x =>
    have hln : ln = 3 := by simpa [cm_okI, cm_ln] using hok
    subst hln
    change cm_ca (cm_gv J x) st B T M (fun st B T M => κ (pc + 3) lv st B T M) at h
    cases hv : cm_gv J x with
    | none => rw [hv] at h; exact h.elim
    | some q =>
      obtain ⟨n, rk, mc1, ms1, S⟩ := q
      rw [hv] at h
      have hc : cm_Cal d J.1 (.invokevirtual x) (n, rk, mc1, ms1, S) := hJ.1 _ (cm_lkm hv)
      cases hp : cm_pop n [] st with
      | none => simp only [cm_ca, hp] at h
      | some q =>
        obtain ⟨as, r⟩ := q
        simp only [cm_ca, hp] at h
        obtain ⟨k1, k2, k3, k4, k5⟩ := h
        obtain ⟨e1, e2⟩ := cm_pop_nil hp
        subst e2
        exact hc X0 rfl hd hdec hl.1.1 hP ⟨by show cells + mc1 ≤ _; omega, by show slots + ms1 ≤ _; omega⟩ e1 k1 k2 k5 (fun v T' M' H' locs' hv hP' => kk _ _ _ _ _ _ _ _ _ _ _ hv ⟨hP', by show cells + mc1 + (B.1 - mc1) = mc; omega, by show slots + ms1 + (B.2 - ms1) = ms; omega, hl⟩)
  case invokestatic x =>
    have hln : ln = 3 := by simpa [cm_okI, cm_ln] using hok
    subst hln
    change cm_ca (cm_gs J x) st B T M (fun st B T M => κ (pc + 3) lv st B T M) at h
    cases hv : cm_gs J x with
    | none => rw [hv] at h; exact h.elim
    | some q =>
      obtain ⟨n, rk, mc1, ms1, S⟩ := q
      rw [hv] at h
      have hc : cm_Cal d J.1 (.invokestatic x) (n, rk, mc1, ms1, S) := hJ.2.1 _ (cm_lkm hv)
      cases hp : cm_pop n [] st with
      | none => simp only [cm_ca, hp] at h
      | some q =>
        obtain ⟨as, r⟩ := q
        simp only [cm_ca, hp] at h
        obtain ⟨k1, k2, k3, k4, k5⟩ := h
        obtain ⟨e1, e2⟩ := cm_pop_nil hp
        subst e2
        exact hc X0 rfl hd hdec hl.1.1 hP ⟨by show cells + mc1 ≤ _; omega, by show slots + ms1 ≤ _; omega⟩ e1 k1 k2 k5 (fun v T' M' H' locs' hv hP' => kk _ _ _ _ _ _ _ _ _ _ _ hv ⟨hP', by show cells + mc1 + (B.1 - mc1) = mc; omega, by show slots + ms1 + (B.2 - ms1) = ms; omega, hl⟩)
  case invokespecial x =>
    have hln : ln = 3 := by simpa [cm_okI, cm_ln] using hok
    subst hln
    change cm_ca (cm_gp J x) st B T M (fun st B T M => κ (pc + 3) lv st B T M) at h
    cases hv : cm_gp J x with
    | none => rw [hv] at h; exact h.elim
    | some q =>
      obtain ⟨n, rk, mc1, ms1, S⟩ := q
      rw [hv] at h
      have hc : cm_Cal d J.1 (.invokespecial x) (n, rk, mc1, ms1, S) := hJ.2.2 _ (cm_lkm hv)
      cases hp : cm_pop n [] st with
      | none => simp only [cm_ca, hp] at h
      | some q =>
        obtain ⟨as, r⟩ := q
        simp only [cm_ca, hp] at h
        obtain ⟨k1, k2, k3, k4, k5⟩ := h
        obtain ⟨e1, e2⟩ := cm_pop_nil hp
        subst e2
        exact hc X0 rfl hd hdec hl.1.1 hP ⟨by show cells + mc1 ≤ _; omega, by show slots + ms1 ≤ _; omega⟩ e1 k1 k2 k5 (fun v T' M' H' locs' hv hP' => kk _ _ _ _ _ _ _ _ _ _ _ hv ⟨hP', by show cells + mc1 + (B.1 - mc1) = mc; omega, by show slots + ms1 + (B.2 - ms1) = ms; omega, hl⟩)
  case ireturn =>
    have hln : ln = 1 := by simpa [cm_okI, cm_ln] using hok
    subst hln
    obtain ⟨hrt, h⟩ := h
    obtain ⟨v, e1, e2, e3⟩ := cm_re_spec h
    subst e1
    refine hR _ v pc T M H locs cells slots ls hdec ?_ e2 hP (by omega) (by omega)
    rcases e3 with ⟨z, -⟩ | e3 | ⟨z, -⟩ | ⟨z, -⟩
    · omega
    · exact Or.inl ⟨rfl, e3⟩
    · omega
    · omega
  case lreturn =>
    have hln : ln = 1 := by simpa [cm_okI, cm_ln] using hok
    subst hln
    obtain ⟨hrt, h⟩ := h
    obtain ⟨v, e1, e2, e3⟩ := cm_re_spec h
    subst e1
    refine hR _ v pc T M H locs cells slots ls hdec ?_ e2 hP (by omega) (by omega)
    rcases e3 with ⟨z, -⟩ | ⟨z, -⟩ | e3 | ⟨z, -⟩
    · omega
    · omega
    · exact Or.inr (Or.inl ⟨rfl, e3⟩)
    · omega
  case areturn =>
    have hln : ln = 1 := by simpa [cm_okI, cm_ln] using hok
    subst hln
    obtain ⟨hrt, h⟩ := h
    obtain ⟨v, e1, e2, e3⟩ := cm_re_spec h
    subst e1
    refine hR _ v pc T M H locs cells slots ls hdec ?_ e2 hP (by omega) (by omega)
    rcases e3 with ⟨z, -⟩ | ⟨z, -⟩ | ⟨z, -⟩ | e3
    · omega
    · omega
    · omega
    · exact Or.inr (Or.inr (Or.inl ⟨rfl, e3⟩))
  case return_ =>
    have hln : ln = 1 := by simpa [cm_okI, cm_ln] using hok
    subst hln
    obtain ⟨hrt, h⟩ := h
    obtain ⟨v, e1, e2, e3⟩ := cm_re_spec h
    subst e1
    refine hR _ v pc T M H locs cells slots ls hdec ?_ e2 hP (by omega) (by omega)
    rcases e3 with e3 | ⟨z, -⟩ | ⟨z, -⟩ | ⟨z, -⟩
    · exact Or.inr (Or.inr (Or.inr ⟨rfl, e3⟩))
    · omega
    · omega
    · omega
end CMT
def cm_Go (d : Nat) (cc : ByteArray) (maxL mc ms : Nat) (J : cm_J) (ρ : Option Value → cm_T → cm_M → Prop) (pc : Nat) (lv : cm_LV) (st : List Value) (B : Nat × Nat) (T : cm_T) (M : cm_M) : Prop :=
  ∀ (p : Program) (l : Launch) (e : Env) (R : Room) (s : State) (m : MethodId) (args : Array Value) (below : List Frame) (meth : Method) (c : Code) (G : cm_G) (A0 : Nat → Prop) (Z : State → Prop), cm_X p s m args meth c cc maxL J G → (d + 1 ≤ R.frames ∧ 64 * (d + 1) ≤ R.locals) → (mc ≤ R.cells ∧ ms ≤ R.slots) →
    cm_Ret p l e R s m args below meth c cc G A0 mc ms J.2.2.1 Z ρ → ∀ (H : Heap) (locs : List Loc) (cells slots : Nat) (ls : Array Slot), cm_Sit G A0 s.heap mc ms maxL lv B T M H locs cells slots ls → W p l e R s m args below meth c H locs cells slots Z (F0 m pc ls st)
/-- a method's text: bytes, table, how many slots for its own values, what it makes -/
def cm_Txt (cc : ByteArray) (C : Nat → Option (Instr × Nat)) : Prop := ∀ (pc : Nat) (i : Instr) (ln : Nat), C pc = some (i, ln) → cm_okC cc (pc, i, ln) = true
theorem cm_okC_spec {cc : ByteArray} {pc ln : Nat} {i : Instr} (h : cm_okC cc (pc, i, ln) = true) : ∃ i0, decode cc pc = .ok (i0, ln) ∧ cm_nrm pc i0 = i ∧ cm_okI pc i0 ln = true := by
  unfold cm_okC at h
  split at h
  next i0 ln0 hd =>
    simp only [Bool.and_eq_true, decide_eq_true_eq] at h
    obtain ⟨⟨h1, h2⟩, h3⟩ := h
    subst h2
    exact ⟨i0, hd, h1, h3⟩
  next => cases h
theorem cm_wp_go {d maxL mc ms : Nat} {cc : ByteArray} {J : cm_J} {C : Nat → Option (Instr × Nat)} {ρ : Option Value → cm_T → cm_M → Prop} {κ : Nat → cm_LV → List Value → Nat × Nat → cm_T → cm_M → Prop} (hC : cm_Txt cc C) (hJ : cm_Cok d J) (hκ : ∀ pc lv st B T M, κ pc lv st B T M → cm_Go d cc maxL mc ms J ρ pc lv st B T M) :
    ∀ (n pc : Nat) (lv : cm_LV) (st : List Value) (B : Nat × Nat) (T : cm_T) (M : cm_M), cm_wp J C ρ κ n pc lv st B T M → cm_Go d cc maxL mc ms J ρ pc lv st B T M
  | 0, pc, lv, st, B, T, M, h => hκ _ _ _ _ _ _ h
  | n + 1, pc, lv, st, B, T, M, h => by
    unfold cm_wp at h
    split at h
    next => exact hκ _ _ _ _ _ _ h
    next i ln hc =>
      obtain ⟨i0, h1, h2, h3⟩ := cm_okC_spec (hC _ _ _ hc)
      subst h2
      intro p l e R s m args below meth c G A0 Z X hd hm hR H locs cells slots ls hS
      exact cm_step X hd hm hJ hR i0 h1 h3 hS h (fun pc' lv' st' B' T' M' H' locs' cells' slots' ls' hk hS' => cm_wp_go hC hJ hκ n pc' lv' st' B' T' M' hk p l e R s m args below meth c G A0 Z X hd hm hR H' locs' cells' slots' ls' hS')
/-- the first step from a head: by the whole table; then by the cut one -/
theorem cm_go {d maxL mc ms : Nat} {cc : ByteArray} {J : cm_J} {tab : List (Nat × Instr × Nat)} (hs : List Nat) {ρ : Option Value → cm_T → cm_M → Prop} (n : Nat) {pc : Nat} {lv : cm_LV} {st : List Value} {B : Nat × Nat} {T : cm_T} {M : cm_M} (hC : tab.all (cm_okC cc) = true) (hJ : cm_Cok d J) {i : Instr} {ln : Nat} (hi : tab.lookup pc = some (i, ln))
    (h : cm_stp J i ln pc lv st B T M (cm_wp J (cm_cd tab hs) ρ (cm_Go d cc maxL mc ms J ρ) n) ρ) : cm_Go d cc maxL mc ms J ρ pc lv st B T M := by
  have hT : cm_Txt cc (cm_cd tab hs) := by
    intro pc i ln h
    unfold cm_cd at h
    split at h
    · cases h
    · exact List.all_eq_true.mp hC _ (cm_lkm h)
  obtain ⟨i0, h1, h2, h3⟩ := cm_okC_spec (List.all_eq_true.mp hC _ (cm_lkm hi))
  subst h2
  intro p l e R s m args below meth c G A0 Z X hd hm hR H locs cells slots ls hS
  exact cm_step X hd hm hJ hR i0 h1 h3 hS h (fun pc' lv' st' B' T' M' H' locs' cells' slots' ls' hk hS' => cm_wp_go hT hJ (fun _ _ _ _ _ _ hh => hh) n pc' lv' st' B' T' M' hk p l e R s m args below meth c G A0 Z X hd hm hR H' locs' cells' slots' ls' hS')

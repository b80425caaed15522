section CMS
variable {p : Program} {l : Launch} {e : Env} {R : Room} {s : State} {m : MethodId} {args : Array Value} {below : List Frame} {meth : Method} {c : Code} {H : Heap} {locs : List Loc} {cells slots : Nat} {Z : State → Prop} {cc : ByteArray} {J : cm_J} {G : cm_G} {A0 : Nat → Prop} {mc ms maxL pc : Nat} {lv : cm_LV} {st : List Value} {B : Nat × Nat} {T : cm_T} {M : cm_M} {ls : Array Slot}
theorem cm_fv0 {ty : FieldType} {a k : Nat} (h : cm_tg ty = 0) : cm_fv M ty a k = .int (M.1 a k) ∧ ty = .int := by
  cases ty <;> simp_all [cm_tg, cm_fv]
theorem cm_fv1 {ty : FieldType} {a k : Nat} (h : cm_tg ty = 1) : cm_fv M ty a k = .int (M.1 a k) ∧ ty = .boolean := by
  cases ty <;> simp_all [cm_tg, cm_fv]
theorem cm_fv2 {ty : FieldType} {a k : Nat} (h : cm_tg ty = 2) : cm_fv M ty a k = .long (M.2.1 a k) ∧ ty = .long := by
  cases ty <;> simp_all [cm_tg, cm_fv]
theorem cm_fv3 {ty : FieldType} {a k : Nat} (h : cm_tg ty = 3) : cm_fv M ty a k = va_rf (M.2.2 a k) ∧ ((∃ n, ty = .object n) ∨ ∃ t, ty = .array t) := by
  cases ty <;> simp_all [cm_tg, cm_fv]
theorem cm_obj_at {a ci : Nat} (hP : cm_P G A0 s.heap T M H locs) (hk : T.1 a = ci + 1) (hci : ci < 8) : t_OB a (G.1.1 ci) (cm_nf ci) (G.1.2 ci) H (fun k => cm_fv M (cm_ty ci k) a k) := by
  have h := (hP.1.2 a).1
  rw [hk] at h
  exact h (by omega) (by omega)
theorem cm_sgf (X : cm_X p s m args meth c cc maxL J G) {x tg ci k : Nat} {fin : Bool} (hx : x < 1000) (hf : cm_fl J.1 x = some (tg, ci, k, fin)) (hdg : decode cc pc = .ok (.getfield x, 3)) (hP : cm_P G A0 s.heap T M H locs) {κ : List Value → Prop} (h : cm_gf tg ci k T M st κ)
    (kk : ∀ st', κ st' → W p l e R s m args below meth c H locs cells slots Z (F0 m (pc + 3) ls st')) : W p l e R s m args below meth c H locs cells slots Z (F0 m pc ls st) := by
  obtain ⟨hexec, hb, hml, hown, -, hts, hK⟩ := X
  obtain ⟨hlink, hci, hkn, htg, hfin, hdecl⟩ := cm_fl_ok hx hf
  match st, h with
  | .ref a :: r, h =>
    obtain ⟨hk, h⟩ := h
    obtain ⟨cell, q1, q2, q3, q4⟩ := cm_obj_at hP hk hci
    obtain ⟨hS, hfc, kC, hkC, hkind⟩ := hK.1.1 ci _ (cm_cls hci)
    obtain ⟨cf, kf, fi, f, hi, hsl⟩ := hS k hkn
    have hst := (u_facts hfc hkC (u_lays hts (cm_uin hci) hkn) hi).1
    have hi' : s.fieldFound? (cm_R ci) (cm_TT ci k).2.1 (cm_TT ci k).2.2.1 = some (cf, kf, fi, f) := by rw [← hdecl]; exact hi
    refine W.getf hexec hb hown (hts _ hlink) hi' hst q1 (by rw [q3]; exact fun h => by cases h) (v := cm_fv M (cm_ty ci k) a k) (by rw [hsl]; exact q4 k hkn) rfl rfl hdg ?_
    match tg, htg, h with
    | 0, htg, h => rw [(cm_fv0 htg.symm).1]; exact kk _ h
    | 1, htg, h => rw [(cm_fv1 htg.symm).1]; exact kk _ h
    | 2, htg, h => rw [(cm_fv2 htg.symm).1]; exact kk _ h
    | 3, htg, h =>
      rw [(cm_fv3 htg.symm).1]
      change cm_rr (M.2.2 a k) r κ at h
      cases hm : M.2.2 a k with
      | none => rw [hm] at h; exact kk _ h
      | some b => rw [hm] at h; exact kk _ h
    | n + 4, htg, h => exact h.elim
theorem cm_putx (X : cm_X p s m args meth c cc maxL J G) {x tg ci k a : Nat} {fin : Bool} {r : List Value} {v : Value} {M' : cm_M} (hx : x < 1000) (hf : cm_fl J.1 x = some (tg, ci, k, fin)) (hfi : fin = true → J.2.1 = true ∧ J.1 = ci) (hdg : decode cc pc = .ok (.putfield x, 3)) (hP : cm_P G A0 s.heap T M H locs)
    (hk : T.1 a = ci + 1) (hn : narrow (cm_ty ci k) v = v) (hv : fits (cm_ty ci k) v = true) (g1 : ∀ b j, b ≠ a → M'.1 b j = M.1 b j) (g2 : ∀ b j, b ≠ a → M'.2.1 b j = M.2.1 b j) (g3 : ∀ b j, b ≠ a → M'.2.2 b j = M.2.2 b j) (gv : ∀ j : Nat, cm_fv M' (cm_ty ci j) a j = updV (fun k => cm_fv M (cm_ty ci k) a k) k v j)
    (kk : ∀ H' locs', cm_P G A0 s.heap T M' H' locs' → W p l e R s m args below meth c H' locs' cells slots Z (F0 m (pc + 3) ls r)) : W p l e R s m args below meth c H locs cells slots Z (F0 m pc ls (v :: .ref a :: r)) := by
  obtain ⟨hexec, hb, hml, hown, hini, hts, hK⟩ := X
  obtain ⟨hlink, hci, hkn, htg, hfin, hdecl⟩ := cm_fl_ok hx hf
  have hap := va_apart (own := cm_R J.1) hts (cm_uin hci) (cm_ty ci) (cm_uty hci) (cm_unm hci) hK.1 (cm_cls hci)
  obtain ⟨cell, q1, q2, q3, q4⟩ := cm_obj_at hP hk hci
  obtain ⟨hS, hfc, kC, hkC, hkind⟩ := hK.1.1 ci _ (cm_cls hci)
  obtain ⟨cf, kf, fi, f, hi, hsl⟩ := hS k hkn
  have hst := (u_facts hfc hkC (u_lays hts (cm_uin hci) hkn) hi).1
  have hi' : s.fieldFound? (cm_R ci) (cm_TT ci k).2.1 (cm_TT ci k).2.2.1 = some (cf, kf, fi, f) := by rw [← hdecl]; exact hi
  have hd := cm_uty hci k hkn
  have hlay := hts _ (cm_uin hci _ (u_in_lay hkn))
  unfold u_lay at hlay
  have go : ∀ H' : Heap, H'[a]? = some (cell.setSlot f.slot v) → H'.size = H.size → (∀ q, q ≠ a → H'[q]? = H[q]?) → W p l e R s m args below meth c H' (locs ++ [⟨a, f.slot⟩]) cells slots Z (F0 m (pc + 3) ls r) := by
    intro H' e1 e2 e3
    rw [hsl] at e1
    refine kk H' _ (cm_P_upd hP (by rw [hk]; omega) g1 g2 g3 e2 e3 ⟨fun _ _ => ?_, fun z => by rw [hk] at z; omega, fun z => by rw [hk] at z; omega⟩)
    rw [hk]
    refine ⟨_, e1, q2, q3, fun j hj => ?_⟩
    show (cell.setSlot (G.1.2 ci k) v).slots[G.1.2 ci j]? = some (cm_fv M' (cm_ty ci j) a j)
    rw [gv j]
    exact t_set q4 hap hkn v j hj
  cases hfn : (cm_TT ci k).2.2.2 with
  | false =>
    rw [if_neg (by rw [hfn]; decide)] at hlay
    have h6 := u_store hfc hkC hkind hlay hi hd hn hv
    exact W.putK hexec hb (f := f) ⟨hown, hts _ hlink, ⟨_, _, _, hi'⟩, hst⟩ (by rw [q2]; exact h6) q1 q3 (by rw [hsl]; exact k2_hasslot (q4 k hkn)) rfl rfl hdg go
  | true =>
    rw [if_pos hfn] at hlay
    obtain ⟨hj1, hj2⟩ := hfi (by rw [hfin, hfn])
    have hcf : m.cls = cf := by
      obtain ⟨_, _, c', _, _, _, -, -, hf', -, -, -, hown2, -⟩ := Cond.laysFinal_spec hlay
      have e1 : c' = cf := by have := hi.symm.trans hf'; simp at this; exact this.1.symm
      rw [hdecl, ← hj2] at hown2
      rw [← e1]; exact Option.some.inj (hown.symm.trans hown2)
    have h6 := u_fits hfc hkC hkind (Or.inr hlay) hi hd hn hv
    exact W.putFinK hexec hb hown (hts _ hlink) hi' hst hcf (hini hj1) (by rw [q2]; exact h6) q1 q3 (by rw [hsl]; exact k2_hasslot (q4 k hkn)) rfl rfl hdg go
theorem cm_upd_ne {α : Type} {f : Nat → Int → α} {a b : Nat} {k j : Int} {v : α} (h : b ≠ a) : (if b = a ∧ j = k then v else f b j) = f b j := by
  rw [if_neg (fun q => h q.1)]
theorem cm_fvw {M : cm_M} {a k j : Nat} {x : Int32} {ty tyk : FieldType} (hk : cm_tg tyk = 0 ∨ cm_tg tyk = 1) (hjk : j = k → ty = tyk) : cm_fv (cm_wi M a k x) ty a j = if j = k then .int x else cm_fv M ty a j := by
  by_cases h : j = k
  · subst h
    rw [if_pos rfl, hjk rfl]
    cases tyk <;> simp_all [cm_tg, cm_fv, cm_wi]
  · have hne : ¬ ((j : Int) = (k : Int)) := by omega
    rw [if_neg h]
    cases ty <;> simp [cm_fv, cm_wi, hne]
theorem cm_fvwl {M : cm_M} {a k j : Nat} {x : Int64} {ty tyk : FieldType} (hk : cm_tg tyk = 2) (hjk : j = k → ty = tyk) : cm_fv (cm_wl M a k x) ty a j = if j = k then .long x else cm_fv M ty a j := by
  by_cases h : j = k
  · subst h
    rw [if_pos rfl, hjk rfl]
    cases tyk <;> simp_all [cm_tg, cm_fv, cm_wl]
  · have hne : ¬ ((j : Int) = (k : Int)) := by omega
    rw [if_neg h]
    cases ty <;> simp [cm_fv, cm_wl, hne]
theorem cm_fvwr {M : cm_M} {a k j : Nat} {x : Option Nat} {ty tyk : FieldType} (hk : cm_tg tyk = 3) (hjk : j = k → ty = tyk) : cm_fv (cm_wr M a k x) ty a j = if j = k then va_rf x else cm_fv M ty a j := by
  by_cases h : j = k
  · subst h
    rw [if_pos rfl, hjk rfl]
    cases tyk <;> simp_all [cm_tg, cm_fv, cm_wr]
  · have hne : ¬ ((j : Int) = (k : Int)) := by omega
    rw [if_neg h]
    cases ty <;> simp [cm_fv, cm_wr, hne]
theorem cm_spf (X : cm_X p s m args meth c cc maxL J G) {x tg ci k : Nat} {fin : Bool} (hx : x < 1000) (hf : cm_fl J.1 x = some (tg, ci, k, fin)) (hfi : fin = true → J.2.1 = true ∧ J.1 = ci) (hdg : decode cc pc = .ok (.putfield x, 3)) (hP : cm_P G A0 s.heap T M H locs) {κ : List Value → cm_M → Prop} (h : cm_pf tg ci k T M st κ)
    (kk : ∀ st' M' H' locs', κ st' M' → cm_P G A0 s.heap T M' H' locs' → W p l e R s m args below meth c H' locs' cells slots Z (F0 m (pc + 3) ls st')) : W p l e R s m args below meth c H locs cells slots Z (F0 m pc ls st) := by
  obtain ⟨-, hci, hkn, htg, -, -⟩ := cm_fl_ok hx hf
  match tg, htg, hf, st, h with
  | 0, htg, hf, .int v :: .ref a :: r, h =>
    obtain ⟨hk, h⟩ := h
    have ht := (cm_fv0 (M := M) (a := a) (k := k) htg.symm).2
    exact cm_putx X hx hf hfi hdg hP hk (v := .int v) (M' := cm_wi M a k v) (by rw [ht]; rfl) (by rw [ht]; rfl) (fun b j hb => cm_upd_ne hb) (fun _ _ _ => rfl) (fun _ _ _ => rfl) (fun j => cm_fvw (Or.inl htg.symm) (fun z => by rw [z])) (fun H' locs' hP' => kk _ _ _ _ h hP')
  | 1, htg, hf, .int v :: .ref a :: r, h =>
    obtain ⟨hk, hv, h⟩ := h
    have ht := (cm_fv1 (M := M) (a := a) (k := k) htg.symm).2
    exact cm_putx X hx hf hfi hdg hP hk (v := .int v) (M' := cm_wi M a k v) (by rw [ht]; rcases hv with rfl | rfl <;> rfl) (by rw [ht]; rcases hv with rfl | rfl <;> rfl) (fun b j hb => cm_upd_ne hb) (fun _ _ _ => rfl) (fun _ _ _ => rfl) (fun j => cm_fvw (Or.inr htg.symm) (fun z => by rw [z])) (fun H' locs' hP' => kk _ _ _ _ h hP')
  | 2, htg, hf, .long v :: .ref a :: r, h =>
    obtain ⟨hk, h⟩ := h
    have ht := (cm_fv2 (M := M) (a := a) (k := k) htg.symm).2
    exact cm_putx X hx hf hfi hdg hP hk (v := .long v) (M' := cm_wl M a k v) (by rw [ht]; rfl) (by rw [ht]; rfl) (fun _ _ _ => rfl) (fun b j hb => cm_upd_ne hb) (fun _ _ _ => rfl) (fun j => cm_fvwl htg.symm (fun z => by rw [z])) (fun H' locs' hP' => kk _ _ _ _ h hP')
  | 3, htg, hf, .ref v :: .ref a :: r, h =>
    obtain ⟨hk, h⟩ := h
    have ht := (cm_fv3 (M := M) (a := a) (k := k) htg.symm).2
    exact cm_putx X hx hf hfi hdg hP hk (v := .ref v) (M' := cm_wr M a k (some v)) (by rcases ht with ⟨n, ht⟩ | ⟨n, ht⟩ <;> (rw [ht]; rfl)) (by rcases ht with ⟨n, ht⟩ | ⟨n, ht⟩ <;> (rw [ht]; rfl)) (fun _ _ _ => rfl) (fun _ _ _ => rfl) (fun b j hb => cm_upd_ne hb) (fun j => cm_fvwr htg.symm (fun z => by rw [z])) (fun H' locs' hP' => kk _ _ _ _ h hP')
  | 3, htg, hf, .null :: .ref a :: r, h =>
    obtain ⟨hk, h⟩ := h
    have ht := (cm_fv3 (M := M) (a := a) (k := k) htg.symm).2
    exact cm_putx X hx hf hfi hdg hP hk (v := .null) (M' := cm_wr M a k none) (by rcases ht with ⟨n, ht⟩ | ⟨n, ht⟩ <;> (rw [ht]; rfl)) (by rcases ht with ⟨n, ht⟩ | ⟨n, ht⟩ <;> (rw [ht]; rfl)) (fun _ _ _ => rfl) (fun _ _ _ => rfl) (fun b j hb => cm_upd_ne hb) (fun j => cm_fvwr htg.symm (fun z => by rw [z])) (fun H' locs' hP' => kk _ _ _ _ h hP')
end CMS

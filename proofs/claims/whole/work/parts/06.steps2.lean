section CMS2
variable {p : Program} {l : Launch} {e : Env} {R : Room} {s : State} {m : MethodId} {args : Array Value} {below : List Frame} {meth : Method} {c : Code} {H : Heap} {locs : List Loc} {cells slots : Nat} {Z : State → Prop} {cc : ByteArray} {J : cm_J} {G : cm_G} {A0 : Nat → Prop} {mc ms maxL pc : Nat} {lv : cm_LV} {st : List Value} {B : Nat × Nat} {T : cm_T} {M : cm_M} {ls : Array Slot}
theorem cm_arr_at {a kd : Nat} (hP : cm_P G A0 s.heap T M H locs) (hk : T.1 a = kd) (h1 : 9 ≤ kd) (h2 : kd ≠ 40) : H[a]? = some (arrV (G.2.1 kd) (T.2.1 a) (cm_ev M kd a)) := by
  have h := (hP.1.2 a).2.1
  rw [hk] at h
  exact h h1 h2
theorem cm_sia (X : cm_X p s m args meth c cc maxL J G) (hdg : decode cc pc = .ok (.iaload, 1)) (hP : cm_P G A0 s.heap T M H locs) {κ : List Value → Prop} (h : cm_ia T M st κ)
    (kk : ∀ st', κ st' → W p l e R s m args below meth c H locs cells slots Z (F0 m (pc + 1) ls st')) : W p l e R s m args below meth c H locs cells slots Z (F0 m pc ls st) := by
  obtain ⟨hexec, hb, hml, hown, -, hts, hK⟩ := X
  match st, h with
  | .int j :: .ref a :: r, ⟨hk, hj, h⟩ =>
    obtain ⟨n1, n2⟩ := cm_nat hj
    rcases hk with hk | hk
    · have hc := cm_arr_at hP hk (by omega) (by omega)
      refine W.iald (v := .int (M.1 a j.toInt)) hexec hb hc ((hK.1.2 0 _ rfl).1 _ _) (fun q => by cases q) (by rw [arrV_size]; exact cm_vpin hj) ?_ rfl rfl hdg (kk _ h)
      rw [arrV_read _ _ n2]
      simp [cm_ev, n1]
    · obtain ⟨q1, q2, q3⟩ := (hP.1.2 a).2.2 hk
      refine W.iald (v := .int (M.1 a j.toInt)) hexec hb q1 hK.2.1 hK.2.2.1 (by rw [q2]; exact cm_vpin hj) ?_ rfl rfl hdg (kk _ h)
      rw [q3 _ n2, n1]
theorem cm_sla (X : cm_X p s m args meth c cc maxL J G) (hdg : decode cc pc = .ok (.laload, 1)) (hP : cm_P G A0 s.heap T M H locs) {κ : List Value → Prop} (h : cm_la T M st κ)
    (kk : ∀ st', κ st' → W p l e R s m args below meth c H locs cells slots Z (F0 m (pc + 1) ls st')) : W p l e R s m args below meth c H locs cells slots Z (F0 m pc ls st) := by
  obtain ⟨hexec, hb, hml, hown, -, hts, hK⟩ := X
  match st, h with
  | .int j :: .ref a :: r, ⟨hk, hj, h⟩ =>
    obtain ⟨n1, n2⟩ := cm_nat hj
    have hc := cm_arr_at hP hk (by omega) (by omega)
    refine W.lald (v := .long (M.2.1 a j.toInt)) hexec hb hc ((hK.1.2 1 _ rfl).1 _ _) (fun q => by cases q) (by rw [arrV_size]; exact cm_vpin hj) ?_ rfl rfl hdg (kk _ h)
    rw [arrV_read _ _ n2]
    simp [cm_ev, n1]
theorem cm_refty (hK : cm_K G s) {kd : Nat} (hk : kd = 22 ∨ kd = 26 ∨ kd = 27) : ∃ C : String, C = cm_R (kd - 22) ∧ kd - 22 < 8 ∧ ArrOfT s (G.2.1 kd) (.object C) ∧ va_RA s (G.2.1 kd) (.object C) := by
  rcases hk with rfl | rfl | rfl
  · exact ⟨RX0, rfl, by omega, hK.1.2 2 _ rfl⟩
  · exact ⟨RX4, rfl, by omega, hK.1.2 3 _ rfl⟩
  · exact ⟨RX5, rfl, by omega, hK.1.2 4 _ rfl⟩
theorem cm_evr {kd a j : Nat} (hk : kd = 22 ∨ kd = 26 ∨ kd = 27) : cm_ev M kd a j = va_rf (M.2.2 a j) := by
  unfold cm_ev
  rw [if_neg (by omega), if_neg (by omega)]
theorem cm_saa (X : cm_X p s m args meth c cc maxL J G) (hdg : decode cc pc = .ok (.aaload, 1)) (hP : cm_P G A0 s.heap T M H locs) {κ : List Value → Prop} (h : cm_aa T M st κ)
    (kk : ∀ st', κ st' → W p l e R s m args below meth c H locs cells slots Z (F0 m (pc + 1) ls st')) : W p l e R s m args below meth c H locs cells slots Z (F0 m pc ls st) := by
  obtain ⟨hexec, hb, hml, hown, -, hts, hK⟩ := X
  match st, h with
  | .int j :: .ref a :: r, ⟨hk, hj, h⟩ =>
    obtain ⟨n1, n2⟩ := cm_nat hj
    obtain ⟨C, hC, hlt, hA, hRA⟩ := cm_refty hK hk
    have hc := cm_arr_at hP rfl (show 9 ≤ T.1 a by omega) (by omega)
    refine W.aald (v := va_rf (M.2.2 a j.toInt)) hexec hb hc (hA _ _) rfl (fun q => by cases q) (by rw [arrV_size]; exact cm_vpin hj) ?_ rfl rfl hdg ?_
    · rw [arrV_read _ _ n2, cm_evr hk, n1]
    · cases hm : M.2.2 a j.toInt with
      | none => rw [hm] at h; exact kk _ h
      | some b => rw [hm] at h; exact kk _ h
theorem cm_sib (X : cm_X p s m args meth c cc maxL J G) (hdg : decode cc pc = .ok (.iastore, 1)) (hP : cm_P G A0 s.heap T M H locs) {κ : List Value → cm_M → Prop} (h : cm_ib T M st κ)
    (kk : ∀ st' M' H' locs', κ st' M' → cm_P G A0 s.heap T M' H' locs' → W p l e R s m args below meth c H' locs' cells slots Z (F0 m (pc + 1) ls st')) : W p l e R s m args below meth c H locs cells slots Z (F0 m pc ls st) := by
  obtain ⟨hexec, hb, hml, hown, -, hts, hK⟩ := X
  match st, h with
  | .int x :: .int j :: .ref a :: r, ⟨hk, hj, h⟩ =>
    obtain ⟨n1, n2⟩ := cm_nat hj
    have hc := cm_arr_at hP hk (by omega) (by omega)
    refine W.iast hexec hb hc ((hK.1.2 0 _ rfl).1 _ _) (fun q => by cases q) (by rw [arrV_size]; exact cm_vpin hj) rfl rfl hdg fun H' e1 e2 e3 => ?_
    refine kk _ _ H' _ h (cm_P_upd hP (by omega) (fun b j hb => cm_upd_ne hb) (fun _ _ _ => rfl) (fun _ _ _ => rfl) e2 e3 ⟨fun _ z => by omega, fun _ _ => ?_, fun z => by omega⟩)
    rw [e1, arrV_store, hk]
    congr 2
    funext i
    by_cases hi : i = j.toNatClampNeg
    · subst hi
      simp [updV, cm_ev, cm_wi, n1]
    · have hne : ¬ ((i : Int) = j.toInt) := by omega
      simp [updV, cm_ev, cm_wi, hi, hne]
theorem cm_slb (X : cm_X p s m args meth c cc maxL J G) (hdg : decode cc pc = .ok (.lastore, 1)) (hP : cm_P G A0 s.heap T M H locs) {κ : List Value → cm_M → Prop} (h : cm_lb T M st κ)
    (kk : ∀ st' M' H' locs', κ st' M' → cm_P G A0 s.heap T M' H' locs' → W p l e R s m args below meth c H' locs' cells slots Z (F0 m (pc + 1) ls st')) : W p l e R s m args below meth c H locs cells slots Z (F0 m pc ls st) := by
  obtain ⟨hexec, hb, hml, hown, -, hts, hK⟩ := X
  match st, h with
  | .long x :: .int j :: .ref a :: r, ⟨hk, hj, h⟩ =>
    obtain ⟨n1, n2⟩ := cm_nat hj
    have hc := cm_arr_at hP hk (by omega) (by omega)
    refine W.last hexec hb hc ((hK.1.2 1 _ rfl).1 _ _) (fun q => by cases q) (by rw [arrV_size]; exact cm_vpin hj) rfl rfl hdg fun H' e1 e2 e3 => ?_
    refine kk _ _ H' _ h (cm_P_upd hP (by omega) (fun _ _ _ => rfl) (fun b j hb => cm_upd_ne hb) (fun _ _ _ => rfl) e2 e3 ⟨fun _ z => by omega, fun _ _ => ?_, fun z => by omega⟩)
    rw [e1, arrV_store, hk]
    congr 2
    funext i
    by_cases hi : i = j.toNatClampNeg
    · subst hi
      simp [updV, cm_ev, cm_wl, n1]
    · have hne : ¬ ((i : Int) = j.toInt) := by omega
      simp [updV, cm_ev, cm_wl, hi, hne]
theorem cm_sab (X : cm_X p s m args meth c cc maxL J G) (hdg : decode cc pc = .ok (.aastore, 1)) (hP : cm_P G A0 s.heap T M H locs) {κ : List Value → cm_M → Prop} (h : cm_ab T M st κ)
    (kk : ∀ st' M' H' locs', κ st' M' → cm_P G A0 s.heap T M' H' locs' → W p l e R s m args below meth c H' locs' cells slots Z (F0 m (pc + 1) ls st')) : W p l e R s m args below meth c H locs cells slots Z (F0 m pc ls st) := by
  obtain ⟨hexec, hb, hml, hown, -, hts, hK⟩ := X
  match st, h with
  | .ref x :: .int j :: .ref a :: r, ⟨hk, hx, hj, h⟩ =>
    obtain ⟨n1, n2⟩ := cm_nat hj
    obtain ⟨C, hC, hlt, hA, kA, comp, k1, k2, k3, -⟩ := cm_refty hK hk
    have hxk : T.1 x = (T.1 a - 22) + 1 := by omega
    obtain ⟨cellV, g1, g2, g3, -⟩ := cm_obj_at hP hxk hlt
    have hcls := (hK.1.1 _ _ (cm_cls hlt)).2
    have hc := cm_arr_at hP rfl (show 9 ≤ T.1 a by omega) (by omega)
    subst hC
    have hcomp : comp = G.1.1 (T.1 a - 22) := Option.some.inj (k3.symm.trans hcls.1)
    subst hcomp
    obtain ⟨kC, hkC, -⟩ := hcls.2
    refine W.aast hexec hb hc (fun q h => by cases h) (fun h => by cases h) k1 k2 rfl hkC ⟨fun q => cm_vpin hj (Or.inl q), by rw [arrV_size]; exact n2⟩ g1 (fun q h => by rw [g3] at h; cases h) (by rw [g2]; exact hkC) (by rw [g2]; exact va_assign hcls) rfl rfl hdg fun H' e1 e2 e3 => ?_
    refine kk _ _ H' _ h (cm_P_upd hP (by omega) (fun _ _ _ => rfl) (fun _ _ _ => rfl) (fun b j hb => cm_upd_ne hb) e2 e3 ⟨fun _ z => by omega, fun _ _ => ?_, fun z => by omega⟩)
    rw [e1, arrV_store]
    congr 2
    funext i
    rw [cm_evr hk]
    by_cases hi : i = j.toNatClampNeg
    · subst hi
      simp [updV, cm_wr, n1, va_rf]
    · have hne : ¬ ((i : Int) = j.toInt) := by omega
      simp [updV, cm_wr, hi, hne, cm_evr hk]
theorem cm_sal (X : cm_X p s m args meth c cc maxL J G) (hdg : decode cc pc = .ok (.arraylength, 1)) (hP : cm_P G A0 s.heap T M H locs) {κ : List Value → Prop} (h : cm_al T st κ)
    (kk : ∀ st', κ st' → W p l e R s m args below meth c H locs cells slots Z (F0 m (pc + 1) ls st')) : W p l e R s m args below meth c H locs cells slots Z (F0 m pc ls st) := by
  obtain ⟨hexec, hb, hml, hown, -, hts, hK⟩ := X
  match st, h with
  | .ref a :: r, ⟨hk, h⟩ =>
    have hw : (T.2.1 a).toInt32 = w3 ((T.2.1 a : Nat) : Int) := (Int32.ofInt_eq_ofNat).symm
    rcases hk with hk | hk | hk | hk
    · exact W.alen (n := w3 (T.2.1 a)) hexec hb (cm_arr_at hP hk (by omega) (by omega)) ((hK.1.2 0 _ rfl).1 _ _) (by rw [arrV_size]; exact hw) rfl rfl hdg (kk _ h)
    · exact W.alen (n := w3 (T.2.1 a)) hexec hb (cm_arr_at hP hk (by omega) (by omega)) ((hK.1.2 1 _ rfl).1 _ _) (by rw [arrV_size]; exact hw) rfl rfl hdg (kk _ h)
    · exact W.alen (n := w3 (T.2.1 a)) hexec hb (cm_arr_at hP hk (by omega) (by omega)) ((hK.1.2 3 _ rfl).1 _ _) (by rw [arrV_size]; exact hw) rfl rfl hdg (kk _ h)
    · obtain ⟨q1, q2, q3⟩ := (hP.1.2 a).2.2 hk
      exact W.alen (n := w3 (T.2.1 a)) hexec hb q1 hK.2.1 (by rw [q2]; exact hw) rfl rfl hdg (kk _ h)
theorem cm_df {M : cm_M} {ty : FieldType} {a k : Nat} (h : cm_tg ty ≠ 9) : defaultValue ty = cm_fv (cm_zm M a) ty a k := by
  cases ty <;> simp_all [cm_tg, cm_fv, cm_zm, defaultValue, va_rf]
theorem cm_tg9 {ci : Nat} (h : ci < 8) : ∀ k, k < cm_nf ci → cm_tg (cm_ty ci k) ≠ 9 := by
  match ci, h with
  | 0, _ => decide
  | 1, _ => decide
  | 2, _ => decide
  | 3, _ => decide
  | 4, _ => decide
  | 5, _ => decide
  | 6, _ => decide
  | 7, _ => decide
  | n + 8, h => exact absurd h (by omega)
def cm_ins : Nat → Cond
  | ci => .instantiable (cm_R ci) (cm_nf ci)
theorem cm_in0 : ∀ ci, ci < 8 → cm_ins ci ∈ cm_tb ∧ Cond.initialized (cm_R ci) ∈ cm_tb := by decide +kernel
theorem cm_snw (X : cm_X p s m args meth c cc maxL J G) {x ci : Nat} (hx : x < 1000) (hf : cm_kl J.1 x = some ci) (hdg : decode cc pc = .ok (.new x, 3)) (hP : cm_P G A0 s.heap T M H locs) (hc : cells + 1 ≤ R.cells) (hs : slots + cm_nf ci ≤ R.slots)
    (kk : ∀ H', cm_P G A0 s.heap (cm_tn T (ci + 1) 0) (cm_zm M T.2.2) H' locs → W p l e R s m args below meth c H' locs (cells + 1) (slots + cm_nf ci) Z (F0 m (pc + 3) ls (.ref T.2.2 :: st))) : W p l e R s m args below meth c H locs cells slots Z (F0 m pc ls st) := by
  obtain ⟨hexec, hb, hml, hown, -, hts, hK⟩ := X
  obtain ⟨hlink, hci⟩ := cm_kl_ok hx hf
  obtain ⟨i1, i2⟩ := cm_in0 ci hci
  have hKn := hK.1.1 ci _ (cm_cls hci)
  refine W.newcK hexec hb hown (hts _ hlink) (hts _ i1) (hts _ i2) rfl hdg hc hs hKn.2.1 hP.1.1 fun H' kC hkC e1 e2 e3 => ?_
  have hsz := hP.1.1
  refine kk H' (cm_P_new hP (by omega) (by omega) (fun q hq => e3 q (by omega)) ⟨fun _ _ => ?_, fun z => by omega, fun z => by omega⟩)
  exact (u_born (cm_ty ci) hts (cm_uin hci) hKn hkC e1 (cm_uty hci)).to (fun k hk => cm_df (cm_tg9 hci k hk))
theorem cm_sna (X : cm_X p s m args meth c cc maxL J G) {atype : ArrayType} {kd : Nat} {n : Int32} {r : List Value} (hkd : (atype = .int ∧ kd = 20) ∨ (atype = .long ∧ kd = 21)) (hdg : decode cc pc = .ok (.newarray atype, 2)) (hP : cm_P G A0 s.heap T M H locs) (h0 : 0 ≤ n.toInt) (h1 : n.toInt ≤ 100000) (hc : cells + 1 ≤ R.cells) (hs : slots + n.toInt.toNat ≤ R.slots)
    (kk : ∀ H', cm_P G A0 s.heap (cm_tn T kd n.toInt.toNat) (cm_zm M T.2.2) H' locs → W p l e R s m args below meth c H' locs (cells + 1) (slots + n.toInt.toNat) Z (F0 m (pc + 2) ls (.ref T.2.2 :: r))) : W p l e R s m args below meth c H locs cells slots Z (F0 m pc ls (.int n :: r)) := by
  obtain ⟨hexec, hb, hml, hown, -, hts, hK⟩ := X
  have hn : ¬ n < 0 := fun q => by
    have := Int32.lt_iff_toInt_lt.mp q
    rw [Int32.toInt_zero] at this
    omega
  have hsz := hP.1.1
  rcases hkd with ⟨rfl, rfl⟩ | ⟨rfl, rfl⟩
  · refine va_newaK (atype := .int) (N := n.toInt.toNat) hexec hb (hts (.arrayClass .int) (by decide +kernel)) rfl hdg rfl hn rfl (by show _ * 4 ≤ _; omega) hc hs hsz fun H' cA e1 e2 e3 hA hF => ?_
    have hcA : cA = G.2.1 20 := Option.some.inj (hF.symm.trans (hK.1.2 0 _ rfl).2)
    refine kk H' (cm_P_new hP (by omega) (by omega) (fun q hq => e3 q (by omega)) ⟨fun _ z => by omega, fun _ _ => ?_, fun z => by omega⟩)
    rw [e1, hcA]
    congr 2
    funext j
    simp [cm_ev, cm_zm, defaultValue, newarray.typeOf]
  · refine va_newaK (atype := .long) (N := n.toInt.toNat) hexec hb (hts (.arrayClass .long) (by decide +kernel)) rfl hdg rfl hn rfl (by show _ * 8 ≤ _; omega) hc hs hsz fun H' cA e1 e2 e3 hA hF => ?_
    have hcA : cA = G.2.1 21 := Option.some.inj (hF.symm.trans (hK.1.2 1 _ rfl).2)
    refine kk H' (cm_P_new hP (by omega) (by omega) (fun q hq => e3 q (by omega)) ⟨fun _ z => by omega, fun _ _ => ?_, fun z => by omega⟩)
    rw [e1, hcA]
    congr 2
    funext j
    simp [cm_ev, cm_zm, defaultValue, newarray.typeOf]
theorem cm_san (X : cm_X p s m args meth c cc maxL J G) {x ci : Nat} {n : Int32} {r : List Value} (hx : x < 1000) (hf : cm_kl J.1 x = some ci) (hci : ci = 0 ∨ ci = 4 ∨ ci = 5) (hdg : decode cc pc = .ok (.anewarray x, 3)) (hP : cm_P G A0 s.heap T M H locs) (h0 : 0 ≤ n.toInt) (h1 : n.toInt ≤ 100000) (hc : cells + 1 ≤ R.cells) (hs : slots + n.toInt.toNat ≤ R.slots)
    (kk : ∀ H', cm_P G A0 s.heap (cm_tn T (22 + ci) n.toInt.toNat) (cm_zm M T.2.2) H' locs → W p l e R s m args below meth c H' locs (cells + 1) (slots + n.toInt.toNat) Z (F0 m (pc + 3) ls (.ref T.2.2 :: r))) : W p l e R s m args below meth c H locs cells slots Z (F0 m pc ls (.int n :: r)) := by
  obtain ⟨hexec, hb, hml, hown, -, hts, hK⟩ := X
  obtain ⟨hlink, -⟩ := cm_kl_ok hx hf
  have hn : ¬ n < 0 := fun q => by
    have := Int32.lt_iff_toInt_lt.mp q
    rw [Int32.toInt_zero] at this
    omega
  have hsz := hP.1.1
  have hov : va_AO (cm_R ci) s := by
    rcases hci with rfl | rfl | rfl
    · exact hK.2.2.2.1
    · exact hK.2.2.2.2.1
    · exact hK.2.2.2.2.2
  have hRA : ∃ C, C = cm_R ci ∧ va_RA s (G.2.1 (22 + ci)) (.object C) := by
    rcases hci with rfl | rfl | rfl
    · exact ⟨_, rfl, (hK.1.2 2 _ rfl).2⟩
    · exact ⟨_, rfl, (hK.1.2 3 _ rfl).2⟩
    · exact ⟨_, rfl, (hK.1.2 4 _ rfl).2⟩
  obtain ⟨C, rfl, _, _, -, -, -, hnm⟩ := hRA
  refine W.anew hexec hb hown (hts _ hlink) (va_AO.use hov) rfl hdg rfl hn (by show n.toInt.toNat * 4 ≤ _; omega) hc hs fun cA kA comp g1 g2 g3 g4 => ?_
  have hcA : cA = G.2.1 (22 + ci) := Option.some.inj (g1.symm.trans hnm)
  show W p l e R s m args below meth c _ locs (cells + 1) (slots + n.toInt.toNat) Z (F0 m (pc + 3) ls (.ref H.size :: r))
  rw [hsz]
  refine kk _ (cm_P_new hP (by omega) (by simp) (fun q hq => by rw [Array.getElem?_push, if_neg (Nat.ne_of_lt hq)]) ⟨fun _ z => by omega, fun _ _ => ?_, fun z => by omega⟩)
  rw [← hsz, hcA]
  show (H.push _)[H.size]? = _
  rw [arrV_new]
  rw [Array.getElem?_push, if_pos rfl]
  congr 2
  funext j
  rw [cm_evr (by omega)]
  simp [cm_zm, va_rf]
end CMS2

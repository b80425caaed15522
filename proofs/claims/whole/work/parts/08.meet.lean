theorem cm_allgood : cm_tb.all goodWord = true := List.all_eq_true.mpr fun w hw => (List.mem_filter.mp hw).2
def cm_ws (y : MethodName) (bytes : ByteArray) (maxL : Nat) (ret : Option FieldType) : List Cond := .code y bytes maxL ret :: cm_tb
theorem cm_goodIn {y : MethodName} {bytes : ByteArray} {maxL : Nat} {ret : Option FieldType} (h : Cond.code y bytes maxL ret ∈ cm_tb) : GoodIn cm_tb (cm_ws y bytes maxL ret) := by
  intro w hw
  have hm : w ∈ cm_tb := by
    rcases List.mem_cons.mp hw with rfl | hw
    · exact h
    · exact hw
  exact ⟨hm, good_of_word (List.all_eq_true.mp cm_allgood w hm)⟩
def cm_rm (d mc ms : Nat) : Room := { frames := d + 1, cells := mc, slots := ms, locals := 64 * (d + 1) }
def cm_Met (d : Nat) (y : MethodName) (bytes : ByteArray) (maxL : Nat) (ret : Option FieldType) (mc ms : Nat) (S : cm_CT) : Prop := ∀ (l : Launch) (G : cm_G) (as : List Value) (T : cm_T) (M : cm_M) (Φ : Option Value → cm_T → cm_M → Prop), S as T M Φ →
  Met l y (cm_ws y bytes maxL ret) (cm_rm d mc ms) (va_Pc as (fun U => cm_Rep G T M U.heap ∧ cm_K G U))
    (fun _ st oc t => ∃ (v : Option Value) (T' : cm_T) (M' : cm_M), oc = .returned v ∧ Φ v T' M' ∧ cm_Rep G T' M' t.heap ∧ va_F (cm_A T) st t ∧ ∀ q, cm_A T' q → cm_A T q) mc ms (cm_A T)
theorem cm_K.moved {G : cm_G} {u U : State} (hvm : u.vm.Alike U.vm) (h : cm_K G u) : cm_K G U := ⟨va_K.moved hvm h.1, State.isArrayOf_alike hvm h.2.1, h.2.2.1, va_AO.moved hvm h.2.2.2.1, va_AO.moved hvm h.2.2.2.2.1, va_AO.moved hvm h.2.2.2.2.2⟩
def cm_rtok (rt : Nat) (ret : Option FieldType) : Prop := match rt, ret with
  | 0, none => True
  | 1, some .int => True
  | 2, some .boolean => True
  | 3, some .long => True
  | 4, some (.object _) => True
  | _, _ => False
theorem cm_ent_len : ∀ (n : Nat) (as : List Value), (cm_ent n as).length = n := by
  intro n as
  induction n, as using cm_ent.induct <;> simp_all [cm_ent]
theorem cm_ent_as : ∀ (n : Nat) (as : List Value) (i : Nat) (q : Nat × Value), q ∈ cm_as (cm_ent n as) i → q ∈ lv_args i as := by
  intro n as
  induction n, as using cm_ent.induct with
  | case1 as => intro i q h; simp [cm_ent, cm_as] at h
  | case2 n ih => intro i q h; simp only [cm_ent, cm_as] at h; exact absurd (ih _ _ h) (by simp [lv_args])
  | case3 n x vs ih =>
    intro i q h
    simp only [cm_ent, cm_as] at h
    rcases List.mem_cons.mp h with rfl | h
    · exact List.mem_cons_self
    · exact List.mem_cons_of_mem _ (by simpa [Value.category] using ih _ _ h)
  | case4 n x vs ih =>
    intro i q h
    simp only [cm_ent, cm_as] at h
    rcases List.mem_cons.mp h with rfl | h
    · exact List.mem_cons_self
    · exact List.mem_cons_of_mem _ (by simpa [Value.category] using ih _ _ h)
  | case5 n x vs ih =>
    intro i q h
    simp only [cm_ent, cm_as] at h
    rcases List.mem_cons.mp h with rfl | h
    · exact List.mem_cons_self
    · exact List.mem_cons_of_mem _ (by simpa [Value.category] using ih _ _ h)
  | case6 n vs ih =>
    intro i q h
    simp only [cm_ent, cm_as] at h
    rcases List.mem_cons.mp h with rfl | h
    · exact List.mem_cons_self
    · exact List.mem_cons_of_mem _ (by simpa [Value.category] using ih _ _ h)
  | case7 n v vs h1 h2 h3 h4 ih =>
    intro i q h
    simp only [cm_ent, cm_as] at h
    exact absurd (ih _ _ h) (by simp [lv_args])
theorem cm_lgsl : ∀ as : List Value, (lg_sl as).length = cm_cw as
  | [] => rfl
  | v :: as => by
    have h := cm_lgsl as
    have e : lg_sl (v :: as) = (if v.category = 2 then [.val v, .second] else [.val v]) ++ lg_sl as := rfl
    rw [e, List.length_append, h]
    cases v <;> simp [cm_cw, Value.category] <;> rfl
set_option maxHeartbeats 4000000 in
theorem cm_meets {d : Nat} {y : MethodName} {bytes : ByteArray} {maxL : Nat} {ret : Option FieldType} {mc ms : Nat} {S : cm_CT} {J : cm_J} (hy : plainName y.cls = true) (hc : y.cls = cm_R J.1) (hini : J.2.1 = true → y.name = "<init>") (hrt : cm_rtok J.2.2.1 ret)
    (h : ∀ as T M Φ, S as T M Φ → cm_cw as ≤ maxL ∧ cm_Go d bytes maxL mc ms J Φ 0 (cm_ent maxL as) [] (mc, ms) T M) : cm_Met d y bytes maxL ret mc ms S := by
  intro l G as T M Φ hS
  obtain ⟨hcw, hgo⟩ := h as T M Φ hS
  refine Met.ofW (cc := bytes) (maxL := maxL) (ret := ret) hy rfl ?_
  intro p e s m args below meth c s₁ B hml hv
  obtain ⟨rfl, hrep, hK⟩ := hv
  have hx := B.exec
  have hb := B.bytes
  have hr := B.returns
  have hts := atoms_spec (ws := cm_ws y bytes maxL ret) B.pre
  have hown : s.vm.findClass (cm_R J.1) = some m.cls := hc ▸ findClass_of_methodNamed B.named
  have hlocks := B.notSynchronized
  have hnm : meth.name = y.name := (name_of_methodNamed B.named B.method).1
  have hl := lv_entry as (n := maxL) (by rw [cm_lgsl]; exact hcw)
  rw [lg_entry_eq]
  generalize (lg_sl as ++ List.replicate (maxL - (lg_sl as).length) Slot.unset).toArray = ls at hl ⊢
  have hX : cm_X p s m as.toArray meth c bytes maxL J G := ⟨hx, hb, hml, hown, fun z => hnm.trans (hini z), fun w hw => hts w (List.mem_cons_of_mem _ hw), hK⟩
  refine hgo p l e _ s m as.toArray below meth c G (cm_A T) _ hX ⟨Nat.le_refl _, Nat.le_refl _⟩ ⟨Nat.le_refl _, Nat.le_refl _⟩ ?_ s.heap [] 0 0 ls ⟨⟨hrep, va_S.rf, fun q hq => hq⟩, by omega, by omega, ⟨⟨hl.1, hl.2.1, fun q hq => hl.2.2 q (cm_ent_as _ _ _ _ hq)⟩, cm_ent_len _ _⟩⟩
  intro i v pc T' M' H locs cells slots ls' hdec hi hρ hP hc1 hc2
  refine W.widen hc1 hc2 ?_
  have hq : ∀ t : State, t.heap = H → s.WarmedH t.vm → ∃ (v' : Option Value) (T' : cm_T) (M' : cm_M), Outcome.returned v = .returned v' ∧ Φ v' T' M' ∧ cm_Rep G T' M' t.heap ∧ va_F (cm_A T) s t ∧ ∀ q, cm_A T' q → cm_A T q :=
    fun t ht hw => ⟨v, T', M', rfl, hρ, by rw [ht]; exact hP.1, hP.2.1.F ht, hP.2.2⟩
  have hf : ∀ q ∈ locs, cm_A T q.base := hP.2.1.2.2
  rcases hi with ⟨rfl, h1, x, rfl, h2⟩ | ⟨rfl, h1, x, rfl⟩ | ⟨rfl, h1, h2⟩ | ⟨rfl, h1, rfl⟩
  · rcases h1 with h1 | h1
    · rw [h1] at hrt
      match ret, hrt, hr with
      | some .int, _, hr => exact W.iret hx hb hr hq hf hdec hlocks
    · rw [h1] at hrt
      match ret, hrt, hr with
      | some .boolean, _, hr => exact W.zret hx hb hr (by rcases h2 h1 with rfl | rfl <;> rfl) hq hf hdec hlocks
  · rw [h1] at hrt
    match ret, hrt, hr with
    | some .long, _, hr => exact W.lret hx hb hr hq hf hdec hlocks
  · rw [h1] at hrt
    match ret, hrt, hr with
    | some (.object n), _, hr =>
      rcases h2 with rfl | ⟨a, rfl⟩
      · exact W.aret hx hb hr (Or.inl ⟨n, rfl⟩) (Or.inl rfl) hq hf hdec hlocks
      · exact W.aret hx hb hr (Or.inl ⟨n, rfl⟩) (Or.inr ⟨a, rfl⟩) hq hf hdec hlocks
  · rw [h1] at hrt
    match ret, hrt, hr with
    | none, _, hr => exact W.vret hx hb hr hq hf hdec hlocks
theorem cm_blind {G : cm_G} {T : cm_T} {M : cm_M} {as : List Value} : FrameBlind (va_Pc as (fun U => cm_Rep G T M U.heap ∧ cm_K G U)) := fun a U g mk q => ⟨q.1, q.2.1, cm_K.moved (u := U) (U := U.calling g mk a) (Vm.Alike.refl U.vm) q.2.2⟩
section CMC
variable {p : Program} {l : Launch} {e : Env} {R : Room} {s : State} {m : MethodId} {args : Array Value} {below : List Frame} {meth : Method} {c : Code} {H : Heap} {locs : List Loc} {cells slots mc ms : Nat} {Z : State → Prop} {G : cm_G} {A0 : Nat → Prop} {pc : Nat} {T : cm_T} {M : cm_M} {ls : Array Slot} {st r : List Value}
theorem cm_run_w {Φ : Option Value → cm_T → cm_M → Prop} (hP : cm_P G A0 s.heap T M H locs)
    (hr : va_Run p l e R s m args below meth c H locs cells slots mc ms (F0 m pc ls st) r (fun st oc t => ∃ (v : Option Value) (T' : cm_T) (M' : cm_M), oc = .returned v ∧ Φ v T' M' ∧ cm_Rep G T' M' t.heap ∧ va_F (cm_A T) st t ∧ ∀ q, cm_A T' q → cm_A T q) (cm_A T))
    (kk : ∀ (v : Option Value) (T' : cm_T) (M' : cm_M) (H' : Heap) (locs' : List Loc), Φ v T' M' → cm_P G A0 s.heap T' M' H' locs' → W p l e R s m args below meth c H' locs' (cells + mc) (slots + ms) Z (F0 m (pc + 3) ls (v.toList ++ r))) :
    W p l e R s m args below meth c H locs cells slots Z (F0 m pc ls st) := by
  intro S hS X
  obtain ⟨v, st₀, t, S', L, h0, X', hL, e1, e2, ⟨v', T', M', hv, hp, hrep, ⟨hz, hk⟩, hA⟩, st⟩ := hr S hS X
  cases hv
  rw [h0] at hz hk
  obtain ⟨g1, ⟨g2, g3, g4⟩, g5⟩ := hP
  obtain ⟨t2, a1, b1⟩ := kk v T' M' S'.heap (locs ++ L) hp ⟨by rw [e1]; exact hrep, ⟨Nat.le_trans g2 (by rw [e1]; exact hz), fun q h1 h2 => by rw [e1, hk q (Nat.lt_of_lt_of_le h1 g2) (fun z => h2 (g5 q z))]; exact g3 q h1 h2, fun q hq => by
      rcases List.mem_append.mp hq with h | h
      · exact g4 q h
      · exact g5 _ (hL q h)⟩, fun q hq => g5 q (hA q hq)⟩ S' rfl X'
  exact ⟨t2, st t2 a1, b1⟩
end CMC
def cm_desc (y : MethodName) (n : Nat) : Prop := y.cls ≠ "java/lang/invoke/MethodHandle" ∧ y.cls ≠ "java/lang/invoke/VarHandle" ∧ (parseMethodDescriptor y.desc).map (fun d => d.parameters.length) = some n
theorem cm_calS {d d' o x n rk mc ms : Nat} {y : MethodName} {bytes : ByteArray} {maxL : Nat} {ret : Option FieldType} {S : cm_CT} (hM : cm_Met d' y bytes maxL ret mc ms S) (hd : d' < d) (hL : maxL ≤ 45) (hw : Cond.code y bytes maxL ret ∈ cm_tb) (hlk : Cond.methodLink (cm_R o) x y ∈ cm_tb) (hst : Cond.static y ∈ cm_tb) (hin : Cond.initialized y.cls ∈ cm_tb) (hds : cm_desc y n) : cm_Cal d o (.invokestatic x) (n, rk, mc, ms, S) := by
  intro p l e R s m args below meth c H locs cells slots Z cc J G A0 mL pc T M ls as r Φ X ho hR hdec hls hP hroom hlen hrk hcw hS kk
  obtain ⟨hx, hb, hml, hown, -, hts, hK⟩ := X
  subst ho
  have hcb : CallB R s args (cm_R J.1) x y bytes maxL ret (cm_ws y bytes maxL ret) (cm_rm d' mc ms) mc ms n := callB_of n hts (cm_goodIn hw) rfl rfl rfl (hts _ hin) (hts _ hlk) hds ⟨by show d' + 1 + 1 ≤ _; omega, by show 8 + (maxL + 11) + 64 * (d' + 1) ≤ _; omega⟩
  refine cm_run_w hP (va_runS (As := as) (rest := r) ⟨hx, hb, hml, hown, hts⟩ (hM l G as T M Φ hS) ⟨hcb, hts _ hst⟩ ⟨cm_blind, fun U hU hW => ⟨rfl, by rw [hU]; exact hP.1, cm_K.moved hW.alike hK⟩⟩ rfl hlen hls rfl (lv_room (by rw [cm_cw_sum]; exact hcw)) hdec hroom) kk
theorem cm_calV {d d' o x n ci mc ms : Nat} {y : MethodName} {bytes : ByteArray} {maxL : Nat} {ret : Option FieldType} {S : cm_CT} (hM : cm_Met d' y bytes maxL ret mc ms S) (hd : d' < d) (hL : maxL ≤ 45) (hci : ci < 8) (hyc : y.cls = cm_R ci) (hw : Cond.code y bytes maxL ret ∈ cm_tb) (hlk : Cond.methodLink (cm_R o) x y ∈ cm_tb) (hst : Cond.instanceMethod y ∈ cm_tb) (hsel : Cond.selects (cm_R ci) y y ∈ cm_tb) (hds : cm_desc y n) : cm_Cal d o (.invokevirtual x) (n + 1, ci + 1, mc, ms, S) := by
  intro p l e R s m args below meth c H locs cells slots Z cc J G A0 mL pc T M ls as r Φ X ho hR hdec hls hP hroom hlen hrk hcw hS kk
  obtain ⟨hx, hb, hml, hown, -, hts, hK⟩ := X
  subst ho
  have hin : (Cond.initialized y.cls).before args s = true := by rw [hyc]; exact hts _ (cm_in0 ci hci).2
  have hcb : CallB R s args (cm_R J.1) x y bytes maxL ret (cm_ws y bytes maxL ret) (cm_rm d' mc ms) mc ms n := callB_of n hts (cm_goodIn hw) rfl rfl rfl hin (hts _ hlk) hds ⟨by show d' + 1 + 1 ≤ _; omega, by show 8 + (maxL + 11) + 64 * (d' + 1) ≤ _; omega⟩
  match as, hlen, hrk, hS, kk with
  | .ref a :: As, hlen, hrk, hS, kk =>
    have hrk : T.1 a = ci + 1 := hrk
    obtain ⟨cell, q1, q2, q3, q4⟩ := cm_obj_at hP hrk hci
    have hkn := hK.1.1 ci _ (cm_cls hci)
    rw [List.reverse_cons, List.append_assoc]
    refine cm_run_w hP (va_runV (C := cm_R ci) (b := a) (As := As) (rest := r) ⟨hx, hb, hml, hown, hts⟩ (hM l G _ T M Φ hS) ⟨hcb, hts _ hst, hts _ hsel⟩ ⟨cm_blind, ⟨cell, q1, by rw [q3]; rfl, by rw [q2]; exact hkn.2.1⟩, fun U hU hW => ⟨rfl, by rw [hU]; exact hP.1, cm_K.moved hW.alike hK⟩⟩ rfl (by simpa using hlen) hls rfl (lv_room (by rw [cm_cw_sum]; exact hcw)) hdec hroom) kk
theorem cm_calI {d d' o x n ci mc ms : Nat} {y : MethodName} {bytes : ByteArray} {maxL : Nat} {S : cm_CT} (hM : cm_Met d' y bytes maxL none mc ms S) (hd : d' < d) (hL : maxL ≤ 45) (hci : ci < 8) (hyc : y.cls = cm_R ci) (hyn : y.name = "<init>") (hw : Cond.code y bytes maxL none ∈ cm_tb) (hlk : Cond.methodLink (cm_R o) x y ∈ cm_tb) (hst : Cond.instanceMethod y ∈ cm_tb) (hds : cm_desc y n) : cm_Cal d o (.invokespecial x) (n + 1, ci + 1, mc, ms, S) := by
  intro p l e R s m args below meth c H locs cells slots Z cc J G A0 mL pc T M ls as r Φ X ho hR hdec hls hP hroom hlen hrk hcw hS kk
  obtain ⟨hx, hb, hml, hown, -, hts, hK⟩ := X
  subst ho
  have hin : (Cond.initialized y.cls).before args s = true := by rw [hyc]; exact hts _ (cm_in0 ci hci).2
  have hcb : CallB R s args (cm_R J.1) x y bytes maxL none (cm_ws y bytes maxL none) (cm_rm d' mc ms) mc ms n := callB_of n hts (cm_goodIn hw) rfl rfl rfl hin (hts _ hlk) hds ⟨by show d' + 1 + 1 ≤ _; omega, by show 8 + (maxL + 11) + 64 * (d' + 1) ≤ _; omega⟩
  match as, hlen, hrk, hS, kk with
  | .ref a :: As, hlen, hrk, hS, kk =>
    rw [List.reverse_cons, List.append_assoc]
    refine cm_run_w hP (va_runI (b := a) (As := As) (rest := r) ⟨hx, hb, hml, hown, hts⟩ (hM l G _ T M Φ hS) ⟨hcb, hyn, hts _ hst⟩ ⟨cm_blind, fun U hU hW => ⟨rfl, by rw [hU]; exact hP.1, cm_K.moved hW.alike hK⟩⟩ rfl (by simpa using hlen) hls rfl (lv_room (by rw [cm_cw_sum]; exact hcw)) hdec hroom) kk
def cm_Sobj : cm_CT := fun as T M Φ => ∃ a, as = [.ref a] ∧ Φ none T M
theorem cm_calO {d o x : Nat} (hlk : Cond.methodLink (cm_R o) x objectInit ∈ cm_tb) : cm_Cal d o (.invokespecial x) (1, 0, 0, 0, cm_Sobj) := by
  intro p l e R s m args below meth c H locs cells slots Z cc J G A0 mL pc T M ls as r Φ X ho hR hdec hls hP hroom hlen hrk hcw hS kk
  obtain ⟨hx, hb, hml, hown, -, hts, hK⟩ := X
  subst ho
  obtain ⟨a, rfl, hΦ⟩ := hS
  exact W.objInit hx hb hown (hts _ hlk) (hts (.instanceMethod objectInit) (by decide +kernel)) (hts (.code objectInit ⟨#[0xb1]⟩ 1 none) (by decide +kernel)) rfl (hls.trans hml.symm) rfl hdec (by omega) (by show 2 * 0 + (r.map fun v => v.category).sum + 12 ≤ _; rw [cm_cw_sum]; omega) (kk none T M H locs hΦ hP)
/-- System.arraycopy between int rows -/
def cm_cp (M : cm_M) (a b : Nat) (i j n : Int) : cm_M := (fun q k => if q = b ∧ j ≤ k ∧ k < j + n then M.1 a (i + (k - j)) else M.1 q k, M.2.1, M.2.2)
def cm_Scpy : cm_CT := fun as T M Φ => ∃ (a b : Nat) (i j n : Int32), as = [.ref a, .int i, .ref b, .int j, .int n] ∧ T.1 a = 20 ∧ T.1 b = 20 ∧ 0 ≤ i.toInt ∧ 0 ≤ j.toInt ∧ 0 ≤ n.toInt ∧ i.toInt + n.toInt ≤ (T.2.1 a : Int) ∧ j.toInt + n.toInt ≤ (T.2.1 b : Int) ∧ Φ none T (cm_cp M a b i.toInt j.toInt n.toInt)
set_option maxHeartbeats 4000000 in
theorem cm_calC {d o x : Nat} (hlk : Cond.methodLink (cm_R o) x arraycopyName ∈ cm_tb) : cm_Cal d o (.invokestatic x) (5, 0, 0, 0, cm_Scpy) := by
  intro p l e R s m args below meth c H locs cells slots Z cc J G A0 mL pc T M ls as r Φ X ho hR hdec hls hP hroom hlen hrk hcw hS kk
  obtain ⟨hx, hb, hml, hown, -, hts, hK⟩ := X
  subst ho
  obtain ⟨a, b, i, j, n, rfl, ka, kb, i0, j0, n0, h1, h2, hΦ⟩ := hS
  have nlt : ∀ z : Int32, 0 ≤ z.toInt → ¬ z < 0 := fun z hz q => by
    have := Int32.lt_iff_toInt_lt.mp q
    rw [Int32.toInt_zero] at this
    omega
  have hca := cm_arr_at hP ka (by omega) (by omega)
  have hcb := cm_arr_at hP kb (by omega) (by omega)
  obtain ⟨-, k0, hk0, cm0, hkk0⟩ := (hK.1.2 0 _ rfl).1 (T.2.1 a) (cm_ev M 20 a)
  obtain ⟨-, k1, hk1, cm1, hkk1⟩ := (hK.1.2 0 _ rfl).1 (T.2.1 b) (cm_ev M 20 b)
  have ei : ((i.toNatClampNeg : Nat) : Int) = i.toInt := Int.toNat_of_nonneg i0
  have ej : ((j.toNatClampNeg : Nat) : Int) = j.toInt := Int.toNat_of_nonneg j0
  have en : ((n.toNatClampNeg : Nat) : Int) = n.toInt := Int.toNat_of_nonneg n0
  show W p l e R s m args below meth c H locs cells slots Z (F0 m pc ls (.int n :: .int j :: .ref b :: .int i :: .ref a :: r))
  have hnw : nativeFrameWords "java/lang/System" "arraycopy" 5 ≤ 40 := by decide +kernel
  have hroom2 : 2 * 0 + (r.map fun v => v.category).sum + (nativeFrameWords "java/lang/System" "arraycopy" 5 + 11) ≤ R.locals := by
    rw [cm_cw_sum]
    omega
  intro S hS X
  obtain ⟨vm', X', step⟩ := X.arraycopy hx hown (hts _ hlk) (hts (.native arraycopyName) (by decide +kernel)) (hts (.static arraycopyName) (by decide +kernel)) (hts (.initialized "java/lang/System") (by decide +kernel)) (src := a) (dst := b) (cs := arrV (G.2.1 20) (T.2.1 a) (cm_ev M 20 a)) (cd := arrV (G.2.1 20) (T.2.1 b) (cm_ev M 20 b)) (srcPos := i) (destPos := j) (n := n) (by rw [hS]; exact hca) (by rw [hS]; exact hcb)
    (fun _ h => by cases h) (fun _ h => by cases h) (fun h => by cases h) (fun h => by cases h) hk0 hk1 hkk0 hkk1 (by simp [refKind]) (nlt i i0) (nlt j j0) (nlt n n0)
    (by rw [arrV_size]; omega)
    (by rw [arrV_size]; omega)
    (fun vm₁ _ k hk => by
      have e : (arrV (G.2.1 20) (T.2.1 a) (cm_ev M 20 a)).slots.getD (i.toNatClampNeg + k) .null = .int (M.1 a ((i.toNatClampNeg + k : Nat) : Int)) := by
        rw [Array.getD_eq_getD_getElem?, arrV_read _ _ (by omega)]
        rfl
      refine ⟨?_, ?_⟩
      · rw [e]; rfl
      · rw [e]; exact trivial)
    (g := F0 m pc ls (.int n :: .int j :: .ref b :: .int i :: .ref a :: r)) rfl (hls.trans hml.symm) (rest := r) rfl (by rw [hb]; exact hdec) (by omega) hroom2
  have e0 : ∀ q : Nat, cm_ev M 20 q = fun k : Nat => Value.int (M.1 q (k : Int)) := fun q => by funext k; rfl
  have e1 : copied (arrV (G.2.1 20) (T.2.1 a) (cm_ev M 20 a)) (arrV (G.2.1 20) (T.2.1 b) (cm_ev M 20 b)) i j n = arrV (G.2.1 20) (T.2.1 b) (cm_ev (cm_cp M a b i.toInt j.toInt n.toInt) 20 b) := by
    rw [e0 a, e0 b]
    refine (va_copied (fun z => .int z) (G.2.1 20) (G.2.1 20) (fun k : Nat => M.1 a (k : Int)) (fun k : Nat => M.1 b (k : Int)) (by omega)).trans ?_
    congr 1
    funext k
    show Value.int (va_cpy _ _ _ _ _ k) = Value.int (if b = b ∧ j.toInt ≤ (k : Int) ∧ (k : Int) < j.toInt + n.toInt then M.1 a (i.toInt + ((k : Int) - j.toInt)) else M.1 b (k : Int))
    unfold va_cpy
    by_cases hk : j.toNatClampNeg ≤ k ∧ k < j.toNatClampNeg + n.toNatClampNeg
    · rw [if_pos hk, if_pos ⟨rfl, by omega, by omega⟩]
      have ek : ((i.toNatClampNeg + (k - j.toNatClampNeg) : Nat) : Int) = i.toInt + ((k : Int) - j.toInt) := by omega
      exact congrArg (fun z => Value.int (M.1 a z)) ek
    · rw [if_neg hk, if_neg (fun z => hk ⟨by omega, by omega⟩)]
  rw [e1] at X' step
  have hl : b < H.size := (Array.getElem?_eq_some_iff.mp hcb).1
  have hheap : ((S.setVm vm').setCell b (arrV (G.2.1 20) (T.2.1 b) (cm_ev (cm_cp M a b i.toInt j.toInt n.toInt) 20 b))).heap = H.setIfInBounds b (arrV (G.2.1 20) (T.2.1 b) (cm_ev (cm_cp M a b i.toInt j.toInt n.toInt) 20 b)) := by rw [← hS]; rfl
  have oq : ∀ q : Nat, q ≠ b → (H.setIfInBounds b (arrV (G.2.1 20) (T.2.1 b) (cm_ev (cm_cp M a b i.toInt j.toInt n.toInt) 20 b)))[q]? = H[q]? := fun q hq => by simp [Array.getElem?_setIfInBounds, Ne.symm hq]
  obtain ⟨g1, ⟨g2, g3, g4⟩, g5⟩ := hP
  have hb' : A0 b := g5 b (Or.inl (by omega))
  have hrp : ∀ q : Nat, cm_at G (cm_cp M a b i.toInt j.toInt n.toInt) (T.1 q) (T.2.1 q) q (H.setIfInBounds b (arrV (G.2.1 20) (T.2.1 b) (cm_ev (cm_cp M a b i.toInt j.toInt n.toInt) 20 b))) := by
    intro q
    by_cases hq : q = b
    · subst hq
      refine ⟨fun _ z => by omega, fun _ _ => ?_, fun z => by omega⟩
      rw [kb]
      simp [Array.getElem?_setIfInBounds, hl]
    · refine cm_at_cong (M := M) (fun k => ?_) (fun _ => rfl) (fun _ => rfl) (oq q hq) (g1.2 q)
      show (if q = b ∧ _ then _ else _) = _
      rw [if_neg (fun z => hq z.1)]
  obtain ⟨t, a1, b1⟩ := kk none T (cm_cp M a b i.toInt j.toInt n.toInt) _ _ hΦ ⟨⟨by simp; exact g1.1, hrp⟩, ⟨by simp; exact g2, fun q z1 z2 => by
      rw [oq q (fun e => z2 (by rw [e]; exact hb'))]
      exact g3 q z1 z2, fun q hq => by
      rcases List.mem_append.mp hq with h | h
      · exact g4 q h
      · obtain ⟨z, -, hz⟩ := List.mem_map.mp h
        rw [← hz]
        exact hb'⟩, g5⟩ _ hheap X'
  exact ⟨t, step t a1, b1⟩

theorem w3_add (a b : Int) : w3 a + w3 b = w3 (a + b) := (Int32.ofInt_add a b).symm
theorem w3_sub (a b : Int) : w3 a - w3 b = w3 (a - b) := (Int32.ofInt_sub a b).symm
theorem w3_mul (a b : Int) : w3 a * w3 b = w3 (a * b) := (Int32.ofInt_mul a b).symm
theorem w3_toInt {z : Int} (h1 : -2147483648 ≤ z) (h2 : z < 2147483648) : (w3 z).toInt = z := Int32.toInt_ofInt_of_le (by omega) (by omega)
theorem w3_self (x : Int32) : w3 x.toInt = x := Int32.ofInt_toInt x
theorem w3_lo (x : Int32) : -2147483648 ≤ x.toInt := by have := Int32.le_toInt x; omega
theorem w3_hi (x : Int32) : x.toInt < 2147483648 := by have := Int32.toInt_lt x; omega
theorem w3_lt {a b : Int} (h1 : -2147483648 ≤ a) (h2 : a < 2147483648) (h3 : -2147483648 ≤ b) (h4 : b < 2147483648) : (w3 a < w3 b) = (a < b) := by
  rw [Int32.lt_iff_toInt_lt, w3_toInt h1 h2, w3_toInt h3 h4]
theorem w3_le {a b : Int} (h1 : -2147483648 ≤ a) (h2 : a < 2147483648) (h3 : -2147483648 ≤ b) (h4 : b < 2147483648) : (w3 a ≤ w3 b) = (a ≤ b) := by
  rw [Int32.le_iff_toInt_le, w3_toInt h1 h2, w3_toInt h3 h4]
theorem w3_eq {a b : Int} (h1 : -2147483648 ≤ a) (h2 : a < 2147483648) (h3 : -2147483648 ≤ b) (h4 : b < 2147483648) : (w3 a = w3 b) = (a = b) := by
  apply propext
  refine ⟨fun h => ?_, fun h => by rw [h]⟩
  have := congrArg Int32.toInt h
  rwa [w3_toInt h1 h2, w3_toInt h3 h4] at this
theorem w3_z : (0 : Int32) = w3 0 := rfl
theorem w3_o : (1 : Int32) = w3 1 := rfl
theorem w3_ix {z : Int} {n : Nat} (h1 : -2147483648 ≤ z) (h2 : z < 2147483648) : cm_ix (w3 z) n = (0 ≤ z ∧ z < (n : Int)) := by
  unfold cm_ix
  rw [w3_toInt h1 h2]
theorem cm_okb0 : (w3 0 = 0 ∨ w3 0 = 1) = True := eq_true (Or.inl rfl)
theorem cm_okb1 : (w3 1 = 0 ∨ w3 1 = 1) = True := eq_true (Or.inr rfl)
section CN
variable {J : cm_J} {ln pc : Nat} {lv : cm_LV} {st : List Value} {B : Nat × Nat} {T : cm_T} {M : cm_M} {κ : Nat → cm_LV → List Value → Nat × Nat → cm_T → cm_M → Prop} {ρ : Option Value → cm_T → cm_M → Prop}
theorem cn_iconst {v : Int} : cm_stp J (.iconst v) ln pc lv st B T M κ ρ = κ (pc + ln) lv (.int (w3 v) :: st) B T M := propext Iff.rfl
theorem cn_lconst0  : cm_stp J (.lconst 0) ln pc lv st B T M κ ρ = κ (pc + ln) lv (.long (w6 0) :: st) B T M := propext Iff.rfl
theorem cn_lconst1  : cm_stp J (.lconst 1) ln pc lv st B T M κ ρ = κ (pc + ln) lv (.long (w6 1) :: st) B T M := propext Iff.rfl
theorem cn_null  : cm_stp J (.aconst_null) ln pc lv st B T M κ ρ = κ (pc + ln) lv (.null :: st) B T M := propext Iff.rfl
def cn_lo (o : Option Value) (κ : Nat → cm_LV → List Value → Nat × Nat → cm_T → cm_M → Prop) (pc : Nat) (lv : cm_LV) (st : List Value) (B : Nat × Nat) (T : cm_T) (M : cm_M) : Prop := cm_lo o st (fun st => κ pc lv st B T M)
def cn_loa (o : Option Value) (κ : Nat → cm_LV → List Value → Nat × Nat → cm_T → cm_M → Prop) (pc : Nat) (lv : cm_LV) (st : List Value) (B : Nat × Nat) (T : cm_T) (M : cm_M) : Prop := cm_loa o st (fun st => κ pc lv st B T M)
def cn_lol (o : Option Value) (κ : Nat → cm_LV → List Value → Nat × Nat → cm_T → cm_M → Prop) (pc : Nat) (lv : cm_LV) (st : List Value) (B : Nat × Nat) (T : cm_T) (M : cm_M) : Prop := cm_lol o st (fun st => κ pc lv st B T M)
theorem cn_iload {k : Nat} : cm_stp J (.iload k) ln pc lv st B T M κ ρ = cn_lo (cm_get lv k) κ (pc + ln) lv st B T M := propext Iff.rfl
theorem cn_aload {k : Nat} : cm_stp J (.aload k) ln pc lv st B T M κ ρ = cn_loa (cm_get lv k) κ (pc + ln) lv st B T M := propext Iff.rfl
theorem cn_lload {k : Nat} : cm_stp J (.lload k) ln pc lv st B T M κ ρ = cn_lol (cm_get lv k) κ (pc + ln) lv st B T M := propext Iff.rfl
theorem cn_lo1 {x : Int32} : cn_lo (some (.int x)) κ pc lv st B T M = κ pc lv (.int x :: st) B T M := propext Iff.rfl
theorem cn_loa1 {x : Nat} : cn_loa (some (.ref x)) κ pc lv st B T M = κ pc lv (.ref x :: st) B T M := propext Iff.rfl
theorem cn_loa2  : cn_loa (some .null) κ pc lv st B T M = κ pc lv (.null :: st) B T M := propext Iff.rfl
theorem cn_lol1 {x : Int64} : cn_lol (some (.long x)) κ pc lv st B T M = κ pc lv (.long x :: st) B T M := propext Iff.rfl
theorem cn_get0 {v : Option Value} {t : cm_LV} : cm_get (v :: t) 0 = v := Eq.trans rfl rfl
theorem cn_gets {v : Option Value} {t : cm_LV} {k : Nat} : cm_get (v :: t) (k + 1) = cm_get t k := Eq.trans rfl rfl
theorem cn_put0 {v w : Option Value} {t : cm_LV} : cm_put (v :: t) 0 w = w :: t := Eq.trans rfl rfl
theorem cn_puts {v w : Option Value} {t : cm_LV} {k : Nat} : cm_put (v :: t) (k + 1) w = v :: cm_put t k w := Eq.trans rfl rfl
theorem cn_istore {k : Nat} {x : Int32} {r : List Value} : cm_stp J (.istore k) ln pc lv (.int x :: r) B T M κ ρ = (cm_nl lv k = true ∧ cm_bd lv k = true ∧ κ (pc + ln) (cm_put lv k (some (.int x))) r B T M) := propext Iff.rfl
theorem cn_astore {k : Nat} {x : Nat} {r : List Value} : cm_stp J (.astore k) ln pc lv (.ref x :: r) B T M κ ρ = (cm_nl lv k = true ∧ cm_bd lv k = true ∧ κ (pc + ln) (cm_put lv k (some (.ref x))) r B T M) := propext Iff.rfl
theorem cn_astoreN {k : Nat} {r : List Value} : cm_stp J (.astore k) ln pc lv (.null :: r) B T M κ ρ = (cm_nl lv k = true ∧ cm_bd lv k = true ∧ κ (pc + ln) (cm_put lv k (some .null)) r B T M) := propext Iff.rfl
theorem cn_lstore {k : Nat} {x : Int64} {r : List Value} : cm_stp J (.lstore k) ln pc lv (.long x :: r) B T M κ ρ = (cm_nl lv k = true ∧ cm_bd lv (k + 1) = true ∧ κ (pc + ln) (cm_put (cm_put lv k (some (.long x))) (k + 1) none) r B T M) := propext Iff.rfl
def cn_in (o : Option Value) (k : Nat) (n : Int) (κ : Nat → cm_LV → List Value → Nat × Nat → cm_T → cm_M → Prop) (pc : Nat) (lv : cm_LV) (st : List Value) (B : Nat × Nat) (T : cm_T) (M : cm_M) : Prop := match o with
  | some (.int x) => cm_nl lv k = true ∧ κ pc (cm_put lv k (some (.int (x + w3 n)))) st B T M
  | _ => False
theorem cn_iinc {k : Nat} {n : Int} : cm_stp J (.iinc k n) ln pc lv st B T M κ ρ = cn_in (cm_get lv k) k n κ (pc + ln) lv st B T M := by
  show cm_in lv k n (fun lv => κ (pc + ln) lv st B T M) = _
  unfold cm_in cn_in
  rcases cm_get lv k with _ | _ | _ <;> rfl
theorem cn_in1 {x : Int32} {k : Nat} {n : Int} : cn_in (some (.int x)) k n κ pc lv st B T M = (cm_nl lv k = true ∧ κ pc (cm_put lv k (some (.int (x + w3 n)))) st B T M) := propext Iff.rfl
theorem cn_iadd {x y : Int32} {r : List Value} : cm_stp J (.iadd) ln pc lv (.int y :: .int x :: r) B T M κ ρ = κ (pc + ln) lv (.int (x + y) :: r) B T M := propext Iff.rfl
theorem cn_isub {x y : Int32} {r : List Value} : cm_stp J (.isub) ln pc lv (.int y :: .int x :: r) B T M κ ρ = κ (pc + ln) lv (.int (x - y) :: r) B T M := propext Iff.rfl
theorem cn_imul {x y : Int32} {r : List Value} : cm_stp J (.imul) ln pc lv (.int y :: .int x :: r) B T M κ ρ = κ (pc + ln) lv (.int (x * y) :: r) B T M := propext Iff.rfl
theorem cn_iand {x y : Int32} {r : List Value} : cm_stp J (.iand) ln pc lv (.int y :: .int x :: r) B T M κ ρ = κ (pc + ln) lv (.int (x &&& y) :: r) B T M := propext Iff.rfl
theorem cn_ior {x y : Int32} {r : List Value} : cm_stp J (.ior) ln pc lv (.int y :: .int x :: r) B T M κ ρ = κ (pc + ln) lv (.int (x ||| y) :: r) B T M := propext Iff.rfl
theorem cn_ixor {x y : Int32} {r : List Value} : cm_stp J (.ixor) ln pc lv (.int y :: .int x :: r) B T M κ ρ = κ (pc + ln) lv (.int (x ^^^ y) :: r) B T M := propext Iff.rfl
theorem cn_ishl {x y : Int32} {r : List Value} : cm_stp J (.ishl) ln pc lv (.int y :: .int x :: r) B T M κ ρ = κ (pc + ln) lv (.int (x <<< (y &&& 31)) :: r) B T M := propext Iff.rfl
theorem cn_ishr {x y : Int32} {r : List Value} : cm_stp J (.ishr) ln pc lv (.int y :: .int x :: r) B T M κ ρ = κ (pc + ln) lv (.int (x >>> (y &&& 31)) :: r) B T M := propext Iff.rfl
theorem cn_iushr {x y : Int32} {r : List Value} : cm_stp J (.iushr) ln pc lv (.int y :: .int x :: r) B T M κ ρ = κ (pc + ln) lv (.int ((x.toUInt32 >>> (y.toUInt32 &&& Int32.toUInt32 31)).toInt32) :: r) B T M := propext Iff.rfl
theorem cn_idiv {x y : Int32} {r : List Value} : cm_stp J (.idiv) ln pc lv (.int y :: .int x :: r) B T M κ ρ = (¬ y = 0 ∧ κ (pc + ln) lv (.int (x / y) :: r) B T M) := propext Iff.rfl
theorem cn_irem {x y : Int32} {r : List Value} : cm_stp J (.irem) ln pc lv (.int y :: .int x :: r) B T M κ ρ = (¬ y = 0 ∧ κ (pc + ln) lv (.int (x - x / y * y) :: r) B T M) := propext Iff.rfl
theorem cn_ladd {x y : Int64} {r : List Value} : cm_stp J (.ladd) ln pc lv (.long y :: .long x :: r) B T M κ ρ = κ (pc + ln) lv (.long (x + y) :: r) B T M := propext Iff.rfl
theorem cn_lmul {x y : Int64} {r : List Value} : cm_stp J (.lmul) ln pc lv (.long y :: .long x :: r) B T M κ ρ = κ (pc + ln) lv (.long (x * y) :: r) B T M := propext Iff.rfl
theorem cn_ldiv {x y : Int64} {r : List Value} : cm_stp J (.ldiv) ln pc lv (.long y :: .long x :: r) B T M κ ρ = (¬ y = 0 ∧ κ (pc + ln) lv (.long (x / y) :: r) B T M) := propext Iff.rfl
theorem cn_lrem {x y : Int64} {r : List Value} : cm_stp J (.lrem) ln pc lv (.long y :: .long x :: r) B T M κ ρ = (¬ y = 0 ∧ κ (pc + ln) lv (.long (x - x / y * y) :: r) B T M) := propext Iff.rfl
theorem cn_i2l {x : Int32} {r : List Value} : cm_stp J (.i2l) ln pc lv (.int x :: r) B T M κ ρ = κ (pc + ln) lv (.long x.toInt64 :: r) B T M := propext Iff.rfl
theorem cn_l2i {x : Int64} {r : List Value} : cm_stp J (.l2i) ln pc lv (.long x :: r) B T M κ ρ = κ (pc + ln) lv (.int x.toInt32 :: r) B T M := propext Iff.rfl
theorem cn_i2b {x : Int32} {r : List Value} : cm_stp J (.i2b) ln pc lv (.int x :: r) B T M κ ρ = κ (pc + ln) lv (.int x.toInt8.toInt32 :: r) B T M := propext Iff.rfl
theorem cn_lcmp {x y : Int64} {r : List Value} : cm_stp J (.lcmp) ln pc lv (.long y :: .long x :: r) B T M κ ρ = κ (pc + ln) lv (.int (lg_cmp x y) :: r) B T M := propext Iff.rfl
theorem cn_dupi {x : Int32} {r : List Value} : cm_stp J (.dup) ln pc lv (.int x :: r) B T M κ ρ = κ (pc + ln) lv (.int x :: .int x :: r) B T M := propext Iff.rfl
theorem cn_dupr {x : Nat} {r : List Value} : cm_stp J (.dup) ln pc lv (.ref x :: r) B T M κ ρ = κ (pc + ln) lv (.ref x :: .ref x :: r) B T M := propext Iff.rfl
theorem cn_dup2 {y : Int32} {x : Nat} {r : List Value} : cm_stp J (.dup2) ln pc lv (.int y :: .ref x :: r) B T M κ ρ = κ (pc + ln) lv (.int y :: .ref x :: .int y :: .ref x :: r) B T M := propext Iff.rfl
theorem cn_popi {x : Int32} {r : List Value} : cm_stp J (.pop) ln pc lv (.int x :: r) B T M κ ρ = κ (pc + ln) lv (r) B T M := propext Iff.rfl
theorem cn_popr {x : Nat} {r : List Value} : cm_stp J (.pop) ln pc lv (.ref x :: r) B T M κ ρ = κ (pc + ln) lv (r) B T M := propext Iff.rfl
theorem cn_goto {t : Int} : cm_stp J (.goto t) ln pc lv st B T M κ ρ = κ t.toNat lv st B T M := propext Iff.rfl
theorem cn_if_eq {t : Int} {x : Int32} {r : List Value} : cm_stp J (.ifCond .eq t) ln pc lv (.int x :: r) B T M κ ρ = ((x = 0 → κ t.toNat lv r B T M) ∧ (¬ (x = 0) → κ (pc + ln) lv r B T M)) := propext Iff.rfl
theorem cn_if_ne {t : Int} {x : Int32} {r : List Value} : cm_stp J (.ifCond .ne t) ln pc lv (.int x :: r) B T M κ ρ = ((¬ x = 0 → κ t.toNat lv r B T M) ∧ (¬ (¬ x = 0) → κ (pc + ln) lv r B T M)) := propext Iff.rfl
theorem cn_if_lt {t : Int} {x : Int32} {r : List Value} : cm_stp J (.ifCond .lt t) ln pc lv (.int x :: r) B T M κ ρ = ((x < 0 → κ t.toNat lv r B T M) ∧ (¬ (x < 0) → κ (pc + ln) lv r B T M)) := propext Iff.rfl
theorem cn_if_ge {t : Int} {x : Int32} {r : List Value} : cm_stp J (.ifCond .ge t) ln pc lv (.int x :: r) B T M κ ρ = ((0 ≤ x → κ t.toNat lv r B T M) ∧ (¬ (0 ≤ x) → κ (pc + ln) lv r B T M)) := propext Iff.rfl
theorem cn_if_gt {t : Int} {x : Int32} {r : List Value} : cm_stp J (.ifCond .gt t) ln pc lv (.int x :: r) B T M κ ρ = ((0 < x → κ t.toNat lv r B T M) ∧ (¬ (0 < x) → κ (pc + ln) lv r B T M)) := propext Iff.rfl
theorem cn_if_le {t : Int} {x : Int32} {r : List Value} : cm_stp J (.ifCond .le t) ln pc lv (.int x :: r) B T M κ ρ = ((x ≤ 0 → κ t.toNat lv r B T M) ∧ (¬ (x ≤ 0) → κ (pc + ln) lv r B T M)) := propext Iff.rfl
theorem cn_ic_eq {t : Int} {x y : Int32} {r : List Value} : cm_stp J (.if_icmp .eq t) ln pc lv (.int y :: .int x :: r) B T M κ ρ = ((x = y → κ t.toNat lv r B T M) ∧ (¬ (x = y) → κ (pc + ln) lv r B T M)) := propext Iff.rfl
theorem cn_ic_ne {t : Int} {x y : Int32} {r : List Value} : cm_stp J (.if_icmp .ne t) ln pc lv (.int y :: .int x :: r) B T M κ ρ = ((¬ x = y → κ t.toNat lv r B T M) ∧ (¬ (¬ x = y) → κ (pc + ln) lv r B T M)) := propext Iff.rfl
theorem cn_ic_lt {t : Int} {x y : Int32} {r : List Value} : cm_stp J (.if_icmp .lt t) ln pc lv (.int y :: .int x :: r) B T M κ ρ = ((x < y → κ t.toNat lv r B T M) ∧ (¬ (x < y) → κ (pc + ln) lv r B T M)) := propext Iff.rfl
theorem cn_ic_ge {t : Int} {x y : Int32} {r : List Value} : cm_stp J (.if_icmp .ge t) ln pc lv (.int y :: .int x :: r) B T M κ ρ = ((y ≤ x → κ t.toNat lv r B T M) ∧ (¬ (y ≤ x) → κ (pc + ln) lv r B T M)) := propext Iff.rfl
theorem cn_ic_gt {t : Int} {x y : Int32} {r : List Value} : cm_stp J (.if_icmp .gt t) ln pc lv (.int y :: .int x :: r) B T M κ ρ = ((y < x → κ t.toNat lv r B T M) ∧ (¬ (y < x) → κ (pc + ln) lv r B T M)) := propext Iff.rfl
theorem cn_ic_le {t : Int} {x y : Int32} {r : List Value} : cm_stp J (.if_icmp .le t) ln pc lv (.int y :: .int x :: r) B T M κ ρ = ((x ≤ y → κ t.toNat lv r B T M) ∧ (¬ (x ≤ y) → κ (pc + ln) lv r B T M)) := propext Iff.rfl
theorem cn_ifnullN {t : Int} {r : List Value} : cm_stp J (.ifnull t) ln pc lv (.null :: r) B T M κ ρ = κ t.toNat lv r B T M := propext Iff.rfl
theorem cn_ifnullR {t : Int} {x : Nat} {r : List Value} : cm_stp J (.ifnull t) ln pc lv (.ref x :: r) B T M κ ρ = κ (pc + ln) lv r B T M := propext Iff.rfl
theorem cn_ifnonnullN {t : Int} {r : List Value} : cm_stp J (.ifnonnull t) ln pc lv (.null :: r) B T M κ ρ = κ (pc + ln) lv r B T M := propext Iff.rfl
theorem cn_ifnonnullR {t : Int} {x : Nat} {r : List Value} : cm_stp J (.ifnonnull t) ln pc lv (.ref x :: r) B T M κ ρ = κ t.toNat lv r B T M := propext Iff.rfl
def cn_tsw : List Int → Int → Int → (Nat → cm_LV → List Value → Nat × Nat → cm_T → cm_M → Prop) → cm_LV → List Value → Nat × Nat → cm_T → cm_M → Prop
  | [], _, _, _, _, _, _, _, _ => True
  | o :: os, lo, x, κ, lv, st, B, T, M => (x = lo → κ o.toNat lv st B T M) ∧ cn_tsw os (lo + 1) x κ lv st B T M
theorem cn_tswe : ∀ (os : List Int) (lo x : Int), cm_tsw os lo x (fun t => κ t lv st B T M) = cn_tsw os lo x κ lv st B T M
  | [], _, _ => rfl
  | o :: os, lo, x => by
    show ((x = lo → κ o.toNat lv st B T M) ∧ cm_tsw os (lo + 1) x (fun t => κ t lv st B T M)) = _
    rw [cn_tswe os (lo + 1) x]
    rfl
theorem cn_tswS {dd lo hi : Int} {os : Array Int} {x : Int32} {r : List Value} : cm_stp J (.tableswitch dd lo hi os) ln pc lv (.int x :: r) B T M κ ρ = ((x.toInt < lo ∨ hi < x.toInt → κ dd.toNat lv r B T M) ∧ (¬ (x.toInt < lo ∨ hi < x.toInt) → cn_tsw os.toList lo x.toInt κ lv r B T M)) := by
  rw [← cn_tswe]
  rfl
theorem cn_tsw0 {lo x : Int} : cn_tsw [] lo x κ lv st B T M = True := propext Iff.rfl
theorem cn_tsw1 {o lo x : Int} {os : List Int} : cn_tsw (o :: os) lo x κ lv st B T M = ((x = lo → κ o.toNat lv st B T M) ∧ cn_tsw os (lo + 1) x κ lv st B T M) := propext Iff.rfl
def cn_lsw : List (Int × Int) → Int → Int → (Nat → cm_LV → List Value → Nat × Nat → cm_T → cm_M → Prop) → cm_LV → List Value → Nat × Nat → cm_T → cm_M → Prop
  | [], d, _, κ, lv, st, B, T, M => κ d.toNat lv st B T M
  | q :: qs, d, x, κ, lv, st, B, T, M => (x = q.1 → κ q.2.toNat lv st B T M) ∧ (¬ x = q.1 → cn_lsw qs d x κ lv st B T M)
theorem cn_lswe : ∀ (qs : List (Int × Int)) (d x : Int), cm_lsw qs d x (fun t => κ t lv st B T M) = cn_lsw qs d x κ lv st B T M
  | [], _, _ => rfl
  | q :: qs, d, x => by
    show ((x = q.1 → κ q.2.toNat lv st B T M) ∧ (¬ x = q.1 → cm_lsw qs d x (fun t => κ t lv st B T M))) = _
    rw [cn_lswe qs d x]
    rfl
theorem cn_lswS {dd : Int} {ps : Array (Int × Int)} {x : Int32} {r : List Value} : cm_stp J (.lookupswitch dd ps) ln pc lv (.int x :: r) B T M κ ρ = cn_lsw ps.toList dd x.toInt κ lv r B T M := by
  rw [← cn_lswe]
  rfl
theorem cn_lsw0 {d x : Int} : cn_lsw [] d x κ lv st B T M = κ d.toNat lv st B T M := propext Iff.rfl
theorem cn_lsw1 {a b d x : Int} {qs : List (Int × Int)} : cn_lsw ((a, b) :: qs) d x κ lv st B T M = ((x = a → κ b.toNat lv st B T M) ∧ (¬ x = a → cn_lsw qs d x κ lv st B T M)) := propext Iff.rfl
theorem cn_alen {a : Nat} {r : List Value} : cm_stp J (.arraylength) ln pc lv (.ref a :: r) B T M κ ρ = ((T.1 a = 20 ∨ T.1 a = 21 ∨ T.1 a = 26 ∨ T.1 a = 40) ∧ κ (pc + ln) lv (.int (w3 (T.2.1 a)) :: r) B T M) := propext Iff.rfl
theorem cn_iaload {a : Nat} {j : Int32} {r : List Value} : cm_stp J (.iaload) ln pc lv (.int j :: .ref a :: r) B T M κ ρ = ((T.1 a = 20 ∨ T.1 a = 40) ∧ cm_ix j (T.2.1 a) ∧ κ (pc + ln) lv (.int (M.1 a j.toInt) :: r) B T M) := propext Iff.rfl
theorem cn_laload {a : Nat} {j : Int32} {r : List Value} : cm_stp J (.laload) ln pc lv (.int j :: .ref a :: r) B T M κ ρ = (T.1 a = 21 ∧ cm_ix j (T.2.1 a) ∧ κ (pc + ln) lv (.long (M.2.1 a j.toInt) :: r) B T M) := propext Iff.rfl
def cn_rr (o : Option Nat) (κ : Nat → cm_LV → List Value → Nat × Nat → cm_T → cm_M → Prop) (pc : Nat) (lv : cm_LV) (st : List Value) (B : Nat × Nat) (T : cm_T) (M : cm_M) : Prop := cm_rr o st (fun st => κ pc lv st B T M)
theorem cn_rr1 {a : Nat} : cn_rr (some a) κ pc lv st B T M = κ pc lv (.ref a :: st) B T M := propext Iff.rfl
theorem cn_rr0  : cn_rr none κ pc lv st B T M = κ pc lv (.null :: st) B T M := propext Iff.rfl
theorem cn_aaload {a : Nat} {j : Int32} {r : List Value} : cm_stp J (.aaload) ln pc lv (.int j :: .ref a :: r) B T M κ ρ = ((T.1 a = 22 ∨ T.1 a = 26 ∨ T.1 a = 27) ∧ cm_ix j (T.2.1 a) ∧ cn_rr (M.2.2 a j.toInt) κ (pc + ln) lv r B T M) := propext Iff.rfl
theorem cn_iastore {a : Nat} {j x : Int32} {r : List Value} : cm_stp J (.iastore) ln pc lv (.int x :: .int j :: .ref a :: r) B T M κ ρ = (T.1 a = 20 ∧ cm_ix j (T.2.1 a) ∧ κ (pc + ln) lv r B T (cm_wi M a j.toInt x)) := propext Iff.rfl
theorem cn_lastore {a : Nat} {j : Int32} {x : Int64} {r : List Value} : cm_stp J (.lastore) ln pc lv (.long x :: .int j :: .ref a :: r) B T M κ ρ = (T.1 a = 21 ∧ cm_ix j (T.2.1 a) ∧ κ (pc + ln) lv r B T (cm_wl M a j.toInt x)) := propext Iff.rfl
theorem cn_aastore {a x : Nat} {j : Int32} {r : List Value} : cm_stp J (.aastore) ln pc lv (.ref x :: .int j :: .ref a :: r) B T M κ ρ = ((T.1 a = 22 ∨ T.1 a = 26 ∨ T.1 a = 27) ∧ T.1 x + 21 = T.1 a ∧ cm_ix j (T.2.1 a) ∧ κ (pc + ln) lv r B T (cm_wr M a j.toInt (some x))) := propext Iff.rfl
def cn_gf (o : Option (Nat × Nat × Nat × Bool)) (a : Nat) (κ : Nat → cm_LV → List Value → Nat × Nat → cm_T → cm_M → Prop) (pc : Nat) (lv : cm_LV) (st : List Value) (B : Nat × Nat) (T : cm_T) (M : cm_M) : Prop := cm_gfl (0, false, 0, [], [], []) o T M (.ref a :: st) (fun st => κ pc lv st B T M)
theorem cn_getfield {x a : Nat} {r : List Value} : cm_stp J (.getfield x) ln pc lv (.ref a :: r) B T M κ ρ = (x < 1000 ∧ cn_gf (cm_fl J.1 x) a κ (pc + ln) lv r B T M) := by
  show (x < 1000 ∧ cm_gfl J (cm_fl J.1 x) T M (.ref a :: r) (fun st => κ (pc + ln) lv st B T M)) = _
  rcases cm_fl J.1 x with _ | ⟨tg, ci, k, fin⟩ <;> rfl
theorem cn_gf0 {ci k a : Nat} {b : Bool} : cn_gf (some (0, ci, k, b)) a κ pc lv st B T M = (T.1 a = ci + 1 ∧ κ pc lv (.int (M.1 a k) :: st) B T M) := propext Iff.rfl
theorem cn_gf1 {ci k a : Nat} {b : Bool} : cn_gf (some (1, ci, k, b)) a κ pc lv st B T M = (T.1 a = ci + 1 ∧ κ pc lv (.int (M.1 a k) :: st) B T M) := propext Iff.rfl
theorem cn_gf2 {ci k a : Nat} {b : Bool} : cn_gf (some (2, ci, k, b)) a κ pc lv st B T M = (T.1 a = ci + 1 ∧ κ pc lv (.long (M.2.1 a k) :: st) B T M) := propext Iff.rfl
theorem cn_gf3 {ci k a : Nat} {b : Bool} : cn_gf (some (3, ci, k, b)) a κ pc lv st B T M = (T.1 a = ci + 1 ∧ cn_rr (M.2.2 a k) κ pc lv st B T M) := propext Iff.rfl
def cn_pf (J : cm_J) (o : Option (Nat × Nat × Nat × Bool)) (v : Value) (a : Nat) (κ : Nat → cm_LV → List Value → Nat × Nat → cm_T → cm_M → Prop) (pc : Nat) (lv : cm_LV) (st : List Value) (B : Nat × Nat) (T : cm_T) (M : cm_M) : Prop := cm_pfl J o T M (v :: .ref a :: st) (fun st M => κ pc lv st B T M)
theorem cn_putfield {x a : Nat} {v : Value} {r : List Value} : cm_stp J (.putfield x) ln pc lv (v :: .ref a :: r) B T M κ ρ = (x < 1000 ∧ cn_pf J (cm_fl J.1 x) v a κ (pc + ln) lv r B T M) := propext Iff.rfl
theorem cn_pf0f {ci k a : Nat} {x : Int32} : cn_pf J (some (0, ci, k, false)) (.int x) a κ pc lv st B T M = (T.1 a = ci + 1 ∧ κ pc lv st B T (cm_wi M a k x)) := propext Iff.rfl
theorem cn_pf1f {ci k a : Nat} {x : Int32} : cn_pf J (some (1, ci, k, false)) (.int x) a κ pc lv st B T M = (T.1 a = ci + 1 ∧ (x = 0 ∨ x = 1) ∧ κ pc lv st B T (cm_wi M a k x)) := propext Iff.rfl
theorem cn_pf2f {ci k a : Nat} {x : Int64} : cn_pf J (some (2, ci, k, false)) (.long x) a κ pc lv st B T M = (T.1 a = ci + 1 ∧ κ pc lv st B T (cm_wl M a k x)) := propext Iff.rfl
theorem cn_pf3f {ci k a x : Nat} : cn_pf J (some (3, ci, k, false)) (.ref x) a κ pc lv st B T M = (T.1 a = ci + 1 ∧ κ pc lv st B T (cm_wr M a k (some x))) := propext Iff.rfl
theorem cn_pf0t {ci k a : Nat} {x : Int32} : cn_pf J (some (0, ci, k, true)) (.int x) a κ pc lv st B T M = ((J.2.1 = true ∧ J.1 = ci) ∧ T.1 a = ci + 1 ∧ κ pc lv st B T (cm_wi M a k x)) := propext Iff.rfl
theorem cn_pf1t {ci k a : Nat} {x : Int32} : cn_pf J (some (1, ci, k, true)) (.int x) a κ pc lv st B T M = ((J.2.1 = true ∧ J.1 = ci) ∧ T.1 a = ci + 1 ∧ (x = 0 ∨ x = 1) ∧ κ pc lv st B T (cm_wi M a k x)) := propext Iff.rfl
theorem cn_pf2t {ci k a : Nat} {x : Int64} : cn_pf J (some (2, ci, k, true)) (.long x) a κ pc lv st B T M = ((J.2.1 = true ∧ J.1 = ci) ∧ T.1 a = ci + 1 ∧ κ pc lv st B T (cm_wl M a k x)) := propext Iff.rfl
theorem cn_pf3t {ci k a x : Nat} : cn_pf J (some (3, ci, k, true)) (.ref x) a κ pc lv st B T M = ((J.2.1 = true ∧ J.1 = ci) ∧ T.1 a = ci + 1 ∧ κ pc lv st B T (cm_wr M a k (some x))) := propext Iff.rfl
def cn_nw (o : Option Nat) (κ : Nat → cm_LV → List Value → Nat × Nat → cm_T → cm_M → Prop) (pc : Nat) (lv : cm_LV) (st : List Value) (B : Nat × Nat) (T : cm_T) (M : cm_M) : Prop := cm_nw o st B T M (fun st B T M => κ pc lv st B T M)
theorem cn_new {x : Nat} : cm_stp J (.new x) ln pc lv st B T M κ ρ = (x < 1000 ∧ cn_nw (cm_kl J.1 x) κ (pc + ln) lv st B T M) := propext Iff.rfl
theorem cn_nw1 {ci : Nat} : cn_nw (some ci) κ pc lv st B T M = (1 ≤ B.1 ∧ cm_nf ci ≤ B.2 ∧ κ pc lv (.ref T.2.2 :: st) (B.1 - 1, B.2 - cm_nf ci) (cm_tn T (ci + 1) 0) (cm_zm M T.2.2)) := propext Iff.rfl
theorem cn_newi {n : Int32} {r : List Value} : cm_stp J (.newarray .int) ln pc lv (.int n :: r) B T M κ ρ = (0 ≤ n.toInt ∧ n.toInt ≤ 100000 ∧ 1 ≤ B.1 ∧ n.toInt.toNat ≤ B.2 ∧ κ (pc + ln) lv (.ref T.2.2 :: r) (B.1 - 1, B.2 - n.toInt.toNat) (cm_tn T 20 n.toInt.toNat) (cm_zm M T.2.2)) := propext Iff.rfl
theorem cn_newl {n : Int32} {r : List Value} : cm_stp J (.newarray .long) ln pc lv (.int n :: r) B T M κ ρ = (0 ≤ n.toInt ∧ n.toInt ≤ 100000 ∧ 1 ≤ B.1 ∧ n.toInt.toNat ≤ B.2 ∧ κ (pc + ln) lv (.ref T.2.2 :: r) (B.1 - 1, B.2 - n.toInt.toNat) (cm_tn T 21 n.toInt.toNat) (cm_zm M T.2.2)) := propext Iff.rfl
def cn_an (o : Option Nat) (n : Int32) (κ : Nat → cm_LV → List Value → Nat × Nat → cm_T → cm_M → Prop) (pc : Nat) (lv : cm_LV) (st : List Value) (B : Nat × Nat) (T : cm_T) (M : cm_M) : Prop := cm_an o (.int n :: st) B T M (fun st B T M => κ pc lv st B T M)
theorem cn_anew {x : Nat} {n : Int32} {r : List Value} : cm_stp J (.anewarray x) ln pc lv (.int n :: r) B T M κ ρ = (x < 1000 ∧ cn_an (cm_kl J.1 x) n κ (pc + ln) lv r B T M) := propext Iff.rfl
theorem cn_an1 {ci : Nat} {n : Int32} {r : List Value} : cn_an (some ci) n κ pc lv r B T M = ((ci = 0 ∨ ci = 4 ∨ ci = 5) ∧ (0 ≤ n.toInt ∧ n.toInt ≤ 100000 ∧ 1 ≤ B.1 ∧ n.toInt.toNat ≤ B.2 ∧ κ pc lv (.ref T.2.2 :: r) (B.1 - 1, B.2 - n.toInt.toNat) (cm_tn T (22 + ci) n.toInt.toNat) (cm_zm M T.2.2))) := propext Iff.rfl
def cn_kc (κ : Nat → cm_LV → List Value → Nat × Nat → cm_T → cm_M → Prop) (pc : Nat) (lv : cm_LV) (r : List Value) (B : Nat × Nat) (v : Option Value) (T : cm_T) (M : cm_M) : Prop := κ pc lv (v.toList ++ r) B T M
def cn_ca (e : Option cm_E) (κ : Nat → cm_LV → List Value → Nat × Nat → cm_T → cm_M → Prop) (pc : Nat) (lv : cm_LV) (st : List Value) (B : Nat × Nat) (T : cm_T) (M : cm_M) : Prop := cm_ca e st B T M (fun st B T M => κ pc lv st B T M)
theorem cn_inv_v {x : Nat} : cm_stp J (.invokevirtual x) ln pc lv st B T M κ ρ = cn_ca (cm_gv J x) κ (pc + ln) lv st B T M := propext Iff.rfl
theorem cn_inv_s {x : Nat} : cm_stp J (.invokestatic x) ln pc lv st B T M κ ρ = cn_ca (cm_gs J x) κ (pc + ln) lv st B T M := propext Iff.rfl
theorem cn_inv_p {x : Nat} : cm_stp J (.invokespecial x) ln pc lv st B T M κ ρ = cn_ca (cm_gp J x) κ (pc + ln) lv st B T M := propext Iff.rfl
def cn_cb (o : Option (List Value × List Value)) (rk mc ms : Nat) (S : cm_CT) (κ : Nat → cm_LV → List Value → Nat × Nat → cm_T → cm_M → Prop) (pc : Nat) (lv : cm_LV) (B : Nat × Nat) (T : cm_T) (M : cm_M) : Prop := match o with
  | some (as, r) => cm_rk rk T as ∧ cm_cw r ≤ 8 ∧ mc ≤ B.1 ∧ ms ≤ B.2 ∧ S as T M (cn_kc κ pc lv r (B.1 - mc, B.2 - ms))
  | none => False
theorem cn_ca1 {n rk mc ms : Nat} {S : cm_CT} : cn_ca (some (n, rk, mc, ms, S)) κ pc lv st B T M = cn_cb (cm_pop n [] st) rk mc ms S κ pc lv B T M := by
  show (match cm_pop n [] st with | some (as, r) => cm_rk rk T as ∧ cm_cw r ≤ 8 ∧ mc ≤ B.1 ∧ ms ≤ B.2 ∧ S as T M (fun v T M => κ pc lv (v.toList ++ r) (B.1 - mc, B.2 - ms) T M) | none => False) = _
  unfold cn_cb
  rcases cm_pop n [] st with _ | ⟨as, r⟩ <;> rfl
theorem cn_cb1 {as r : List Value} {rk mc ms : Nat} {S : cm_CT} : cn_cb (some (as, r)) rk mc ms S κ pc lv B T M = (cm_rk rk T as ∧ cm_cw r ≤ 8 ∧ mc ≤ B.1 ∧ ms ≤ B.2 ∧ S as T M (cn_kc κ pc lv r (B.1 - mc, B.2 - ms))) := propext Iff.rfl
theorem cn_pop0 {as : List Value} : cm_pop 0 as st = some (as, st) := Eq.trans rfl rfl
theorem cn_pops {n : Nat} {v : Value} {as : List Value} : cm_pop (n + 1) as (v :: st) = cm_pop n (v :: as) st := Eq.trans rfl rfl
theorem cn_rk0 {as : List Value} : cm_rk 0 T as = True := propext Iff.rfl
theorem cn_rk1 {n a : Nat} {as : List Value} : cm_rk (n + 1) T (.ref a :: as) = (T.1 a = n + 1) := propext Iff.rfl
theorem cn_kcn {r : List Value} : cn_kc κ pc lv r B none T M = κ pc lv r B T M := propext Iff.rfl
theorem cn_kcs {r : List Value} {v : Value} : cn_kc κ pc lv r B (some v) T M = κ pc lv (v :: r) B T M := propext Iff.rfl
def cn_re (rt : Nat) (st : List Value) (ρ : Option Value → cm_T → cm_M → Prop) (T : cm_T) (M : cm_M) : Prop := cm_re rt st (fun v => ρ v T M)
theorem cn_ireturn  : cm_stp J (.ireturn) ln pc lv st B T M κ ρ = ((J.2.2.1 = 1 ∨ J.2.2.1 = 2) ∧ cn_re J.2.2.1 st ρ T M) := propext Iff.rfl
theorem cn_lreturn  : cm_stp J (.lreturn) ln pc lv st B T M κ ρ = (J.2.2.1 = 3 ∧ cn_re J.2.2.1 st ρ T M) := propext Iff.rfl
theorem cn_areturn  : cm_stp J (.areturn) ln pc lv st B T M κ ρ = (J.2.2.1 = 4 ∧ cn_re J.2.2.1 st ρ T M) := propext Iff.rfl
theorem cn_return  : cm_stp J (.return_) ln pc lv st B T M κ ρ = (J.2.2.1 = 0 ∧ cn_re J.2.2.1 st ρ T M) := propext Iff.rfl
theorem cn_re0  : cn_re 0 [] ρ T M = ρ none T M := propext Iff.rfl
theorem cn_re1 {x : Int32} : cn_re 1 [.int x] ρ T M = ρ (some (.int x)) T M := propext Iff.rfl
theorem cn_re2 {x : Int32} : cn_re 2 [.int x] ρ T M = ((x = 0 ∨ x = 1) ∧ ρ (some (.int x)) T M) := propext Iff.rfl
theorem cn_re3 {x : Int64} : cn_re 3 [.long x] ρ T M = ρ (some (.long x)) T M := propext Iff.rfl
theorem cn_re4 {x : Nat} : cn_re 4 [.ref x] ρ T M = ρ (some (.ref x)) T M := propext Iff.rfl
theorem cn_re5  : cn_re 4 [.null] ρ T M = ρ (some .null) T M := propext Iff.rfl
def cn_m (o : Option (Instr × Nat)) (J : cm_J) (C : Nat → Option (Instr × Nat)) (ρ : Option Value → cm_T → cm_M → Prop) (κ : Nat → cm_LV → List Value → Nat × Nat → cm_T → cm_M → Prop) (n pc : Nat) (lv : cm_LV) (st : List Value) (B : Nat × Nat) (T : cm_T) (M : cm_M) : Prop := match o with
  | none => κ pc lv st B T M
  | some (i, ln) => cm_stp J i ln pc lv st B T M (cm_wp J C ρ κ n) ρ
theorem cn_wp0 {C : Nat → Option (Instr × Nat)} : cm_wp J C ρ κ 0 pc lv st B T M = κ pc lv st B T M := propext Iff.rfl
theorem cn_wps {C : Nat → Option (Instr × Nat)} {n : Nat} : cm_wp J C ρ κ (n + 1) pc lv st B T M = cn_m (C pc) J C ρ κ n pc lv st B T M := by
  show (match C pc with | none => κ pc lv st B T M | some (i, ln) => cm_stp J i ln pc lv st B T M (cm_wp J C ρ κ n) ρ) = _
  unfold cn_m
  rcases C pc with _ | ⟨i, ln⟩ <;> rfl
theorem cn_m0 {C : Nat → Option (Instr × Nat)} {n : Nat} : cn_m none J C ρ κ n pc lv st B T M = κ pc lv st B T M := propext Iff.rfl
theorem cn_m1 {C : Nat → Option (Instr × Nat)} {n ln : Nat} {i : Instr} : cn_m (some (i, ln)) J C ρ κ n pc lv st B T M = cm_stp J i ln pc lv st B T M (cm_wp J C ρ κ n) ρ := propext Iff.rfl
end CN
theorem cn_e0 {vs : List Value} : cm_ent 0 vs = [] := by cases vs <;> exact Eq.trans rfl rfl
theorem cn_en {n : Nat} : cm_ent (n + 1) [] = none :: cm_ent n [] := Eq.trans rfl rfl
theorem cn_ei {n : Nat} {x : Int32} {vs : List Value} : cm_ent (n + 1) (.int x :: vs) = some (.int x) :: cm_ent n vs := Eq.trans rfl rfl
theorem cn_er {n : Nat} {x : Nat} {vs : List Value} : cm_ent (n + 1) (.ref x :: vs) = some (.ref x) :: cm_ent n vs := Eq.trans rfl rfl
theorem cn_eu {n : Nat} {vs : List Value} : cm_ent (n + 1) (.null :: vs) = some .null :: cm_ent n vs := Eq.trans rfl rfl
theorem cn_el {n : Nat} {x : Int64} {vs : List Value} : cm_ent (n + 2) (.long x :: vs) = some (.long x) :: none :: cm_ent n vs := Eq.trans rfl rfl
theorem cn_nl0 {lv : cm_LV} : (cm_nl lv 0 = true) = True := eq_true rfl
def cn_nb (o : Option Value) : Bool := match o with
  | some (.long _) => false
  | some (.double _) => false
  | _ => true
theorem cn_nls {lv : cm_LV} {k : Nat} : cm_nl lv (k + 1) = cn_nb (cm_get lv k) := by
  show (match cm_get lv k with | some (.long _) => false | some (.double _) => false | _ => true) = _
  unfold cn_nb
  rcases cm_get lv k with _ | _ | _ <;> rfl
theorem cn_nb0 : (cn_nb none = true) = True := eq_true rfl
theorem cn_nb1 {x : Int32} : (cn_nb (some (.int x)) = true) = True := eq_true rfl
theorem cn_nb2 {x : Nat} : (cn_nb (some (.ref x)) = true) = True := eq_true rfl
theorem cn_nb3 : (cn_nb (some .null) = true) = True := eq_true rfl
theorem cn_bd0 {v : Option Value} {t : cm_LV} : (cm_bd (v :: t) 0 = true) = True := eq_true rfl
theorem cn_bds {v : Option Value} {t : cm_LV} {k : Nat} : cm_bd (v :: t) (k + 1) = cm_bd t k := Eq.trans rfl rfl
theorem cn_cw0 : (cm_cw [] ≤ 8) = True := eq_true (by decide)
theorem cn_cwi {x : Int32} {st : List Value} : cm_cw (.int x :: st) = 1 + cm_cw st := Eq.trans rfl rfl
theorem cn_cwr {x : Nat} {st : List Value} : cm_cw (.ref x :: st) = 1 + cm_cw st := Eq.trans rfl rfl
theorem cn_cwl {x : Int64} {st : List Value} : cm_cw (.long x :: st) = 2 + cm_cw st := Eq.trans rfl rfl
theorem cn_cwn : cm_cw [] = 0 := Eq.trans rfl rfl
theorem cn_wi1 {M : cm_M} {a : Nat} {k : Int} {v : Int32} {b : Nat} {j : Int} : (cm_wi M a k v).1 b j = if b = a ∧ j = k then v else M.1 b j := Eq.trans rfl rfl
theorem cn_wi2 {M : cm_M} {a : Nat} {k : Int} {v : Int32} : (cm_wi M a k v).2 = M.2 := Eq.trans rfl rfl
theorem cn_wl1 {M : cm_M} {a : Nat} {k : Int} {v : Int64} : (cm_wl M a k v).1 = M.1 := Eq.trans rfl rfl
theorem cn_wl2 {M : cm_M} {a : Nat} {k : Int} {v : Int64} {b : Nat} {j : Int} : (cm_wl M a k v).2.1 b j = if b = a ∧ j = k then v else M.2.1 b j := Eq.trans rfl rfl
theorem cn_wl3 {M : cm_M} {a : Nat} {k : Int} {v : Int64} : (cm_wl M a k v).2.2 = M.2.2 := Eq.trans rfl rfl
theorem cn_wr1 {M : cm_M} {a : Nat} {k : Int} {v : Option Nat} : (cm_wr M a k v).1 = M.1 := Eq.trans rfl rfl
theorem cn_wr2 {M : cm_M} {a : Nat} {k : Int} {v : Option Nat} : (cm_wr M a k v).2.1 = M.2.1 := Eq.trans rfl rfl
theorem cn_wr3 {M : cm_M} {a : Nat} {k : Int} {v : Option Nat} {b : Nat} {j : Int} : (cm_wr M a k v).2.2 b j = if b = a ∧ j = k then v else M.2.2 b j := Eq.trans rfl rfl
theorem cn_wi_eq {M : cm_M} {a : Nat} {k : Int} {v : Int32} : (cm_wi M a k v).1 a k = v := by rw [cn_wi1, if_pos ⟨rfl, rfl⟩]
theorem cn_wi_ne {M : cm_M} {a b : Nat} {k j : Int} {v : Int32} (h : b ≠ a ∨ j ≠ k) : (cm_wi M a k v).1 b j = M.1 b j := by rw [cn_wi1, if_neg (fun q => h.elim (fun z => z q.1) (fun z => z q.2))]
theorem cn_wl_eq {M : cm_M} {a : Nat} {k : Int} {v : Int64} : (cm_wl M a k v).2.1 a k = v := by rw [cn_wl2, if_pos ⟨rfl, rfl⟩]
theorem cn_wl_ne {M : cm_M} {a b : Nat} {k j : Int} {v : Int64} (h : b ≠ a ∨ j ≠ k) : (cm_wl M a k v).2.1 b j = M.2.1 b j := by rw [cn_wl2, if_neg (fun q => h.elim (fun z => z q.1) (fun z => z q.2))]

def w3 (z : Int) : Int32 := Int32.ofInt z
def w6 (z : Int) : Int64 := Int64.ofInt z
abbrev cm_LV : Type := List (Option Value)
abbrev cm_M : Type := (Nat → Int → Int32) × (Nat → Int → Int64) × (Nat → Int → Option Nat)
abbrev cm_T : Type := (Nat → Nat) × (Nat → Nat) × Nat
abbrev cm_CT : Type := List Value → cm_T → cm_M → (Option Value → cm_T → cm_M → Prop) → Prop
abbrev cm_G : Type := va_G × (Nat → ClassId) × Cell
abbrev cm_E : Type := Nat × Nat × Nat × Nat × cm_CT
/-- own kind, whether it is a constructor, how it returns (0 nothing, 1 int, 2 boolean, 3 long, 4 reference), the calls that it makes: virtual, static, special -/
abbrev cm_J : Type := Nat × Bool × Nat × List (Nat × cm_E) × List (Nat × cm_E) × List (Nat × cm_E)
def cm_R : Nat → String
  | 0 => RX0 | 1 => RX1 | 2 => RX2 | 3 => RX3 | 4 => RX4 | 5 => RX5 | 6 => RX6 | 7 => RX7 | 8 => RL | 9 => RJ6 | 10 => RJ9 | _ => RJ7
def cm_TT : Nat → u_T
  | 0 => TX0 | 1 => TX1 | 2 => TX2 | 3 => TX3 | 4 => TX4 | 5 => TX5 | 6 => TX6 | _ => TX7
def cm_ty : Nat → Nat → FieldType
  | 0 => tyX0 | 1 => tyX1 | 2 => tyX2 | 3 => tyX3 | 4 => tyX4 | 5 => tyX5 | 6 => tyX6 | _ => tyX7
def cm_nf : Nat → Nat
  | 0 => 6 | 1 => 3 | 2 => 1 | 3 => 10 | 4 => 2 | 5 => 2 | 6 => 14 | _ => 29
def cm_fv (M : cm_M) (ty : FieldType) (a k : Nat) : Value := match ty with
  | .long => .long (M.2.1 a k)
  | .object _ => va_rf (M.2.2 a k)
  | .array _ => va_rf (M.2.2 a k)
  | _ => .int (M.1 a k)
def cm_ev (M : cm_M) (kd a j : Nat) : Value := if kd = 20 then .int (M.1 a j) else if kd = 21 then .long (M.2.1 a j) else va_rf (M.2.2 a j)
def cm_at (G : cm_G) (M : cm_M) (kd n a : Nat) (H : Heap) : Prop :=
  (kd ≠ 0 → kd < 9 → t_OB a (G.1.1 (kd - 1)) (cm_nf (kd - 1)) (G.1.2 (kd - 1)) H (fun k => cm_fv M (cm_ty (kd - 1) k) a k)) ∧
  (9 ≤ kd → kd ≠ 40 → H[a]? = some (arrV (G.2.1 kd) n (cm_ev M kd a))) ∧
  (kd = 40 → H[a]? = some G.2.2 ∧ G.2.2.slots.size = n ∧ ∀ j : Nat, j < n → G.2.2.slots[j]? = some (.int (M.1 a j)))
def cm_Rep (G : cm_G) (T : cm_T) (M : cm_M) (H : Heap) : Prop := H.size = T.2.2 ∧ ∀ a : Nat, cm_at G M (T.1 a) (T.2.1 a) a H
def cm_tys (E : Nat → ClassId) : List (ClassId × FieldType) := [(E 20, .int), (E 21, .long), (E 22, .object RX0), (E 26, .object RX4), (E 27, .object RX5)]
def cm_AO (U : State) : Prop := va_AO RX0 U ∧ va_AO RX4 U ∧ va_AO RX5 U
def cm_K (G : cm_G) (U : State) : Prop := va_K G.1 vwCl (cm_tys G.2.1) U ∧ U.isArrayOf G.2.2 .int ∧ G.2.2.vm ≠ .unknown ∧ cm_AO U
def cm_A (T : cm_T) : Nat → Prop := fun q => (T.1 q ≠ 0 ∧ T.1 q ≠ 40) ∨ T.2.2 ≤ q
def cm_wi (M : cm_M) (a : Nat) (k : Int) (v : Int32) : cm_M := (fun b j => if b = a ∧ j = k then v else M.1 b j, M.2.1, M.2.2)
def cm_wl (M : cm_M) (a : Nat) (k : Int) (v : Int64) : cm_M := (M.1, fun b j => if b = a ∧ j = k then v else M.2.1 b j, M.2.2)
def cm_wr (M : cm_M) (a : Nat) (k : Int) (v : Option Nat) : cm_M := (M.1, M.2.1, fun b j => if b = a ∧ j = k then v else M.2.2 b j)
def cm_zm (M : cm_M) (a : Nat) : cm_M := (fun b j => if b = a then 0 else M.1 b j, fun b j => if b = a then 0 else M.2.1 b j, fun b j => if b = a then none else M.2.2 b j)
def cm_tn (T : cm_T) (kd n : Nat) : cm_T := (fun b => if b = T.2.2 then kd else T.1 b, fun b => if b = T.2.2 then n else T.2.1 b, T.2.2 + 1)
def cm_get : cm_LV → Nat → Option Value
  | [], _ => none
  | v :: _, 0 => v
  | _ :: t, k + 1 => cm_get t k
def cm_put : cm_LV → Nat → Option Value → cm_LV
  | [], _, _ => []
  | _ :: t, 0, v => v :: t
  | a :: t, k + 1, v => a :: cm_put t k v
def cm_nl (lv : cm_LV) : Nat → Bool
  | 0 => true
  | k + 1 => match cm_get lv k with
    | some (.long _) => false
    | some (.double _) => false
    | _ => true
def cm_bd : cm_LV → Nat → Bool
  | [], _ => false
  | _ :: _, 0 => true
  | _ :: t, k + 1 => cm_bd t k
def cm_as : cm_LV → Nat → List (Nat × Value)
  | [], _ => []
  | none :: t, i => cm_as t (i + 1)
  | some v :: t, i => (i, v) :: cm_as t (i + 1)
def cm_ent : Nat → List Value → cm_LV
  | 0, _ => []
  | n + 1, [] => none :: cm_ent n []
  | n + 2, .long x :: vs => some (.long x) :: none :: cm_ent n vs
  | n + 1, .int x :: vs => some (.int x) :: cm_ent n vs
  | n + 1, .ref x :: vs => some (.ref x) :: cm_ent n vs
  | n + 1, .null :: vs => some .null :: cm_ent n vs
  | n + 1, _ :: _ => none :: cm_ent n []
def cm_pop : Nat → List Value → List Value → Option (List Value × List Value)
  | 0, acc, st => some (acc, st)
  | n + 1, acc, v :: st => cm_pop n (v :: acc) st
  | _ + 1, _, [] => none
def cm_cw : List Value → Nat
  | [] => 0
  | .long _ :: st => 2 + cm_cw st
  | .double _ :: st => 2 + cm_cw st
  | _ :: st => 1 + cm_cw st
def cm_nrm (pc : Nat) : Instr → Instr
  | .iload_n n => .iload n
  | .aload_n n => .aload n
  | .lload_n n => .lload n
  | .istore_n n => .istore n
  | .astore_n n => .astore n
  | .lstore_n n => .lstore n
  | .bipush v => .iconst v
  | .sipush v => .iconst v
  | .goto o => .goto (pc + o)
  | .ifCond c o => .ifCond c (pc + o)
  | .if_icmp c o => .if_icmp c (pc + o)
  | .ifnull o => .ifnull (pc + o)
  | .ifnonnull o => .ifnonnull (pc + o)
  | .tableswitch d lo hi os => .tableswitch (pc + d) lo hi (os.map (fun o => pc + o))
  | .lookupswitch d ps => .lookupswitch (pc + d) (ps.map (fun q => (q.1, pc + q.2)))
  | i => i
def cm_ln : Instr → Nat
  | .bipush _ => 2 | .iload _ => 2 | .aload _ => 2 | .lload _ => 2 | .istore _ => 2 | .astore _ => 2 | .lstore _ => 2 | .newarray _ => 2
  | .sipush _ => 3 | .goto _ => 3 | .ifCond _ _ => 3 | .if_icmp _ _ => 3 | .ifnull _ => 3 | .ifnonnull _ => 3 | .iinc _ _ => 3 | .getfield _ => 3 | .putfield _ => 3
  | .invokevirtual _ => 3 | .invokestatic _ => 3 | .invokespecial _ => 3 | .new _ => 3 | .anewarray _ => 3 | .ldc_w _ => 3 | .ldc2_w _ => 3
  | _ => 1
def cm_okI (pc : Nat) (i : Instr) (ln : Nat) : Bool := match i with
  | .bipush v => ln == 2 && decide (-128 ≤ v) && decide (v < 128)
  | .sipush v => ln == 3 && decide (-32768 ≤ v) && decide (v < 32768)
  | .goto o => ln == 3 && decide (0 ≤ (pc : Int) + o)
  | .ifCond _ o => ln == 3 && decide (0 ≤ (pc : Int) + o)
  | .if_icmp _ o => ln == 3 && decide (0 ≤ (pc : Int) + o)
  | .ifnull o => ln == 3 && decide (0 ≤ (pc : Int) + o)
  | .ifnonnull o => ln == 3 && decide (0 ≤ (pc : Int) + o)
  | .tableswitch d lo hi os => decide (0 ≤ (pc : Int) + d) && os.toList.all (fun o => decide (0 ≤ (pc : Int) + o)) && decide (hi - lo + 1 = (os.toList.length : Int))
  | .lookupswitch d ps => decide (0 ≤ (pc : Int) + d) && ps.toList.all (fun q => decide (0 ≤ (pc : Int) + q.2)) && (ps.toList.zip (ps.toList.drop 1)).all (fun (a, next) => a.1 < next.1)
  | i => ln == cm_ln i
def cm_okC (cc : ByteArray) (e : Nat × Instr × Nat) : Bool := match decode cc e.1 with
  | .ok (i0, ln) => decide (cm_nrm e.1 i0 = e.2.1) && decide (ln = e.2.2) && cm_okI e.1 i0 ln
  | .error _ => false
def cm_cd (tab : List (Nat × Instr × Nat)) (hs : List Nat) (pc : Nat) : Option (Instr × Nat) := if hs.contains pc then none else tab.lookup pc
def cm_i2 (f : Int32 → Int32 → Int32) (st : List Value) (κ : List Value → Prop) : Prop := match st with
  | .int y :: .int x :: r => κ (.int (f x y) :: r)
  | _ => False
def cm_l2 (f : Int64 → Int64 → Int64) (st : List Value) (κ : List Value → Prop) : Prop := match st with
  | .long y :: .long x :: r => κ (.long (f x y) :: r)
  | _ => False
def cm_id (f : Int32 → Int32 → Int32) (st : List Value) (κ : List Value → Prop) : Prop := match st with
  | .int y :: .int x :: r => ¬ y = 0 ∧ κ (.int (f x y) :: r)
  | _ => False
def cm_ld (f : Int64 → Int64 → Int64) (st : List Value) (κ : List Value → Prop) : Prop := match st with
  | .long y :: .long x :: r => ¬ y = 0 ∧ κ (.long (f x y) :: r)
  | _ => False
def cm_ii (f : Int32 → Int32) (st : List Value) (κ : List Value → Prop) : Prop := match st with
  | .int x :: r => κ (.int (f x) :: r)
  | _ => False
def cm_il (f : Int32 → Int64) (st : List Value) (κ : List Value → Prop) : Prop := match st with
  | .int x :: r => κ (.long (f x) :: r)
  | _ => False
def cm_li (f : Int64 → Int32) (st : List Value) (κ : List Value → Prop) : Prop := match st with
  | .long x :: r => κ (.int (f x) :: r)
  | _ => False
def cm_lc (st : List Value) (κ : List Value → Prop) : Prop := match st with
  | .long y :: .long x :: r => κ (.int (lg_cmp x y) :: r)
  | _ => False
def cm_1c (c : ClassFile.Cond) (x : Int32) : Prop := match c with
  | .eq => x = 0 | .ne => ¬ x = 0 | .lt => x < 0 | .ge => 0 ≤ x | .gt => 0 < x | .le => x ≤ 0
def cm_2c (c : ClassFile.Cond) (x y : Int32) : Prop := match c with
  | .eq => x = y | .ne => ¬ x = y | .lt => x < y | .ge => y ≤ x | .gt => y < x | .le => x ≤ y
def cm_if (P : Prop) (a b : Prop) : Prop := (P → a) ∧ (¬ P → b)
def cm_i1 (c : ClassFile.Cond) (st : List Value) (κ κ' : List Value → Prop) : Prop := match st with
  | .int x :: r => cm_if (cm_1c c x) (κ r) (κ' r)
  | _ => False
def cm_ic (c : ClassFile.Cond) (st : List Value) (κ κ' : List Value → Prop) : Prop := match st with
  | .int y :: .int x :: r => cm_if (cm_2c c x y) (κ r) (κ' r)
  | _ => False
def cm_nu (st : List Value) (κ κ' : List Value → Prop) : Prop := match st with
  | .null :: r => κ r
  | .ref _ :: r => κ' r
  | _ => False
def cm_lo (o : Option Value) (st : List Value) (κ : List Value → Prop) : Prop := match o with
  | some (.int x) => κ (.int x :: st)
  | _ => False
def cm_loa (o : Option Value) (st : List Value) (κ : List Value → Prop) : Prop := match o with
  | some (.ref x) => κ (.ref x :: st)
  | some .null => κ (.null :: st)
  | _ => False
def cm_lol (o : Option Value) (st : List Value) (κ : List Value → Prop) : Prop := match o with
  | some (.long x) => κ (.long x :: st)
  | _ => False
def cm_is (lv : cm_LV) (k : Nat) (st : List Value) (κ : cm_LV → List Value → Prop) : Prop := match st with
  | .int x :: r => cm_nl lv k = true ∧ cm_bd lv k = true ∧ κ (cm_put lv k (some (.int x))) r
  | _ => False
def cm_rs (lv : cm_LV) (k : Nat) (st : List Value) (κ : cm_LV → List Value → Prop) : Prop := match st with
  | .ref x :: r => cm_nl lv k = true ∧ cm_bd lv k = true ∧ κ (cm_put lv k (some (.ref x))) r
  | .null :: r => cm_nl lv k = true ∧ cm_bd lv k = true ∧ κ (cm_put lv k (some .null)) r
  | _ => False
def cm_ls (lv : cm_LV) (k : Nat) (st : List Value) (κ : cm_LV → List Value → Prop) : Prop := match st with
  | .long x :: r => cm_nl lv k = true ∧ cm_bd lv (k + 1) = true ∧ κ (cm_put (cm_put lv k (some (.long x))) (k + 1) none) r
  | _ => False
def cm_in (lv : cm_LV) (k : Nat) (n : Int) (κ : cm_LV → Prop) : Prop := match cm_get lv k with
  | some (.int x) => cm_nl lv k = true ∧ κ (cm_put lv k (some (.int (x + w3 n))))
  | _ => False
def cm_d1 (st : List Value) (κ : List Value → Prop) : Prop := match st with
  | .int x :: r => κ (.int x :: .int x :: r)
  | .ref x :: r => κ (.ref x :: .ref x :: r)
  | _ => False
def cm_d2 (st : List Value) (κ : List Value → Prop) : Prop := match st with
  | .int y :: .ref x :: r => κ (.int y :: .ref x :: .int y :: .ref x :: r)
  | _ => False
def cm_po (st : List Value) (κ : List Value → Prop) : Prop := match st with
  | .int _ :: r => κ r
  | .ref _ :: r => κ r
  | _ => False
def cm_rr (o : Option Nat) (st : List Value) (κ : List Value → Prop) : Prop := match o with
  | some a => κ (.ref a :: st)
  | none => κ (.null :: st)
/-- an index in range -/
def cm_ix (j : Int32) (n : Nat) : Prop := 0 ≤ j.toInt ∧ j.toInt < (n : Int)
def cm_al (T : cm_T) (st : List Value) (κ : List Value → Prop) : Prop := match st with
  | .ref a :: r => (T.1 a = 20 ∨ T.1 a = 21 ∨ T.1 a = 26 ∨ T.1 a = 40) ∧ κ (.int (w3 (T.2.1 a)) :: r)
  | _ => False
def cm_ia (T : cm_T) (M : cm_M) (st : List Value) (κ : List Value → Prop) : Prop := match st with
  | .int j :: .ref a :: r => (T.1 a = 20 ∨ T.1 a = 40) ∧ cm_ix j (T.2.1 a) ∧ κ (.int (M.1 a j.toInt) :: r)
  | _ => False
def cm_la (T : cm_T) (M : cm_M) (st : List Value) (κ : List Value → Prop) : Prop := match st with
  | .int j :: .ref a :: r => T.1 a = 21 ∧ cm_ix j (T.2.1 a) ∧ κ (.long (M.2.1 a j.toInt) :: r)
  | _ => False
def cm_aa (T : cm_T) (M : cm_M) (st : List Value) (κ : List Value → Prop) : Prop := match st with
  | .int j :: .ref a :: r => (T.1 a = 22 ∨ T.1 a = 26 ∨ T.1 a = 27) ∧ cm_ix j (T.2.1 a) ∧ cm_rr (M.2.2 a j.toInt) r κ
  | _ => False
def cm_ib (T : cm_T) (M : cm_M) (st : List Value) (κ : List Value → cm_M → Prop) : Prop := match st with
  | .int x :: .int j :: .ref a :: r => T.1 a = 20 ∧ cm_ix j (T.2.1 a) ∧ κ r (cm_wi M a j.toInt x)
  | _ => False
def cm_lb (T : cm_T) (M : cm_M) (st : List Value) (κ : List Value → cm_M → Prop) : Prop := match st with
  | .long x :: .int j :: .ref a :: r => T.1 a = 21 ∧ cm_ix j (T.2.1 a) ∧ κ r (cm_wl M a j.toInt x)
  | _ => False
def cm_ab (T : cm_T) (M : cm_M) (st : List Value) (κ : List Value → cm_M → Prop) : Prop := match st with
  | .ref x :: .int j :: .ref a :: r => (T.1 a = 22 ∨ T.1 a = 26 ∨ T.1 a = 27) ∧ T.1 x + 21 = T.1 a ∧ cm_ix j (T.2.1 a) ∧ κ r (cm_wr M a j.toInt (some x))
  | _ => False
/-- fields: how they are held (0 int, 1 boolean, 2 long, 3 reference) -/
def cm_tg : FieldType → Nat
  | .int => 0 | .boolean => 1 | .long => 2 | .object _ => 3 | .array _ => 3 | _ => 9
def cm_gf (tg ci k : Nat) (T : cm_T) (M : cm_M) (st : List Value) (κ : List Value → Prop) : Prop := match st with
  | .ref a :: r => T.1 a = ci + 1 ∧ (match tg with
    | 0 => κ (.int (M.1 a k) :: r)
    | 1 => κ (.int (M.1 a k) :: r)
    | 2 => κ (.long (M.2.1 a k) :: r)
    | 3 => cm_rr (M.2.2 a k) r κ
    | _ => False)
  | _ => False
def cm_pf (tg ci k : Nat) (T : cm_T) (M : cm_M) (st : List Value) (κ : List Value → cm_M → Prop) : Prop := match tg, st with
  | 0, .int x :: .ref a :: r => T.1 a = ci + 1 ∧ κ r (cm_wi M a k x)
  | 1, .int x :: .ref a :: r => T.1 a = ci + 1 ∧ (x = 0 ∨ x = 1) ∧ κ r (cm_wi M a k x)
  | 2, .long x :: .ref a :: r => T.1 a = ci + 1 ∧ κ r (cm_wl M a k x)
  | 3, .ref x :: .ref a :: r => T.1 a = ci + 1 ∧ κ r (cm_wr M a k (some x))
  | 3, .null :: .ref a :: r => T.1 a = ci + 1 ∧ κ r (cm_wr M a k none)
  | _, _ => False
def cm_fin (ci k : Nat) : Bool := (cm_TT ci k).2.2.2
def cm_tsw : List Int → Int → Int → (Nat → Prop) → Prop
  | [], _, _, _ => True
  | o :: os, lo, x, κ => (x = lo → κ o.toNat) ∧ cm_tsw os (lo + 1) x κ
def cm_lsw : List (Int × Int) → Int → Int → (Nat → Prop) → Prop
  | [], d, _, κ => κ d.toNat
  | q :: qs, d, x, κ => cm_if (x = q.1) (κ q.2.toNat) (cm_lsw qs d x κ)
def cm_sw (st : List Value) (κ : Int → List Value → Prop) : Prop := match st with
  | .int x :: r => κ x.toInt r
  | _ => False
def cm_ne (kd : Nat) (n : Int32) (B : Nat × Nat) (κ : Nat → Nat × Nat → Prop) : Prop := 0 ≤ n.toInt ∧ n.toInt ≤ 100000 ∧ 1 ≤ B.1 ∧ n.toInt.toNat ≤ B.2 ∧ κ n.toInt.toNat (B.1 - 1, B.2 - n.toInt.toNat)
def cm_na (kd : Nat) (st : List Value) (B : Nat × Nat) (T : cm_T) (M : cm_M) (κ : List Value → Nat × Nat → cm_T → cm_M → Prop) : Prop := match st with
  | .int n :: r => cm_ne kd n B (fun N B' => κ (.ref T.2.2 :: r) B' (cm_tn T kd N) (cm_zm M T.2.2))
  | _ => False
def cm_rk (rk : Nat) (T : cm_T) (as : List Value) : Prop := match rk, as with
  | 0, _ => True
  | _, .ref a :: _ => T.1 a = rk
  | _, _ => False
def cm_ca (e : Option cm_E) (st : List Value) (B : Nat × Nat) (T : cm_T) (M : cm_M) (κ : List Value → Nat × Nat → cm_T → cm_M → Prop) : Prop := match e with
  | some (n, rk, mc, ms, S) => match cm_pop n [] st with
    | some (as, r) => cm_rk rk T as ∧ cm_cw r ≤ 8 ∧ mc ≤ B.1 ∧ ms ≤ B.2 ∧ S as T M (fun v T' M' => κ (v.toList ++ r) (B.1 - mc, B.2 - ms) T' M')
    | none => False
  | none => False
def cm_re (rt : Nat) (st : List Value) (ρ : Option Value → Prop) : Prop := match rt, st with
  | 0, [] => ρ none
  | 1, [.int x] => ρ (some (.int x))
  | 2, [.int x] => (x = 0 ∨ x = 1) ∧ ρ (some (.int x))
  | 3, [.long x] => ρ (some (.long x))
  | 4, [.ref x] => ρ (some (.ref x))
  | 4, [.null] => ρ (some .null)
  | _, _ => False

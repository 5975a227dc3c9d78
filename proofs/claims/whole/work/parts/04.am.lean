/-! The abstract machine: cells have fixed names and kinds (part 03); what they hold are functions. One step as a predicate transformer (stp); runs as its least fixed point (Go). -/
abbrev AI : Type := Instr × Nat × Nat × Nat × Int32 × Int64
abbrev Hp : Type := (Nat → Nat → Int32) × (Nat → Nat → Int64) × (Nat → Nat) × (Nat → Nat → Bool) × (Nat → Bool) × Nat × Nat
def rI (h : Hp) : Nat → Nat → Int32 := h.1
def rJ (h : Hp) : Nat → Nat → Int64 := h.2.1
def rL (h : Hp) : Nat → Nat := h.2.2.1
def rN (h : Hp) : Nat → Nat → Bool := h.2.2.2.1
def rD (h : Hp) : Nat → Bool := h.2.2.2.2.1
def rC (h : Hp) : Nat := h.2.2.2.2.2.1
def rS (h : Hp) : Nat := h.2.2.2.2.2.2
/-- an int array, or the int fields of an object, anew -/
def uA (h : Hp) (a : Nat) (f : Nat → Int32) : Hp := (va_up h.1 a f, h.2)
def uB (h : Hp) (a : Nat) (f : Nat → Int64) : Hp := (h.1, va_up h.2.1 a f, h.2.2)
def uI (h : Hp) (a i : Nat) (v : Int32) : Hp := uA h a (upd (h.1 a) i v)
def uJ (h : Hp) (a i : Nat) (v : Int64) : Hp := uB h a (vp_updL (h.2.1 a) i v)
def uN (h : Hp) (a i : Nat) (v : Bool) : Hp := (h.1, h.2.1, h.2.2.1, va_up h.2.2.2.1 a (va_up (h.2.2.2.1 a) i v), h.2.2.2.2)
/-- a new cell -/
def nwH (h : Hp) (a n : Nat) : Hp := (va_up h.1 a (fun _ => 0), va_up h.2.1 a (fun _ => 0), va_up h.2.2.1 a n, va_up h.2.2.2.1 a (fun _ => false), va_up h.2.2.2.2.1 a true, h.2.2.2.2.2.1 + 1, h.2.2.2.2.2.2 + n)
/-- the row 99 takes the place of the row z -/
def adp (h : Hp) (z : Nat) : Hp := (va_up h.1 z (h.1 99), h.2.1, va_up h.2.2.1 z (h.2.2.1 99), h.2.2.2.1, va_up h.2.2.2.2.1 99 false, h.2.2.2.2.2)
def al (h : Hp) (a : Nat) : Nat := bif Nat.beq (L0 a) 0 then rL h a else L0 a
def mk_ : Value := .retAddr 0
def ikd (k : Nat) : Bool := Nat.beq k 20 || Nat.beq k 30
def zkd (k : Nat) : Bool := Nat.beq k 22 || Nat.beq k 23
def akd (k : Nat) : Bool := Nat.ble 24 k && Nat.ble k 27
def ark (k : Nat) : Bool := (Nat.ble 20 k && Nat.ble k 27) || Nat.beq k 30 || Nat.beq k 32
def bty (k : Nat) : FieldType := bif Nat.beq k 22 then .byte else .boolean
/-- the class of what an array of references holds -/
def acl (k : Nat) : Nat := bif Nat.beq k 24 then 4 else bif Nat.beq k 25 then 10 else bif Nat.beq k 26 then 8 else 3
def nzv (v : Value) : Bool := match v with
  | .ref a => !zon a
  | _ => true
def nzz (z : Nat) (v : Value) : Bool := match v with
  | .ref a => !(Nat.beq a z) && !(Nat.beq a 99)
  | _ => true
def csm (r : List Value) : Nat := (r.map fun v => v.category).sum
/-- a call may go out: so many arguments, few words below them, no row below that may be replaced -/
def okf (y x z : Nat) (ls st : List Value) : Bool := Nat.beq (st.take z).length z && Nat.ble (csm (st.drop z)) 8 && (!ren x || (ren y && (ls.all nzv && (st.drop z).all nzv)))
def prt (x : Nat) (r : Value) (rest : List Value) : List Value := bif Nat.beq (rty x) 0 then rest else r :: rest
def p1i (st : List Value) (f : Int32 → List Value → Prop) : Prop := match st with
  | .int x :: r => f x r
  | _ => False
def p2i (st : List Value) (f : Int32 → Int32 → List Value → Prop) : Prop := match st with
  | .int y :: .int x :: r => f x y r
  | _ => False
def p1l (st : List Value) (f : Int64 → List Value → Prop) : Prop := match st with
  | .long x :: r => f x r
  | _ => False
def p2l (st : List Value) (f : Int64 → Int64 → List Value → Prop) : Prop := match st with
  | .long y :: .long x :: r => f x y r
  | _ => False
def pil (st : List Value) (f : Int64 → Int32 → List Value → Prop) : Prop := match st with
  | .int y :: .long x :: r => f x y r
  | _ => False
def pr (st : List Value) (f : Nat → List Value → Prop) : Prop := match st with
  | .ref a :: r => f a r
  | _ => False
def pir (st : List Value) (f : Nat → Int32 → List Value → Prop) : Prop := match st with
  | .int i :: .ref a :: r => f a i r
  | _ => False
def plr (st : List Value) (f : Nat → Int64 → List Value → Prop) : Prop := match st with
  | .long i :: .ref a :: r => f a i r
  | _ => False
def prr (st : List Value) (f : Nat → Nat → List Value → Prop) : Prop := match st with
  | .ref v :: .ref a :: r => f a v r
  | _ => False
def piir (st : List Value) (f : Nat → Int32 → Int32 → List Value → Prop) : Prop := match st with
  | .int v :: .int i :: .ref a :: r => f a i v r
  | _ => False
def plir (st : List Value) (f : Nat → Int32 → Int64 → List Value → Prop) : Prop := match st with
  | .long v :: .int i :: .ref a :: r => f a i v r
  | _ => False
def prir (st : List Value) (f : Nat → Int32 → Nat → List Value → Prop) : Prop := match st with
  | .ref v :: .int i :: .ref a :: r => f a i v r
  | _ => False
def pcp (st : List Value) (f : Nat → Int32 → Nat → Int32 → Int32 → List Value → Prop) : Prop := match st with
  | .int n :: .int dp :: .ref a :: .int sp :: .ref a0 :: r => f a0 sp a dp n r
  | _ => False
def lgi (ls : List Value) (x : Nat) (f : Int32 → Prop) : Prop := match ls[x]? with
  | some (.int v) => f v
  | _ => False
def lgl (ls : List Value) (x : Nat) (f : Int64 → Prop) : Prop := match ls[x]? with
  | some (.long v) => f v
  | _ => False
def lga (ls : List Value) (x : Nat) (f : Value → Prop) : Prop := match ls[x]? with
  | some (.ref a) => f (.ref a)
  | some .null => f .null
  | _ => False
def clr (ls : List Value) (x : Nat) : List Value := match x with
  | 0 => ls
  | j + 1 => match ls[j]? with
    | some v => bif Nat.beq v.category 2 then ls.set j mk_ else ls
    | none => ls
def st1 (ls : List Value) (x : Nat) (v : Value) : List Value := (clr ls x).set x v
def st2 (ls : List Value) (x : Nat) (v : Value) : List Value := ((clr ls x).set x v).set (x + 1) mk_
def cnd (c : Jvm.ClassFile.Cond) (x y : Int32) : Prop := match c with
  | .eq => x = y
  | .ne => ¬ x = y
  | .lt => x < y
  | .ge => y ≤ x
  | .gt => y < x
  | .le => x ≤ y
def swt (v : Int) (K : Nat → Prop) : Int → List Int → Prop
  | _, [] => True
  | lo, o :: os => (v = lo → K o.toNat) ∧ swt v K (lo + 1) os
def lks (v : Int) (K : Nat → Prop) (d : Nat) : List (Int × Int) → Prop
  | [] => K d
  | o :: os => (v = o.1 → K o.2.toNat) ∧ (¬ v = o.1 → lks v K d os)
/-- a check that is decided by names alone -/
abbrev okb (c : Bool) (P : Prop) : Prop := bif c then P else False
abbrev Po : Type := Value → Hp → Prop
abbrev Cl : Type := Bool → Nat → List Value → Hp → Po → Prop
abbrev Kn : Type := Bool → Nat → List Value → List Value → Hp → Prop
/-- one instruction: what must hold ahead of it, so that K holds behind it (or Q of the answer) -/
def stp (cal : Cl) (y : Nat) (i : AI) (b : Bool) (pc : Nat) (ls st : List Value) (h : Hp) (K : Kn) (Q : Po) : Prop :=
  match i with
  | (op, n, x, z, ci, cj) => match op with
    | .iconst _ => K b (pc + n) ls (.int ci :: st) h
    | .nop => (∀ a k, N0 a k = true → rD h a = true ∧ rN h a k = true) ∧ K true (pc + n) ls (.int ci :: st) h
    | .lconst _ => K b (pc + n) ls (.long cj :: st) h
    | .ldc _ => K b (pc + n) ls (.ref x :: st) h
    | .iload _ => lgi ls x fun v => K b (pc + n) ls (.int v :: st) h
    | .lload _ => lgl ls x fun v => K b (pc + n) ls (.long v :: st) h
    | .aload _ => lga ls x fun v => K b (pc + n) ls (v :: st) h
    | .istore _ => p1i st fun v r => K b (pc + n) (st1 ls x (.int v)) r h
    | .lstore _ => p1l st fun v r => K b (pc + n) (st2 ls x (.long v)) r h
    | .astore _ => pr st fun v r => K b (pc + n) (st1 ls x (.ref v)) r h
    | .iinc _ _ => lgi ls x fun v => K b (pc + n) (st1 ls x (.int (v + ci))) st h
    | .iadd => p2i st fun x y r => K b (pc + n) ls (.int (x + y) :: r) h
    | .isub => p2i st fun x y r => K b (pc + n) ls (.int (x - y) :: r) h
    | .imul => p2i st fun x y r => K b (pc + n) ls (.int (x * y) :: r) h
    | .idiv => p2i st fun x y r => ¬ y = 0 ∧ K b (pc + n) ls (.int (x / y) :: r) h
    | .irem => p2i st fun x y r => ¬ y = 0 ∧ K b (pc + n) ls (.int (x - x / y * y) :: r) h
    | .iand => p2i st fun x y r => K b (pc + n) ls (.int (x &&& y) :: r) h
    | .ior => p2i st fun x y r => K b (pc + n) ls (.int (x ||| y) :: r) h
    | .ixor => p2i st fun x y r => K b (pc + n) ls (.int (x ^^^ y) :: r) h
    | .ishl => p2i st fun x y r => K b (pc + n) ls (.int (x <<< (y &&& 31)) :: r) h
    | .ishr => p2i st fun x y r => K b (pc + n) ls (.int (x >>> (y &&& 31)) :: r) h
    | .iushr => p2i st fun x y r => K b (pc + n) ls (.int (x.toUInt32 >>> (y.toUInt32 &&& Int32.toUInt32 31)).toInt32 :: r) h
    | .ineg => p1i st fun x r => K b (pc + n) ls (.int (-x) :: r) h
    | .ladd => p2l st fun x y r => K b (pc + n) ls (.long (x + y) :: r) h
    | .lsub => p2l st fun x y r => K b (pc + n) ls (.long (x - y) :: r) h
    | .lmul => p2l st fun x y r => K b (pc + n) ls (.long (x * y) :: r) h
    | .ldiv => p2l st fun x y r => ¬ y = 0 ∧ K b (pc + n) ls (.long (x / y) :: r) h
    | .lrem => p2l st fun x y r => ¬ y = 0 ∧ K b (pc + n) ls (.long (x - x / y * y) :: r) h
    | .land => p2l st fun x y r => K b (pc + n) ls (.long (x &&& y) :: r) h
    | .lor => p2l st fun x y r => K b (pc + n) ls (.long (x ||| y) :: r) h
    | .lshl => pil st fun x y r => K b (pc + n) ls (.long (x <<< (y.toInt64 &&& 63)) :: r) h
    | .lshr => pil st fun x y r => K b (pc + n) ls (.long (x >>> (y.toInt64 &&& 63)) :: r) h
    | .lcmp => p2l st fun x y r => K b (pc + n) ls (.int (lg_cmp x y) :: r) h
    | .i2l => p1i st fun x r => K b (pc + n) ls (.long x.toInt64 :: r) h
    | .l2i => p1l st fun x r => K b (pc + n) ls (.int x.toInt32 :: r) h
    | .i2b => p1i st fun x r => K b (pc + n) ls (.int x.toInt8.toInt32 :: r) h
    | .i2s => p1i st fun x r => K b (pc + n) ls (.int x.toInt16.toInt32 :: r) h
    | .i2c => p1i st fun x r => K b (pc + n) ls (.int (x.toUInt32 % 65536).toInt32 :: r) h
    | .ifCond c _ => p1i st fun v r => (cnd c v 0 → K b x ls r h) ∧ (¬ cnd c v 0 → K b (pc + n) ls r h)
    | .if_icmp c _ => p2i st fun v w r => (cnd c v w → K b x ls r h) ∧ (¬ cnd c v w → K b (pc + n) ls r h)
    | .goto _ => K b x ls st h
    | .ifnull _ => match st with
      | .null :: r => K b x ls r h
      | .ref _ :: r => K b (pc + n) ls r h
      | _ => False
    | .ifnonnull _ => match st with
      | .null :: r => K b (pc + n) ls r h
      | .ref _ :: r => K b x ls r h
      | _ => False
    | .tableswitch d lo hi os => p1i st fun v r => (v.toInt < lo ∨ hi < v.toInt → K b d.toNat ls r h) ∧ swt v.toInt (fun t => K b t ls r h) lo os.toList
    | .lookupswitch d os => p1i st fun v r => lks v.toInt (fun t => K b t ls r h) d.toNat os.toList
    | .dup => match st with
      | .int v :: r => K b (pc + n) ls (.int v :: .int v :: r) h
      | .ref v :: r => K b (pc + n) ls (.ref v :: .ref v :: r) h
      | _ => False
    | .dup2 => match st with
      | .long v :: r => K b (pc + n) ls (.long v :: .long v :: r) h
      | .int v :: .ref a :: r => K b (pc + n) ls (.int v :: .ref a :: .int v :: .ref a :: r) h
      | _ => False
    | .pop => match st with
      | .int _ :: r => K b (pc + n) ls r h
      | .ref _ :: r => K b (pc + n) ls r h
      | _ => False
    | .getfield _ => pr st fun a r => okb (Nat.beq (K0 a) x) (bif Nat.beq (fty x z) 2 then (bif b && N0 a z then K b (pc + n) ls (.ref (R0 a z) :: r) h else (rN h a z = true ∧ K b (pc + n) ls (.ref (R0 a z) :: r) h)) else bif Nat.beq (fty x z) 1 then K b (pc + n) ls (.long (rJ h a z) :: r) h else K b (pc + n) ls (.int (rI h a z) :: r) h)
    | .putfield _ => bif Nat.beq (fty x z) 2 then (prr st fun a v r => okb (Nat.beq (K0 a) x) (bif Nat.beq v (R0 a z) then K b (pc + n) ls r (uN h a z true) else bif Nat.beq v 99 && zon (R0 a z) && ren y && ls.all (nzz (R0 a z)) && r.all (nzz (R0 a z)) then (rN h a z = true ∧ K b (pc + n) ls r (adp h (R0 a z))) else False))
      else bif Nat.beq (fty x z) 1 then (plr st fun a v r => okb (Nat.beq (K0 a) x) (K b (pc + n) ls r (uJ h a z v)))
      else bif Nat.beq (fty x z) 3 then (pir st fun a v r => okb (Nat.beq (K0 a) x) ((v = 0 ∨ v = 1) ∧ K b (pc + n) ls r (uI h a z v)))
      else (pir st fun a v r => okb (Nat.beq (K0 a) x) (K b (pc + n) ls r (uI h a z v)))
    | .checkcast _ => pr st fun a r => okb (Nat.beq (K0 a) 31) (bif Nat.beq x 0 then K b (pc + n) ls (.ref (R0 a 0) :: r) h else K b (pc + n) ls (.int 0 :: r) h)
    | .getstatic _ => bif Nat.beq x 0 then K b (pc + n) ls (.int 1 :: st) h else K b (pc + n) ls (.retAddr 1 :: st) h
    | .iaload => pir st fun a i r => okb (ikd (K0 a)) (vp_in i (al h a) ∧ K b (pc + n) ls (.int (rI h a i.toNatClampNeg) :: r) h)
    | .laload => pir st fun a i r => okb (Nat.beq (K0 a) 21) (vp_in i (al h a) ∧ K b (pc + n) ls (.long (rJ h a i.toNatClampNeg) :: r) h)
    | .baload => pir st fun a i r => bif Nat.beq (K0 a) 32 then (vp_in i (L0 a) ∧ K b (pc + n) ls (.int (B0 a i.toNatClampNeg) :: r) h) else okb (zkd (K0 a)) (vp_in i (al h a) ∧ K b (pc + n) ls (.int (rI h a i.toNatClampNeg) :: r) h)
    | .aaload => pir st fun a i r => okb (akd (K0 a)) (vp_in i (al h a) ∧ (rN h a i.toNatClampNeg = true → K b (pc + n) ls (.ref (R0 a i.toNatClampNeg) :: r) h) ∧ (rN h a i.toNatClampNeg = false → K b (pc + n) ls (.null :: r) h))
    | .iastore => piir st fun a i v r => okb (Nat.beq (K0 a) 20) (vp_in i (al h a) ∧ K b (pc + n) ls r (uI h a i.toNatClampNeg v))
    | .lastore => plir st fun a i v r => okb (Nat.beq (K0 a) 21) (vp_in i (al h a) ∧ K b (pc + n) ls r (uJ h a i.toNatClampNeg v))
    | .bastore => piir st fun a i v r => okb (zkd (K0 a)) (vp_in i (al h a) ∧ K b (pc + n) ls r (uI h a i.toNatClampNeg (vp_nar (bty (K0 a)) v)))
    | .aastore => prir st fun a i v r => okb (akd (K0 a) && Nat.beq (K0 v) (acl (K0 a))) (vp_in i (al h a) ∧ v = R0 a i.toNatClampNeg ∧ K b (pc + n) ls r (uN h a i.toNatClampNeg true))
    | .arraylength => pr st fun a r => okb (ark (K0 a)) (K b (pc + n) ls (.int (nI (al h a)) :: r) h)
    | .new _ => ∃ a, K0 a = x ∧ rD h a = false ∧ K b (pc + n) ls (.ref a :: st) (nwH h a (nfl x))
    | .newarray _ => p1i st fun v r => ∃ a, K0 a = x ∧ rD h a = false ∧ ¬ v < 0 ∧ (L0 a = 0 ∨ L0 a = v.toNatClampNeg) ∧ v.toNatClampNeg ≤ 1000000 ∧ K b (pc + n) ls (.ref a :: r) (nwH h a v.toNatClampNeg)
    | .anewarray _ => p1i st fun v r => ∃ a, K0 a = x ∧ rD h a = false ∧ ¬ v < 0 ∧ (L0 a = 0 ∨ L0 a = v.toNatClampNeg) ∧ v.toNatClampNeg ≤ 1000000 ∧ K b (pc + n) ls (.ref a :: r) (nwH h a v.toNatClampNeg)
    | .monitorenter => pcp st fun a0 sp a dp c r => okb (Nat.beq (K0 a0) 20 && Nat.beq (K0 a) 20 && Nat.ble (csm r) 8) (¬ sp < 0 ∧ ¬ dp < 0 ∧ ¬ c < 0 ∧ sp.toNatClampNeg + c.toNatClampNeg ≤ al h a0 ∧ dp.toNatClampNeg + c.toNatClampNeg ≤ al h a ∧ K b (pc + n) ls r (uA h a (va_cpy (rI h a0) (rI h a) sp.toNatClampNeg dp.toNatClampNeg c.toNatClampNeg)))
    | .monitorexit => pr st fun _ r => okb (Nat.ble (csm r) 8) (K b (pc + n) ls r h)
    | .invokestatic _ => okb (okf y x z ls st) (cal b x (st.take z).reverse h (fun r h' => K b (pc + n) ls (prt x r (st.drop z)) h'))
    | .invokevirtual _ => pr (st.drop (z - 1)) fun a _ => okb (Nat.beq (K0 a) (kcl x) && okf y x z ls st) (cal b x (st.take z).reverse h (fun r h' => K b (pc + n) ls (prt x r (st.drop z)) h'))
    | .invokespecial _ => pr (st.drop (z - 1)) fun a _ => okb (Nat.beq (K0 a) (kcl x) && okf y x z ls st) (cal b x (st.take z).reverse h (fun r h' => K b (pc + n) ls (prt x r (st.drop z)) h'))
    | .ireturn => match st with
      | [.int v] => bif Nat.beq (rty y) 1 then Q (.int v) h else bif Nat.beq (rty y) 4 then ((v = 0 ∨ v = 1) ∧ Q (.int v) h) else bif Nat.beq (rty y) 5 then (narrow .char (.int v) = .int v ∧ Q (.int v) h) else bif Nat.beq (rty y) 6 then (narrow .byte (.int v) = .int v ∧ Q (.int v) h) else False
      | _ => False
    | .lreturn => match st with
      | [.long v] => okb (Nat.beq (rty y) 2) (Q (.long v) h)
      | _ => False
    | .areturn => match st with
      | [.ref v] => okb (Nat.beq (rty y) 3) (Q (.ref v) h)
      | _ => False
    | .return_ => match st with
      | [] => okb (Nat.beq (rty y) 0) (Q mk_ h)
      | _ => False
    | _ => False
theorem p1i_m {st : List Value} {f g : Int32 → List Value → Prop} (m : ∀ x r, f x r → g x r) (h : p1i st f) : p1i st g := by
  unfold p1i at h ⊢; split at h <;> first | exact m _ _ h | exact h.elim
theorem p2i_m {st : List Value} {f g : Int32 → Int32 → List Value → Prop} (m : ∀ x y r, f x y r → g x y r) (h : p2i st f) : p2i st g := by
  unfold p2i at h ⊢; split at h <;> first | exact m _ _ _ h | exact h.elim
theorem p1l_m {st : List Value} {f g : Int64 → List Value → Prop} (m : ∀ x r, f x r → g x r) (h : p1l st f) : p1l st g := by
  unfold p1l at h ⊢; split at h <;> first | exact m _ _ h | exact h.elim
theorem p2l_m {st : List Value} {f g : Int64 → Int64 → List Value → Prop} (m : ∀ x y r, f x y r → g x y r) (h : p2l st f) : p2l st g := by
  unfold p2l at h ⊢; split at h <;> first | exact m _ _ _ h | exact h.elim
theorem pil_m {st : List Value} {f g : Int64 → Int32 → List Value → Prop} (m : ∀ x y r, f x y r → g x y r) (h : pil st f) : pil st g := by
  unfold pil at h ⊢; split at h <;> first | exact m _ _ _ h | exact h.elim
theorem pr_m {st : List Value} {f g : Nat → List Value → Prop} (m : ∀ x r, f x r → g x r) (h : pr st f) : pr st g := by
  unfold pr at h ⊢; split at h <;> first | exact m _ _ h | exact h.elim
theorem pir_m {st : List Value} {f g : Nat → Int32 → List Value → Prop} (m : ∀ x y r, f x y r → g x y r) (h : pir st f) : pir st g := by
  unfold pir at h ⊢; split at h <;> first | exact m _ _ _ h | exact h.elim
theorem plr_m {st : List Value} {f g : Nat → Int64 → List Value → Prop} (m : ∀ x y r, f x y r → g x y r) (h : plr st f) : plr st g := by
  unfold plr at h ⊢; split at h <;> first | exact m _ _ _ h | exact h.elim
theorem prr_m {st : List Value} {f g : Nat → Nat → List Value → Prop} (m : ∀ x y r, f x y r → g x y r) (h : prr st f) : prr st g := by
  unfold prr at h ⊢; split at h <;> first | exact m _ _ _ h | exact h.elim
theorem piir_m {st : List Value} {f g : Nat → Int32 → Int32 → List Value → Prop} (m : ∀ x y z r, f x y z r → g x y z r) (h : piir st f) : piir st g := by
  unfold piir at h ⊢; split at h <;> first | exact m _ _ _ _ h | exact h.elim
theorem plir_m {st : List Value} {f g : Nat → Int32 → Int64 → List Value → Prop} (m : ∀ x y z r, f x y z r → g x y z r) (h : plir st f) : plir st g := by
  unfold plir at h ⊢; split at h <;> first | exact m _ _ _ _ h | exact h.elim
theorem prir_m {st : List Value} {f g : Nat → Int32 → Nat → List Value → Prop} (m : ∀ x y z r, f x y z r → g x y z r) (h : prir st f) : prir st g := by
  unfold prir at h ⊢; split at h <;> first | exact m _ _ _ _ h | exact h.elim
theorem pcp_m {st : List Value} {f g : Nat → Int32 → Nat → Int32 → Int32 → List Value → Prop} (m : ∀ a b c d e r, f a b c d e r → g a b c d e r) (h : pcp st f) : pcp st g := by
  unfold pcp at h ⊢; split at h <;> first | exact m _ _ _ _ _ _ h | exact h.elim
theorem lgi_m {ls : List Value} {x : Nat} {f g : Int32 → Prop} (m : ∀ v, f v → g v) (h : lgi ls x f) : lgi ls x g := by
  unfold lgi at h ⊢; split at h <;> first | exact m _ h | exact h.elim
theorem lgl_m {ls : List Value} {x : Nat} {f g : Int64 → Prop} (m : ∀ v, f v → g v) (h : lgl ls x f) : lgl ls x g := by
  unfold lgl at h ⊢; split at h <;> first | exact m _ h | exact h.elim
theorem lga_m {ls : List Value} {x : Nat} {f g : Value → Prop} (m : ∀ v, f v → g v) (h : lga ls x f) : lga ls x g := by
  unfold lga at h ⊢; split at h <;> first | exact m _ h | exact h.elim
theorem swt_m {v : Int} {f g : Nat → Prop} (m : ∀ t, f t → g t) : ∀ (os : List Int) (lo : Int), swt v f lo os → swt v g lo os := by
  intro os
  induction os with
  | nil => intro lo h; exact h
  | cons o os ih => intro lo h; exact ⟨fun e => m _ (h.1 e), ih _ h.2⟩
theorem lks_m {v : Int} {f g : Nat → Prop} {d : Nat} (m : ∀ t, f t → g t) : ∀ (os : List (Int × Int)), lks v f d os → lks v g d os := by
  intro os
  induction os with
  | nil => intro h; exact m _ h
  | cons o os ih => intro h; exact ⟨fun e => m _ (h.1 e), fun e => ih (h.2 e)⟩
theorem bif_m {c : Bool} {A B A' B' : Prop} (ma : A → A') (mb : B → B') (h : bif c then A else B) : bif c then A' else B' := by
  cases c
  · exact mb h
  · exact ma h
theorem okb_m {c : Bool} {A A' : Prop} (ma : A → A') (h : okb c A) : okb c A' := bif_m ma id h
theorem okb_i {c : Bool} {A : Prop} (hc : c = true) (h : A) : okb c A := by subst hc; exact h
theorem okb_e {c : Bool} {A : Prop} (h : okb c A) : c = true ∧ A := by
  cases c
  · exact h.elim
  · exact ⟨rfl, h⟩

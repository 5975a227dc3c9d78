/-! What ties an instruction of the abstract machine to the one that the Statement's bytes decode to, with the words that link it. -/
abbrev dcd (y pc : Nat) (op : Instr) (n : Nat) : Prop := decode (bt y) pc = .ok (op, n)
def fln (y k c f : Nat) : Prop := c < 13 ∧ f < nfl c ∧ (Cond.fieldLink (nm y).cls k (cN c) (cT c f).2.1 (cT c f).2.2.1 ∈ gtb ∨ ∃ host, Cond.fieldLinkNest (nm y).cls k (cN c) (cT c f).2.1 (cT c f).2.2.1 host ∈ ntb)
def fpn (y k c f : Nat) : Prop := c < 13 ∧ f < nfl c ∧ (((cT c f).2.2.2 = false ∧ (Cond.fieldLink (nm y).cls k (cN c) (cT c f).2.1 (cT c f).2.2.1 ∈ gtb ∨ ∃ host, Cond.fieldLinkNest (nm y).cls k (cN c) (cT c f).2.1 (cT c f).2.2.1 host ∈ ntb)) ∨ ((cT c f).2.2.2 = true ∧ (nm y).name = "<init>" ∧ cN c = (nm y).cls ∧ Cond.fieldLink (nm y).cls k (cN c) (cT c f).2.1 (cT c f).2.2.1 ∈ gtb))
def mln (y k x : Nat) : Prop := Cond.methodLink (nm y).cls k (nm x) ∈ gtb ∨ ∃ host, Cond.methodLinkNest (nm y).cls k (nm x) host ∈ ntb
def aty (k : Nat) : FieldType := bif Nat.beq k 20 then .int else bif Nat.beq k 21 then .long else bif Nat.beq k 22 then .byte else bif Nat.beq k 23 then .boolean else .object (cN (acl k))
def okA (y pc : Nat) (i : AI) : Prop := match i with
  | (op, n, x, z, ci, cj) => match op with
    | .iconst _ => (∃ k : Int, dcd y pc (.iconst k) 1 ∧ n = 1 ∧ Int32.ofInt k = ci) ∨ (∃ k : Int, dcd y pc (.bipush k) 2 ∧ n = 2 ∧ (Int8.ofInt k).toInt32 = ci) ∨ (∃ k : Int, dcd y pc (.sipush k) 3 ∧ n = 3 ∧ (Int16.ofInt k).toInt32 = ci) ∨ (∃ k : Nat, dcd y pc (.ldc k) 2 ∧ n = 2 ∧ Cond.constant (nm y).cls k ci ∈ gtb) ∨ (∃ k : Nat, dcd y pc (.ldc_w k) 3 ∧ n = 3 ∧ Cond.constant (nm y).cls k ci ∈ gtb)
    | .nop => ∃ k : Int, dcd y pc (.iconst k) 1 ∧ n = 1 ∧ Int32.ofInt k = ci
    | .lconst _ => (∃ k : Fin 2, dcd y pc (.lconst k) 1 ∧ n = 1 ∧ Int64.ofNat (k : Nat) = cj) ∨ (∃ k : Nat, dcd y pc (.ldc2_w k) 3 ∧ n = 3 ∧ Cond.constantLong (nm y).cls k cj ∈ gtb)
    | .ldc _ => ∃ i : Nat, dcd y pc (.ldc (snI i)) 2 ∧ n = 2 ∧ i < 4 ∧ x = 1 + i ∧ snO i = (nm y).cls
    | .iload _ => (∃ k : Fin 4, dcd y pc (.iload_n k) 1 ∧ n = 1 ∧ (k : Nat) = x) ∨ (dcd y pc (.iload x) 2 ∧ n = 2)
    | .lload _ => (∃ k : Fin 4, dcd y pc (.lload_n k) 1 ∧ n = 1 ∧ (k : Nat) = x) ∨ (dcd y pc (.lload x) 2 ∧ n = 2)
    | .aload _ => (∃ k : Fin 4, dcd y pc (.aload_n k) 1 ∧ n = 1 ∧ (k : Nat) = x) ∨ (dcd y pc (.aload x) 2 ∧ n = 2)
    | .istore _ => x < mxl y ∧ ((∃ k : Fin 4, dcd y pc (.istore_n k) 1 ∧ n = 1 ∧ (k : Nat) = x) ∨ (dcd y pc (.istore x) 2 ∧ n = 2))
    | .lstore _ => x + 1 < mxl y ∧ ((∃ k : Fin 4, dcd y pc (.lstore_n k) 1 ∧ n = 1 ∧ (k : Nat) = x) ∨ (dcd y pc (.lstore x) 2 ∧ n = 2))
    | .astore _ => x < mxl y ∧ ((∃ k : Fin 4, dcd y pc (.astore_n k) 1 ∧ n = 1 ∧ (k : Nat) = x) ∨ (dcd y pc (.astore x) 2 ∧ n = 2))
    | .iinc _ _ => x < mxl y ∧ ∃ k : Int, dcd y pc (.iinc x k) 3 ∧ n = 3 ∧ Int32.ofInt k = ci
    | .ifCond c _ => ∃ o : Int, dcd y pc (.ifCond c o) 3 ∧ n = 3 ∧ (pc : Int) + o = (x : Int)
    | .if_icmp c _ => ∃ o : Int, dcd y pc (.if_icmp c o) 3 ∧ n = 3 ∧ (pc : Int) + o = (x : Int)
    | .goto _ => ∃ o : Int, dcd y pc (.goto o) 3 ∧ (pc : Int) + o = (x : Int)
    | .ifnull _ => ∃ o : Int, dcd y pc (.ifnull o) 3 ∧ n = 3 ∧ (pc : Int) + o = (x : Int)
    | .ifnonnull _ => ∃ o : Int, dcd y pc (.ifnonnull o) 3 ∧ n = 3 ∧ (pc : Int) + o = (x : Int)
    | .tableswitch d lo hi os => ∃ (d' : Int) (os' : Array Int) (len : Nat), dcd y pc (.tableswitch d' lo hi os') len ∧ (pc : Int) + d' = d ∧ 0 ≤ d ∧ os.toList = os'.toList.map (fun o => (pc : Int) + o) ∧ os.toList.all (fun o => decide (0 ≤ o)) = true ∧ hi - lo + 1 = (os'.toList.length : Int)
    | .lookupswitch d os => ∃ (d' : Int) (os' : Array (Int × Int)) (len : Nat), dcd y pc (.lookupswitch d' os') len ∧ (pc : Int) + d' = d ∧ 0 ≤ d ∧ os.toList = os'.toList.map (fun o => (o.1, (pc : Int) + o.2)) ∧ os.toList.all (fun o => decide (0 ≤ o.2)) = true ∧ (os'.toList.zip (os'.toList.drop 1)).all (fun (a, next) => a.1 < next.1) = true
    | .getfield _ => ∃ k, dcd y pc (.getfield k) 3 ∧ n = 3 ∧ fln y k x z
    | .putfield _ => ∃ k, dcd y pc (.putfield k) 3 ∧ n = 3 ∧ fpn y k x z
    | .checkcast _ => ∃ k, dcd y pc (.getfield k) 3 ∧ n = 3 ∧ ((x = 0 ∧ Cond.fieldLink (nm y).cls k "java/lang/String" "value" "[B" ∈ gtb) ∨ (x = 1 ∧ Cond.fieldLink (nm y).cls k "java/lang/String" "coder" "B" ∈ gtb))
    | .getstatic _ => ∃ k, dcd y pc (.getstatic k) 3 ∧ n = 3 ∧ ((x = 0 ∧ Cond.fieldLink (nm y).cls k "java/lang/String" "COMPACT_STRINGS" "Z" ∈ gtb) ∨ (x = 1 ∧ Cond.fieldLink (nm y).cls k "jdk/internal/util/Preconditions" "SIOOBE_FORMATTER" "Ljava/util/function/BiFunction;" ∈ gtb))
    | .new _ => ∃ k, dcd y pc (.new k) 3 ∧ n = 3 ∧ x < 13 ∧ Cond.classLink (nm y).cls k (cN x) ∈ gtb
    | .newarray t => dcd y pc (.newarray t) 2 ∧ n = 2 ∧ 20 ≤ x ∧ x ≤ 23 ∧ newarray.typeOf t = aty x ∧ Cond.arrayClass (newarray.typeOf t) ∈ gtb
    | .anewarray _ => ∃ k, dcd y pc (.anewarray k) 3 ∧ n = 3 ∧ 24 ≤ x ∧ x ≤ 27 ∧ Cond.classLink (nm y).cls k (cN (acl x)) ∈ gtb
    | .monitorenter => ∃ k, dcd y pc (.invokestatic k) 3 ∧ n = 3 ∧ Cond.methodLink (nm y).cls k arraycopyName ∈ gtb
    | .monitorexit => ∃ k, dcd y pc (.invokespecial k) 3 ∧ n = 3 ∧ Cond.methodLink (nm y).cls k objectInit ∈ gtb
    | .invokestatic _ => ∃ k, dcd y pc (.invokestatic k) 3 ∧ n = 3 ∧ 0 < x ∧ x < 320 ∧ z = npr x ∧ mln y k x ∧ Cond.static (nm x) ∈ gtb
    | .invokevirtual _ => ∃ k, dcd y pc (.invokevirtual k) 3 ∧ n = 3 ∧ 0 < x ∧ x < 320 ∧ z = npr x + 1 ∧ mln y k x ∧ Cond.instanceMethod (nm x) ∈ gtb ∧ Cond.selects (nm x).cls (nm x) (nm x) ∈ gtb
    | .invokespecial _ => ∃ k, dcd y pc (.invokespecial k) 3 ∧ n = 3 ∧ 0 < x ∧ x < 320 ∧ z = npr x + 1 ∧ mln y k x ∧ Cond.instanceMethod (nm x) ∈ gtb ∧ (nm x).name = "<init>" ∧ rtt x = none
    | .athrow => True
    | op => dcd y pc op 1 ∧ n = 1
theorem tbl_s {c : Bool} {A B : AI} {P : AI → Prop} (h1 : P A) (h2 : P B) : P (bif c then A else B) := by
  cases c
  · exact h2
  · exact h1
theorem tbl_l {y p k : Nat} {A : AI} (h : okA y k A) : okA y p (bif Nat.beq p k then A else ax) := by
  cases e : Nat.beq p k
  · exact trivial
  · rw [Nat.eq_of_beq_eq_true e]
    exact h
/-- what a callee's words are -/
def cdx (x : Nat) : Prop := Cond.code (nm x) (bt x) (mxl x) (rtt x) ∈ gtb ∧ Cond.initialized (nm x).cls ∈ gtb ∧ ((nm x).cls ≠ "java/lang/invoke/MethodHandle" ∧ (nm x).cls ≠ "java/lang/invoke/VarHandle" ∧ (parseMethodDescriptor (nm x).desc).map (fun d => d.parameters.length) = some (npr x)) ∧ plainName (nm x).cls = true ∧ mxl x ≤ 21

/-! Constants, locals, branches, switches, the stack, returns. -/
section PS
variable {d y : Nat} {b : Bool} {pc n : Nat} {ls st : List Value} {h : Hp} {Q : Po}
theorem sx_iconst {ci : Int32} (hk : (∃ k : Int, dcd y pc (.iconst k) 1 ∧ n = 1 ∧ Int32.ofInt k = ci) ∨ (∃ k : Int, dcd y pc (.bipush k) 2 ∧ n = 2 ∧ (Int8.ofInt k).toInt32 = ci) ∨ (∃ k : Int, dcd y pc (.sipush k) 3 ∧ n = 3 ∧ (Int16.ofInt k).toInt32 = ci) ∨ (∃ k : Nat, dcd y pc (.ldc k) 2 ∧ n = 2 ∧ Cond.constant (nm y).cls k ci ∈ gtb) ∨ (∃ k : Nat, dcd y pc (.ldc_w k) 3 ∧ n = 3 ∧ Cond.constant (nm y).cls k ci ∈ gtb)) (H : PsO d y Q b (pc + n) ls (.int ci :: st) h) : PsO d y Q b pc ls st h := by
  obtain ⟨q, h', hq, hX⟩ := H
  rcases hk with ⟨k, hd, rfl, hv⟩ | ⟨k, hd, rfl, hv⟩ | ⟨k, hd, rfl, hv⟩ | ⟨k, hd, rfl, hv⟩ | ⟨k, hd, rfl, hv⟩
  · exact ⟨q, h', hq, X_st hX (fun hs => cons_ok trivial hs) (fun iv k => lv_iconst iv.1.1 iv.1.2.1 hd hv k)⟩
  · exact ⟨q, h', hq, X_st hX (fun hs => cons_ok trivial hs) (fun iv k => lv_bipush iv.1.1 iv.1.2.1 hd hv k)⟩
  · exact ⟨q, h', hq, X_st hX (fun hs => cons_ok trivial hs) (fun iv k => lv_sipush iv.1.1 iv.1.2.1 hd hv k)⟩
  · exact ⟨q, h', hq, X_st hX (fun hs => cons_ok trivial hs) (fun iv k => lv_ldc iv.1.1 iv.1.2.1 iv.1.2.2.2.2.1 (iv.1.2.2.2.2.2.1 _ hv) hd k)⟩
  · exact ⟨q, h', hq, X_st hX (fun hs => cons_ok trivial hs) (fun iv k => lv_ldcw iv.1.1 iv.1.2.1 iv.1.2.2.2.2.1 (iv.1.2.2.2.2.2.1 _ hv) hd k)⟩
theorem sx_lconst {cj : Int64} (hk : (∃ k : Fin 2, dcd y pc (.lconst k) 1 ∧ n = 1 ∧ Int64.ofNat (k : Nat) = cj) ∨ (∃ k : Nat, dcd y pc (.ldc2_w k) 3 ∧ n = 3 ∧ Cond.constantLong (nm y).cls k cj ∈ gtb)) (H : PsO d y Q b (pc + n) ls (.long cj :: st) h) : PsO d y Q b pc ls st h := by
  obtain ⟨q, h', hq, hX⟩ := H
  rcases hk with ⟨k, hd, rfl, hv⟩ | ⟨k, hd, rfl, hv⟩
  · exact ⟨q, h', hq, X_st hX (fun hs => cons_ok trivial hs) (fun iv k => lv_lconst iv.1.1 iv.1.2.1 hd hv k)⟩
  · exact ⟨q, h', hq, X_st hX (fun hs => cons_ok trivial hs) (fun iv k => lv_ldc2 iv.1.1 iv.1.2.1 iv.1.2.2.2.2.1 (iv.1.2.2.2.2.2.1 _ hv) hd k)⟩
theorem IvO.on {G : Gx} {b0 : Bool} {ρ0 : Nat → Nat} {h0 : Hp} {R : Room} {p : Program} {s : State} {m : MethodId} {args : Array Value} {meth : Method} {c : Code} {ρ : Nat → Nat} {γ : Nat → ClassId} {H : Heap} {arr : Array Slot} {locs : List Loc} {ci : Int32} (iv : IvO G d y b0 b ρ0 h0 R p s m args meth c ρ γ h H arr ls st locs) (hN : ∀ a k, N0 a k = true → rD h a = true ∧ rN h a k = true) : IvO G d y b0 true ρ0 h0 R p s m args meth c ρ γ h H arr ls (.int ci :: st) locs := by
  obtain ⟨i1, i2, i3, i4, ⟨L, w1, w2, w3, w4, w5, w6, w7, w8, w9, w10⟩, i6, i7, i8, i9, i10, i11, i12, i13⟩ := iv
  exact ⟨i1, i2, i3, i4, ⟨L, w1, w2, w3, w4, w5, w6, w7, w8, w9, fun _ a k hk => ⟨(w5 a).mpr (hN a k hk).1, (hN a k hk).2⟩⟩, i6, i7, cons_ok trivial i8, i9, i10, i11, i12, fun _ => rfl⟩
theorem sx_nop {ci : Int32} (hk : ∃ k : Int, dcd y pc (.iconst k) 1 ∧ n = 1 ∧ Int32.ofInt k = ci) (H : (∀ a k, N0 a k = true → rD h a = true ∧ rN h a k = true) ∧ PsO d y Q true (pc + n) ls (.int ci :: st) h) : PsO d y Q b pc ls st h := by
  obtain ⟨hN, q, h', hq, hX⟩ := H
  obtain ⟨k, hd, rfl, hv⟩ := hk
  exact ⟨q, h', hq, hX.1, hX.2.1, fun iv h1 h2 => lv_iconst iv.1.1 iv.1.2.1 hd hv (hX.2.2 (iv.on hN) h1 h2)⟩
theorem sx_ldcS {x : Nat} (hk : ∃ i : Nat, dcd y pc (.ldc (snI i)) 2 ∧ n = 2 ∧ i < 4 ∧ x = 1 + i ∧ snO i = (nm y).cls) (H : PsO d y Q b (pc + n) ls (.ref x :: st) h) : PsO d y Q b pc ls st h := by
  obtain ⟨q, h', hq, hX⟩ := H
  obtain ⟨i, hd, rfl, hi, rfl, ho⟩ := hk
  refine ⟨q, h', hq, X_st hX (fun hs => cons_ok (Or.inl (show 1 + i < 10 by omega)) hs) (fun iv k => va_ldcS (own := snO i) (tx := snT i) (q := _) iv.1.1 iv.1.2.1 (by rw [ho]; exact iv.1.2.2.2.2.1) (iv.2.2.2.1.2.2.2.1 i hi).1 hd k)⟩
theorem sx_iload {x : Nat} (hk : (∃ k : Fin 4, dcd y pc (.iload_n k) 1 ∧ n = 1 ∧ (k : Nat) = x) ∨ (dcd y pc (.iload x) 2 ∧ n = 2)) (H : lgi ls x fun v => PsO d y Q b (pc + n) ls (.int v :: st) h) : PsO d y Q b pc ls st h := by
  obtain ⟨v, hv, q, h', hq, hX⟩ := lgi_e H
  rcases hk with ⟨k, hd, rfl, hx⟩ | ⟨hd, rfl⟩
  · exact ⟨q, h', hq, X_st hX (fun hs => cons_ok trivial hs) (fun iv k => lv_iload_n iv.1.1 iv.1.2.1 hd hx (iv.2.2.2.2.2.1.2.2.2 x _ hv (fun e => by cases e)) k)⟩
  · exact ⟨q, h', hq, X_st hX (fun hs => cons_ok trivial hs) (fun iv k => lv_iload iv.1.1 iv.1.2.1 hd (iv.2.2.2.2.2.1.2.2.2 x _ hv (fun e => by cases e)) k)⟩
theorem sx_lload {x : Nat} (hk : (∃ k : Fin 4, dcd y pc (.lload_n k) 1 ∧ n = 1 ∧ (k : Nat) = x) ∨ (dcd y pc (.lload x) 2 ∧ n = 2)) (H : lgl ls x fun v => PsO d y Q b (pc + n) ls (.long v :: st) h) : PsO d y Q b pc ls st h := by
  obtain ⟨v, hv, q, h', hq, hX⟩ := lgl_e H
  rcases hk with ⟨k, hd, rfl, hx⟩ | ⟨hd, rfl⟩
  · exact ⟨q, h', hq, X_st hX (fun hs => cons_ok trivial hs) (fun iv k => lv_lload_n iv.1.1 iv.1.2.1 hd hx (iv.2.2.2.2.2.1.2.2.2 x _ hv (fun e => by cases e)) k)⟩
  · exact ⟨q, h', hq, X_st hX (fun hs => cons_ok trivial hs) (fun iv k => lv_lload iv.1.1 iv.1.2.1 hd (iv.2.2.2.2.2.1.2.2.2 x _ hv (fun e => by cases e)) k)⟩
theorem sx_aload {x : Nat} (hk : (∃ k : Fin 4, dcd y pc (.aload_n k) 1 ∧ n = 1 ∧ (k : Nat) = x) ∨ (dcd y pc (.aload x) 2 ∧ n = 2)) (H : lga ls x fun v => PsO d y Q b (pc + n) ls (v :: st) h) : PsO d y Q b pc ls st h := by
  obtain ⟨v, hv, hr, q, h', hq, hX⟩ := lga_e (f := fun v => PsO d y Q b (pc + n) ls (v :: st) h) H
  have hm : v ∈ ls := List.mem_of_getElem? hv
  refine ⟨q, h', hq, hX.1, hX.2.1, fun iv h1 h2 => ?_⟩
  have iv2 := iv.st (cons_ok (iv.2.2.2.2.2.2.1 v hm) iv.2.2.2.2.2.2.2.1)
  have hL := fun hne => iv.2.2.2.2.2.1.2.2.2 x _ hv hne
  rcases hr with rfl | ⟨a, rfl⟩
  · rcases hk with ⟨k0, hd, rfl, hx⟩ | ⟨hd, rfl⟩
    · exact lv_aload_nN iv.1.1 iv.1.2.1 hd hx (hL (fun e => by cases e)) (hX.2.2 iv2 h1 h2)
    · exact lv_aloadN iv.1.1 iv.1.2.1 hd (hL (fun e => by cases e)) (hX.2.2 iv2 h1 h2)
  · rcases hk with ⟨k0, hd, rfl, hx⟩ | ⟨hd, rfl⟩
    · exact lv_aload_n iv.1.1 iv.1.2.1 hd hx (hL (fun e => by cases e)) (hX.2.2 iv2 h1 h2)
    · exact lv_aload iv.1.1 iv.1.2.1 hd (hL (fun e => by cases e)) (hX.2.2 iv2 h1 h2)
theorem sx_istore {x : Nat} (hk : x < mxl y ∧ ((∃ k : Fin 4, dcd y pc (.istore_n k) 1 ∧ n = 1 ∧ (k : Nat) = x) ∨ (dcd y pc (.istore x) 2 ∧ n = 2))) (H : p1i st fun v r => PsO d y Q b (pc + n) (st1 ls x (.int v)) r h) : PsO d y Q b pc ls st h := by
  obtain ⟨v, r, rfl, q, h', hq, hX⟩ := p1i_e H
  obtain ⟨hxl, hk⟩ := hk
  refine ⟨q, h', hq, hX.1, hX.2.1, fun iv h1 h2 => ?_⟩
  have hL := iv.2.2.2.2.2.1
  rcases hk with ⟨k, hd, rfl, hx⟩ | ⟨hd, rfl⟩
  · exact lv_istore_n iv.1.1 iv.1.2.1 hd hx hL.has hxl rfl (fun arr' ha => hX.2.2 (iv.ls (LRo.store1 (v := .int v) hL hxl ha) (st1_ok iv.2.2.2.2.2.2.1 trivial) (tail_ok iv.2.2.2.2.2.2.2.1)) h1 h2)
  · exact lv_istore iv.1.1 iv.1.2.1 hd hL.has hxl rfl (fun arr' ha => hX.2.2 (iv.ls (LRo.store1 (v := .int v) hL hxl ha) (st1_ok iv.2.2.2.2.2.2.1 trivial) (tail_ok iv.2.2.2.2.2.2.2.1)) h1 h2)
theorem sx_lstore {x : Nat} (hk : x + 1 < mxl y ∧ ((∃ k : Fin 4, dcd y pc (.lstore_n k) 1 ∧ n = 1 ∧ (k : Nat) = x) ∨ (dcd y pc (.lstore x) 2 ∧ n = 2))) (H : p1l st fun v r => PsO d y Q b (pc + n) (st2 ls x (.long v)) r h) : PsO d y Q b pc ls st h := by
  obtain ⟨v, r, rfl, q, h', hq, hX⟩ := p1l_e H
  obtain ⟨hxl, hk⟩ := hk
  refine ⟨q, h', hq, hX.1, hX.2.1, fun iv h1 h2 => ?_⟩
  have hL := iv.2.2.2.2.2.1
  rcases hk with ⟨k, hd, rfl, hx⟩ | ⟨hd, rfl⟩
  · exact lv_lstore_n iv.1.1 iv.1.2.1 hd hx hL.has hxl rfl (fun arr' ha => hX.2.2 (iv.ls (LRo.store2 (v := .long v) hL hxl ha) (st2_ok iv.2.2.2.2.2.2.1 trivial) (tail_ok iv.2.2.2.2.2.2.2.1)) h1 h2)
  · exact lv_lstore iv.1.1 iv.1.2.1 hd hL.has hxl rfl (fun arr' ha => hX.2.2 (iv.ls (LRo.store2 (v := .long v) hL hxl ha) (st2_ok iv.2.2.2.2.2.2.1 trivial) (tail_ok iv.2.2.2.2.2.2.2.1)) h1 h2)
theorem sx_astore {x : Nat} (hk : x < mxl y ∧ ((∃ k : Fin 4, dcd y pc (.astore_n k) 1 ∧ n = 1 ∧ (k : Nat) = x) ∨ (dcd y pc (.astore x) 2 ∧ n = 2))) (H : pr st fun v r => PsO d y Q b (pc + n) (st1 ls x (.ref v)) r h) : PsO d y Q b pc ls st h := by
  obtain ⟨v, r, rfl, q, h', hq, hX⟩ := pr_e H
  obtain ⟨hxl, hk⟩ := hk
  refine ⟨q, h', hq, hX.1, hX.2.1, fun iv h1 h2 => ?_⟩
  have hL := iv.2.2.2.2.2.1
  rcases hk with ⟨k, hd, rfl, hx⟩ | ⟨hd, rfl⟩
  · exact lv_astore_n iv.1.1 iv.1.2.1 hd hx hL.has hxl rfl (fun arr' ha => hX.2.2 (iv.ls (LRo.store1 (v := .ref v) hL hxl ha) (st1_ok iv.2.2.2.2.2.2.1 (head_ok iv.2.2.2.2.2.2.2.1)) (tail_ok iv.2.2.2.2.2.2.2.1)) h1 h2)
  · exact lv_astore iv.1.1 iv.1.2.1 hd hL.has hxl rfl (fun arr' ha => hX.2.2 (iv.ls (LRo.store1 (v := .ref v) hL hxl ha) (st1_ok iv.2.2.2.2.2.2.1 (head_ok iv.2.2.2.2.2.2.2.1)) (tail_ok iv.2.2.2.2.2.2.2.1)) h1 h2)
theorem sx_iinc {x : Nat} {ci : Int32} (hk : x < mxl y ∧ ∃ k : Int, dcd y pc (.iinc x k) 3 ∧ n = 3 ∧ Int32.ofInt k = ci) (H : lgi ls x fun v => PsO d y Q b (pc + n) (st1 ls x (.int (v + ci))) st h) : PsO d y Q b pc ls st h := by
  obtain ⟨v, hv, q, h', hq, hX⟩ := lgi_e H
  obtain ⟨hxl, k, hd, rfl, rfl⟩ := hk
  refine ⟨q, h', hq, hX.1, hX.2.1, fun iv h1 h2 => ?_⟩
  have hL := iv.2.2.2.2.2.1
  obtain ⟨j, hj⟩ := List.getElem?_of_mem (mem_prs (ρ := _).mpr ⟨_, hv, (fun e => by cases e), rfl⟩)
  exact lv_iinc iv.1.1 iv.1.2.1 hd hL.has hj rfl hxl rfl (fun arr' ha => hX.2.2 (iv.ls (LRo.store1 (v := .int (v + Int32.ofInt k)) hL hxl ha) (st1_ok iv.2.2.2.2.2.2.1 trivial) iv.2.2.2.2.2.2.2.1) h1 h2)
theorem sx_ifCond {x : Nat} {c : Jvm.ClassFile.Cond} (hk : ∃ o : Int, dcd y pc (.ifCond c o) 3 ∧ n = 3 ∧ (pc : Int) + o = (x : Int)) (H : p1i st fun v r => (cnd c v 0 → PsO d y Q b x ls r h) ∧ (¬ cnd c v 0 → PsO d y Q b (pc + n) ls r h)) : PsO d y Q b pc ls st h := by
  obtain ⟨v, r, rfl, kt, kf⟩ := p1i_e H
  obtain ⟨o, hd, rfl, ht⟩ := hk
  by_cases hc : cnd c v 0
  · obtain ⟨q, h', hq, hX⟩ := kt hc
    refine ⟨q, h', hq, X_st hX (fun hs => tail_ok hs) (fun iv k => ?_)⟩
    cases c
    · exact lv_if_eq iv.1.1 iv.1.2.1 hd ht (fun _ => k) (fun hn => absurd hc hn)
    · exact lv_if_ne iv.1.1 iv.1.2.1 hd ht (fun _ => k) (fun hn => absurd hn hc)
    · exact lv_if_lt iv.1.1 iv.1.2.1 hd ht (fun _ => k) (fun hn => absurd hc hn)
    · exact lv_if_ge iv.1.1 iv.1.2.1 hd ht (fun _ => k) (fun hn => absurd hc hn)
    · exact lv_if_gt iv.1.1 iv.1.2.1 hd ht (fun _ => k) (fun hn => absurd hc hn)
    · exact lv_if_le iv.1.1 iv.1.2.1 hd ht (fun _ => k) (fun hn => absurd hc hn)
  · obtain ⟨q, h', hq, hX⟩ := kf hc
    refine ⟨q, h', hq, X_st hX (fun hs => tail_ok hs) (fun iv k => ?_)⟩
    cases c
    · exact lv_if_eq iv.1.1 iv.1.2.1 hd ht (fun hn => absurd hn hc) (fun _ => k)
    · exact lv_if_ne iv.1.1 iv.1.2.1 hd ht (fun hn => absurd hn hc) (fun _ => k)
    · exact lv_if_lt iv.1.1 iv.1.2.1 hd ht (fun hn => absurd hn hc) (fun _ => k)
    · exact lv_if_ge iv.1.1 iv.1.2.1 hd ht (fun hn => absurd hn hc) (fun _ => k)
    · exact lv_if_gt iv.1.1 iv.1.2.1 hd ht (fun hn => absurd hn hc) (fun _ => k)
    · exact lv_if_le iv.1.1 iv.1.2.1 hd ht (fun hn => absurd hn hc) (fun _ => k)
theorem sx_icmp {x : Nat} {c : Jvm.ClassFile.Cond} (hk : ∃ o : Int, dcd y pc (.if_icmp c o) 3 ∧ n = 3 ∧ (pc : Int) + o = (x : Int)) (H : p2i st fun v u r => (cnd c v u → PsO d y Q b x ls r h) ∧ (¬ cnd c v u → PsO d y Q b (pc + n) ls r h)) : PsO d y Q b pc ls st h := by
  obtain ⟨v, u, r, rfl, kt, kf⟩ := p2i_e H
  obtain ⟨o, hd, rfl, ht⟩ := hk
  by_cases hc : cnd c v u
  · obtain ⟨q, h', hq, hX⟩ := kt hc
    refine ⟨q, h', hq, X_st hX (fun hs => tail_ok (tail_ok hs)) (fun iv k => ?_)⟩
    cases c
    · exact lv_icmp_eq iv.1.1 iv.1.2.1 hd ht (fun _ => k) (fun hn => absurd hc hn)
    · exact lv_icmp_ne iv.1.1 iv.1.2.1 hd ht (fun _ => k) (fun hn => absurd hn hc)
    · exact lv_icmp_lt iv.1.1 iv.1.2.1 hd ht (fun _ => k) (fun hn => absurd hc hn)
    · exact lv_icmp_ge iv.1.1 iv.1.2.1 hd ht (fun _ => k) (fun hn => absurd hc hn)
    · exact lv_icmp_gt iv.1.1 iv.1.2.1 hd ht (fun _ => k) (fun hn => absurd hc hn)
    · exact lv_icmp_le iv.1.1 iv.1.2.1 hd ht (fun _ => k) (fun hn => absurd hc hn)
  · obtain ⟨q, h', hq, hX⟩ := kf hc
    refine ⟨q, h', hq, X_st hX (fun hs => tail_ok (tail_ok hs)) (fun iv k => ?_)⟩
    cases c
    · exact lv_icmp_eq iv.1.1 iv.1.2.1 hd ht (fun hn => absurd hn hc) (fun _ => k)
    · exact lv_icmp_ne iv.1.1 iv.1.2.1 hd ht (fun hn => absurd hn hc) (fun _ => k)
    · exact lv_icmp_lt iv.1.1 iv.1.2.1 hd ht (fun hn => absurd hn hc) (fun _ => k)
    · exact lv_icmp_ge iv.1.1 iv.1.2.1 hd ht (fun hn => absurd hn hc) (fun _ => k)
    · exact lv_icmp_gt iv.1.1 iv.1.2.1 hd ht (fun hn => absurd hn hc) (fun _ => k)
    · exact lv_icmp_le iv.1.1 iv.1.2.1 hd ht (fun hn => absurd hn hc) (fun _ => k)
theorem sx_goto {x : Nat} (hk : ∃ o : Int, dcd y pc (.goto o) 3 ∧ (pc : Int) + o = (x : Int)) (H : PsO d y Q b x ls st h) : PsO d y Q b pc ls st h := by
  obtain ⟨q, h', hq, hX⟩ := H
  obtain ⟨o, hd, ht⟩ := hk
  exact ⟨q, h', hq, X_st hX (fun hs => hs) (fun iv k => lv_goto iv.1.1 iv.1.2.1 hd ht k)⟩
theorem sx_ifnull {x : Nat} (hk : ∃ o : Int, dcd y pc (.ifnull o) 3 ∧ n = 3 ∧ (pc : Int) + o = (x : Int)) (H : match st with
      | .null :: r => PsO d y Q b x ls r h
      | .ref _ :: r => PsO d y Q b (pc + n) ls r h
      | _ => False) : PsO d y Q b pc ls st h := by
  obtain ⟨o, hd, rfl, ht⟩ := hk
  split at H
  · obtain ⟨q, h', hq, hX⟩ := H
    exact ⟨q, h', hq, X_st hX (fun hs => tail_ok hs) (fun iv k => lv_ifnullN iv.1.1 iv.1.2.1 hd ht k)⟩
  · obtain ⟨q, h', hq, hX⟩ := H
    exact ⟨q, h', hq, X_st hX (fun hs => tail_ok hs) (fun iv k => lv_ifnull iv.1.1 iv.1.2.1 hd k)⟩
  · exact H.elim
theorem sx_ifnonnull {x : Nat} (hk : ∃ o : Int, dcd y pc (.ifnonnull o) 3 ∧ n = 3 ∧ (pc : Int) + o = (x : Int)) (H : match st with
      | .null :: r => PsO d y Q b (pc + n) ls r h
      | .ref _ :: r => PsO d y Q b x ls r h
      | _ => False) : PsO d y Q b pc ls st h := by
  obtain ⟨o, hd, rfl, ht⟩ := hk
  split at H
  · obtain ⟨q, h', hq, hX⟩ := H
    exact ⟨q, h', hq, X_st hX (fun hs => tail_ok hs) (fun iv k => lv_ifnonnullN iv.1.1 iv.1.2.1 hd k)⟩
  · obtain ⟨q, h', hq, hX⟩ := H
    exact ⟨q, h', hq, X_st hX (fun hs => tail_ok hs) (fun iv k => lv_ifnonnull iv.1.1 iv.1.2.1 hd ht k)⟩
  · exact H.elim
theorem swt_e {v : Int} {K : Nat → Prop} : ∀ (os : List Int) (lo : Int), swt v K lo os → ∀ (j : Nat) (o : Int), os[j]? = some o → v = lo + j → K o.toNat := by
  intro os
  induction os with
  | nil => intro lo _ j o ho; simp at ho
  | cons a os ih =>
    intro lo h j o ho hv
    match j, ho with
    | 0, ho => cases ho; exact h.1 (by simpa using hv)
    | j + 1, ho => exact ih (lo + 1) h.2 j o ho (by rw [hv]; omega)
theorem sx_table {dd lo hi : Int} {os : Array Int} (hk : ∃ (d' : Int) (os' : Array Int) (len : Nat), dcd y pc (.tableswitch d' lo hi os') len ∧ (pc : Int) + d' = dd ∧ 0 ≤ dd ∧ os.toList = os'.toList.map (fun o => (pc : Int) + o) ∧ os.toList.all (fun o => decide (0 ≤ o)) = true ∧ hi - lo + 1 = (os'.toList.length : Int)) (H : p1i st fun v r => (v.toInt < lo ∨ hi < v.toInt → PsO d y Q b dd.toNat ls r h) ∧ swt v.toInt (fun t => PsO d y Q b t ls r h) lo os.toList) : PsO d y Q b pc ls st h := by
  obtain ⟨v, r, rfl, kt, kf⟩ := p1i_e H
  obtain ⟨d', os', len, hd, e1, e2, e3, e4, e5⟩ := hk
  by_cases hc : v.toInt < lo ∨ hi < v.toInt
  · obtain ⟨q, h', hq, hX⟩ := kt hc
    exact ⟨q, h', hq, X_st hX (fun hs => tail_ok hs) (fun iv k => lv_tableOut iv.1.1 iv.1.2.1 hd hc (by rw [e1]; omega) k)⟩
  · have h1 : ¬ v.toInt < lo := fun q => hc (Or.inl q)
    have h2 : ¬ hi < v.toInt := fun q => hc (Or.inr q)
    have hj : (v.toInt - lo).toNat < os'.toList.length := by omega
    have hg : os'.toList[(v.toInt - lo).toNat]? = some (os'.toList[(v.toInt - lo).toNat]) := List.getElem?_eq_getElem hj
    generalize os'.toList[(v.toInt - lo).toNat] = off at hg
    have hg2 : os.toList[(v.toInt - lo).toNat]? = some ((pc : Int) + off) := by rw [e3, List.getElem?_map, hg]; rfl
    have hpos : 0 ≤ (pc : Int) + off := of_decide_eq_true (List.all_eq_true.mp e4 _ (List.mem_of_getElem? hg2))
    obtain ⟨q, h', hq, hX⟩ := swt_e os.toList lo kf (v.toInt - lo).toNat _ hg2 (by omega)
    exact ⟨q, h', hq, X_st hX (fun hs => tail_ok hs) (fun iv k => lv_tableIn iv.1.1 iv.1.2.1 hd h1 h2 (by rw [← Array.getElem?_toList]; exact hg) (by omega) k)⟩
theorem sx_dup (hd : dcd y pc .dup 1) (hn : n = 1) (H : match st with
      | .int v :: r => PsO d y Q b (pc + n) ls (.int v :: .int v :: r) h
      | .ref v :: r => PsO d y Q b (pc + n) ls (.ref v :: .ref v :: r) h
      | _ => False) : PsO d y Q b pc ls st h := by
  subst hn
  split at H
  · obtain ⟨q, h', hq, hX⟩ := H
    exact ⟨q, h', hq, X_st hX (fun hs => cons_ok trivial hs) (fun iv k => lv_dup iv.1.1 iv.1.2.1 hd rfl k)⟩
  · obtain ⟨q, h', hq, hX⟩ := H
    exact ⟨q, h', hq, X_st hX (fun hs => cons_ok (head_ok hs) hs) (fun iv k => lv_dup iv.1.1 iv.1.2.1 hd rfl k)⟩
  · exact H.elim
theorem sx_dup2 (hd : dcd y pc .dup2 1) (hn : n = 1) (H : match st with
      | .long v :: r => PsO d y Q b (pc + n) ls (.long v :: .long v :: r) h
      | .int v :: .ref a :: r => PsO d y Q b (pc + n) ls (.int v :: .ref a :: .int v :: .ref a :: r) h
      | _ => False) : PsO d y Q b pc ls st h := by
  subst hn
  split at H
  · obtain ⟨q, h', hq, hX⟩ := H
    exact ⟨q, h', hq, X_st hX (fun hs => cons_ok trivial hs) (fun iv k => lv_dup2_2 iv.1.1 iv.1.2.1 hd rfl k)⟩
  · obtain ⟨q, h', hq, hX⟩ := H
    exact ⟨q, h', hq, X_st hX (fun hs => cons_ok trivial (cons_ok (head_ok (tail_ok hs)) hs)) (fun iv k => lv_dup2_11 iv.1.1 iv.1.2.1 hd rfl rfl k)⟩
  · exact H.elim
theorem sx_pop (hd : dcd y pc .pop 1) (hn : n = 1) (H : match st with
      | .int _ :: r => PsO d y Q b (pc + n) ls r h
      | .ref _ :: r => PsO d y Q b (pc + n) ls r h
      | _ => False) : PsO d y Q b pc ls st h := by
  subst hn
  split at H
  · obtain ⟨q, h', hq, hX⟩ := H
    exact ⟨q, h', hq, X_st hX (fun hs => tail_ok hs) (fun iv k => lv_pop iv.1.1 iv.1.2.1 hd rfl k)⟩
  · obtain ⟨q, h', hq, hX⟩ := H
    exact ⟨q, h', hq, X_st hX (fun hs => tail_ok hs) (fun iv k => lv_pop iv.1.1 iv.1.2.1 hd rfl k)⟩
  · exact H.elim
/-- what the numbers of answers mean -/
def rtB (y : Nat) : Bool := match rtt y with
  | none => Nat.beq (rty y) 0
  | some .int => Nat.beq (rty y) 1
  | some .long => Nat.beq (rty y) 2
  | some (.array _) => Nat.beq (rty y) 3
  | some (.object _) => Nat.beq (rty y) 3
  | some .boolean => Nat.beq (rty y) 4
  | some .char => Nat.beq (rty y) 5
  | some .byte => Nat.beq (rty y) 6
  | _ => false
theorem rtB_ok : ∀ y, y < 320 → rtB y = true := by decide +kernel
/-- a method's end -/
theorem X_ret {G : Gx} {b0 : Bool} {ρ0 : Nat → Nat} {h0 : Hp} {R : Room} {p : Program} {s t : State} {m : MethodId} {args : Array Value} {meth : Method} {c : Code} {ρ : Nat → Nat} {γ : Nat → ClassId} {H : Heap} {arr : Array Slot} {locs : List Loc} {r : Value} (iv : IvO G d y b0 b ρ0 h0 R p s m args meth c ρ γ h H arr ls st locs) (hr : lok h r) (ht : t.heap = H) (hW : s.WarmedH t.vm) : QcO G y b0 ρ0 h0 r h args s (.returned (rop y (rv ρ r))) t := by
  obtain ⟨i1, i2, i3, i4, ⟨L, i5⟩, i6, i7, i8, i9, i10, i11, i12, i13⟩ := iv
  refine ⟨ρ, γ, rfl, ⟨L, ?_⟩, i10, hr, i9.F ht⟩
  have w := i5.moved hW.alike
  rw [ht]
  obtain ⟨w1, w2, w3, w4, w5, w6, w7, w8, w9, w10⟩ := w
  exact ⟨w1, w2, w3, w4, w5, w6, w7, w8, w9, fun e => w10 (i13 e)⟩
theorem rop_s {y : Nat} {v : Value} (h : rty y ≠ 0) : rop y v = some v := by
  unfold rop
  cases e : Nat.beq (rty y) 0
  · rfl
  · exact absurd (Nat.eq_of_beq_eq_true e) h
theorem rop_n {y : Nat} {v : Value} (h : rty y = 0) : rop y v = none := by
  unfold rop
  rw [h]
  rfl
theorem sx_ireturn (hy : y < 320) (hd : dcd y pc .ireturn 1) (H : match st with
      | [.int v] => bif Nat.beq (rty y) 1 then Q (.int v) h else bif Nat.beq (rty y) 4 then ((v = 0 ∨ v = 1) ∧ Q (.int v) h) else bif Nat.beq (rty y) 5 then (narrow .char (.int v) = .int v ∧ Q (.int v) h) else bif Nat.beq (rty y) 6 then (narrow .byte (.int v) = .int v ∧ Q (.int v) h) else False
      | _ => False) : PsO d y Q b pc ls st h := by
  split at H
  · rename_i v
    have hB := rtB_ok y hy
    have key : Q (.int v) h ∧ rty y ≠ 0 ∧ ∃ ty, rtt y = some ty ∧ narrow ty (.int v) = .int v := by
      unfold rtB at hB
      split at hB <;> first | (cases hB; done) | (have e := Nat.eq_of_beq_eq_true hB; rw [e] at H ⊢; rename_i hr; first | exact H.elim | exact ⟨H, by decide, _, hr, rfl⟩ | exact ⟨H.2, by decide, _, hr, H.1⟩ | (refine ⟨H.2, by decide, _, hr, ?_⟩; rcases H.1 with q | q <;> (rw [q]; rfl)))
    obtain ⟨hq, hz, ty, hty, hn⟩ := key
    refine ⟨_, h, hq, Nat.le_refl _, Nat.le_refl _, fun iv h1 h2 => ?_⟩
    have hl := iv.1.2.2.2.2.2.2.1
    refine W.zret (ty := ty) iv.1.1 iv.1.2.1 (iv.1.2.2.1.trans hty) hn (fun t ht hW => ?_) iv.2.2.2.2.2.2.2.2.1.2.2 hd hl
    have := X_ret (r := .int v) iv trivial ht hW
    rw [rop_s hz] at this
    exact this
  · exact H.elim
theorem sx_lreturn (hy : y < 320) (hd : dcd y pc .lreturn 1) (H : match st with
      | [.long v] => okb (Nat.beq (rty y) 2) (Q (.long v) h)
      | _ => False) : PsO d y Q b pc ls st h := by
  split at H
  · rename_i v
    obtain ⟨e, hq⟩ := okb_e H
    have e := Nat.eq_of_beq_eq_true e
    have hB := rtB_ok y hy
    have key : rtt y = some .long := by
      unfold rtB at hB
      rw [e] at hB
      split at hB <;> first | (cases hB; done) | assumption
    refine ⟨_, h, hq, Nat.le_refl _, Nat.le_refl _, fun iv h1 h2 => ?_⟩
    have hl := iv.1.2.2.2.2.2.2.1
    refine W.lret iv.1.1 iv.1.2.1 (iv.1.2.2.1.trans key) (fun t ht hW => ?_) iv.2.2.2.2.2.2.2.2.1.2.2 hd hl
    have := X_ret (r := .long v) iv trivial ht hW
    rw [rop_s (by rw [e]; decide)] at this
    exact this
  · exact H.elim
theorem sx_areturn (hy : y < 320) (hd : dcd y pc .areturn 1) (H : match st with
      | [.ref v] => okb (Nat.beq (rty y) 3) (Q (.ref v) h)
      | _ => False) : PsO d y Q b pc ls st h := by
  split at H
  · rename_i v
    obtain ⟨e, hq⟩ := okb_e H
    have e := Nat.eq_of_beq_eq_true e
    have hB := rtB_ok y hy
    have key : ∃ rt, rtt y = some rt ∧ ((∃ n, rt = .object n) ∨ ∃ t, rt = .array t) := by
      unfold rtB at hB
      rw [e] at hB
      split at hB <;> first | (cases hB; done) | exact ⟨_, by assumption, Or.inr ⟨_, rfl⟩⟩ | exact ⟨_, by assumption, Or.inl ⟨_, rfl⟩⟩
    obtain ⟨rt, k1, k2⟩ := key
    refine ⟨_, h, hq, Nat.le_refl _, Nat.le_refl _, fun iv h1 h2 => ?_⟩
    have hl := iv.1.2.2.2.2.2.2.1
    refine W.aret iv.1.1 iv.1.2.1 (iv.1.2.2.1.trans k1) k2 (Or.inr ⟨_, rfl⟩) (fun t ht hW => ?_) iv.2.2.2.2.2.2.2.2.1.2.2 hd hl
    have := X_ret (r := .ref v) iv (head_ok iv.2.2.2.2.2.2.2.1) ht hW
    rw [rop_s (by rw [e]; decide)] at this
    exact this
  · exact H.elim
theorem sx_return (hy : y < 320) (hd : dcd y pc .return_ 1) (H : match st with
      | [] => okb (Nat.beq (rty y) 0) (Q mk_ h)
      | _ => False) : PsO d y Q b pc ls st h := by
  split at H
  · obtain ⟨e, hq⟩ := okb_e H
    have e := Nat.eq_of_beq_eq_true e
    have hB := rtB_ok y hy
    have key : rtt y = none := by
      unfold rtB at hB
      rw [e] at hB
      split at hB <;> first | (cases hB; done) | assumption
    refine ⟨_, h, hq, Nat.le_refl _, Nat.le_refl _, fun iv h1 h2 => ?_⟩
    have hl := iv.1.2.2.2.2.2.2.1
    refine W.vret iv.1.1 iv.1.2.1 (iv.1.2.2.1.trans key) (fun t ht hW => ?_) iv.2.2.2.2.2.2.2.2.1.2.2 hd hl
    have := X_ret (r := mk_) iv trivial ht hW
    rw [rop_n e] at this
    exact this
  · exact H.elim
end PS

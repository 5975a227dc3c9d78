/-! Steps that touch no cell. -/
theorem X_st {d y : Nat} {b : Bool} {pc pc' : Nat} {ls st st' : List Value} {h : Hp} {r : Value} {h' : Hp} (hX : XeO d y b pc' ls st' h r h') (hs : (∀ v ∈ st, lok h v) → ∀ v ∈ st', lok h v)
    (row : ∀ {G : Gx} {b0 : Bool} {ρ0 : Nat → Nat} {h0 : Hp} {R : Room} {p : Program} {l : Launch} {e : Env} {s : State} {m : MethodId} {args : Array Value} {below : List Frame} {meth : Method} {c : Code} {ρ : Nat → Nat} {γ : Nat → ClassId} {H : Heap} {arr : Array Slot} {locs : List Loc} {cells slots : Nat} {Qf : State → Prop}, IvO G d y b0 b ρ0 h0 R p s m args meth c ρ γ h H arr ls st locs → W p l e R s m args below meth c H locs cells slots Qf (F0 m pc' arr (st'.map (rv ρ))) → W p l e R s m args below meth c H locs cells slots Qf (F0 m pc arr (st.map (rv ρ)))) : XeO d y b pc ls st h r h' :=
  ⟨hX.1, hX.2.1, fun iv h1 h2 => row iv (hX.2.2 (iv.st (hs iv.2.2.2.2.2.2.2.1)) h1 h2)⟩
section PS
variable {d y : Nat} {b : Bool} {pc n : Nat} {ls st : List Value} {h : Hp} {Q : Po}
def PsO (d y : Nat) (Q : Po) : Kn := fun b pc ls st h => ∃ r h', Q r h' ∧ XeO d y b pc ls st h r h'
theorem p1i_e {f : Int32 → List Value → Prop} (h : p1i st f) : ∃ x r, st = .int x :: r ∧ f x r := by
  unfold p1i at h; split at h <;> first | exact ⟨_, _, rfl, h⟩ | exact h.elim
theorem p2i_e {f : Int32 → Int32 → List Value → Prop} (h : p2i st f) : ∃ x y r, st = .int y :: .int x :: r ∧ f x y r := by
  unfold p2i at h; split at h <;> first | exact ⟨_, _, _, rfl, h⟩ | exact h.elim
theorem p1l_e {f : Int64 → List Value → Prop} (h : p1l st f) : ∃ x r, st = .long x :: r ∧ f x r := by
  unfold p1l at h; split at h <;> first | exact ⟨_, _, rfl, h⟩ | exact h.elim
theorem p2l_e {f : Int64 → Int64 → List Value → Prop} (h : p2l st f) : ∃ x y r, st = .long y :: .long x :: r ∧ f x y r := by
  unfold p2l at h; split at h <;> first | exact ⟨_, _, _, rfl, h⟩ | exact h.elim
theorem pil_e {f : Int64 → Int32 → List Value → Prop} (h : pil st f) : ∃ x y r, st = .int y :: .long x :: r ∧ f x y r := by
  unfold pil at h; split at h <;> first | exact ⟨_, _, _, rfl, h⟩ | exact h.elim
theorem pr_e {f : Nat → List Value → Prop} (h : pr st f) : ∃ a r, st = .ref a :: r ∧ f a r := by
  unfold pr at h; split at h <;> first | exact ⟨_, _, rfl, h⟩ | exact h.elim
theorem pir_e {f : Nat → Int32 → List Value → Prop} (h : pir st f) : ∃ a i r, st = .int i :: .ref a :: r ∧ f a i r := by
  unfold pir at h; split at h <;> first | exact ⟨_, _, _, rfl, h⟩ | exact h.elim
theorem plr_e {f : Nat → Int64 → List Value → Prop} (h : plr st f) : ∃ a i r, st = .long i :: .ref a :: r ∧ f a i r := by
  unfold plr at h; split at h <;> first | exact ⟨_, _, _, rfl, h⟩ | exact h.elim
theorem prr_e {f : Nat → Nat → List Value → Prop} (h : prr st f) : ∃ a v r, st = .ref v :: .ref a :: r ∧ f a v r := by
  unfold prr at h; split at h <;> first | exact ⟨_, _, _, rfl, h⟩ | exact h.elim
theorem piir_e {f : Nat → Int32 → Int32 → List Value → Prop} (h : piir st f) : ∃ a i v r, st = .int v :: .int i :: .ref a :: r ∧ f a i v r := by
  unfold piir at h; split at h <;> first | exact ⟨_, _, _, _, rfl, h⟩ | exact h.elim
theorem plir_e {f : Nat → Int32 → Int64 → List Value → Prop} (h : plir st f) : ∃ a i v r, st = .long v :: .int i :: .ref a :: r ∧ f a i v r := by
  unfold plir at h; split at h <;> first | exact ⟨_, _, _, _, rfl, h⟩ | exact h.elim
theorem prir_e {f : Nat → Int32 → Nat → List Value → Prop} (h : prir st f) : ∃ a i v r, st = .ref v :: .int i :: .ref a :: r ∧ f a i v r := by
  unfold prir at h; split at h <;> first | exact ⟨_, _, _, _, rfl, h⟩ | exact h.elim
theorem pcp_e {f : Nat → Int32 → Nat → Int32 → Int32 → List Value → Prop} (h : pcp st f) : ∃ a0 sp a dp c r, st = .int c :: .int dp :: .ref a :: .int sp :: .ref a0 :: r ∧ f a0 sp a dp c r := by
  unfold pcp at h; split at h <;> first | exact ⟨_, _, _, _, _, _, rfl, h⟩ | exact h.elim
theorem lgi_e {x : Nat} {f : Int32 → Prop} (h : lgi ls x f) : ∃ v, ls[x]? = some (.int v) ∧ f v := by
  unfold lgi at h; split at h <;> first | exact ⟨_, by assumption, h⟩ | exact h.elim
theorem lgl_e {x : Nat} {f : Int64 → Prop} (h : lgl ls x f) : ∃ v, ls[x]? = some (.long v) ∧ f v := by
  unfold lgl at h; split at h <;> first | exact ⟨_, by assumption, h⟩ | exact h.elim
theorem lga_e {x : Nat} {f : Value → Prop} (h : lga ls x f) : ∃ v, ls[x]? = some v ∧ (v = .null ∨ ∃ a, v = .ref a) ∧ f v := by
  unfold lga at h; split at h <;> first | exact ⟨_, by assumption, Or.inr ⟨_, rfl⟩, h⟩ | exact ⟨_, by assumption, Or.inl rfl, h⟩ | exact h.elim
theorem sx_iadd (hd : dcd y pc .iadd 1) (hn : n = 1) (H : p2i st fun x z r => PsO d y Q b (pc + n) ls (.int (x + z) :: r) h) : PsO d y Q b pc ls st h := by
  obtain ⟨u, v, r, rfl, q, h', hq, hX⟩ := p2i_e H
  subst hn
  exact ⟨q, h', hq, X_st hX (fun hs => cons_ok trivial (tail_ok (tail_ok hs))) (fun iv k => lv_iadd iv.1.1 iv.1.2.1 hd k)⟩
theorem sx_isub (hd : dcd y pc .isub 1) (hn : n = 1) (H : p2i st fun x z r => PsO d y Q b (pc + n) ls (.int (x - z) :: r) h) : PsO d y Q b pc ls st h := by
  obtain ⟨u, v, r, rfl, q, h', hq, hX⟩ := p2i_e H
  subst hn
  exact ⟨q, h', hq, X_st hX (fun hs => cons_ok trivial (tail_ok (tail_ok hs))) (fun iv k => lv_isub iv.1.1 iv.1.2.1 hd k)⟩
theorem sx_imul (hd : dcd y pc .imul 1) (hn : n = 1) (H : p2i st fun x z r => PsO d y Q b (pc + n) ls (.int (x * z) :: r) h) : PsO d y Q b pc ls st h := by
  obtain ⟨u, v, r, rfl, q, h', hq, hX⟩ := p2i_e H
  subst hn
  exact ⟨q, h', hq, X_st hX (fun hs => cons_ok trivial (tail_ok (tail_ok hs))) (fun iv k => lv_imul iv.1.1 iv.1.2.1 hd k)⟩
theorem sx_iand (hd : dcd y pc .iand 1) (hn : n = 1) (H : p2i st fun x z r => PsO d y Q b (pc + n) ls (.int (x &&& z) :: r) h) : PsO d y Q b pc ls st h := by
  obtain ⟨u, v, r, rfl, q, h', hq, hX⟩ := p2i_e H
  subst hn
  exact ⟨q, h', hq, X_st hX (fun hs => cons_ok trivial (tail_ok (tail_ok hs))) (fun iv k => lv_iand iv.1.1 iv.1.2.1 hd k)⟩
theorem sx_ior (hd : dcd y pc .ior 1) (hn : n = 1) (H : p2i st fun x z r => PsO d y Q b (pc + n) ls (.int (x ||| z) :: r) h) : PsO d y Q b pc ls st h := by
  obtain ⟨u, v, r, rfl, q, h', hq, hX⟩ := p2i_e H
  subst hn
  exact ⟨q, h', hq, X_st hX (fun hs => cons_ok trivial (tail_ok (tail_ok hs))) (fun iv k => lv_ior iv.1.1 iv.1.2.1 hd k)⟩
theorem sx_ixor (hd : dcd y pc .ixor 1) (hn : n = 1) (H : p2i st fun x z r => PsO d y Q b (pc + n) ls (.int (x ^^^ z) :: r) h) : PsO d y Q b pc ls st h := by
  obtain ⟨u, v, r, rfl, q, h', hq, hX⟩ := p2i_e H
  subst hn
  exact ⟨q, h', hq, X_st hX (fun hs => cons_ok trivial (tail_ok (tail_ok hs))) (fun iv k => lv_ixor iv.1.1 iv.1.2.1 hd k)⟩
theorem sx_ishl (hd : dcd y pc .ishl 1) (hn : n = 1) (H : p2i st fun x z r => PsO d y Q b (pc + n) ls (.int (x <<< (z &&& 31)) :: r) h) : PsO d y Q b pc ls st h := by
  obtain ⟨u, v, r, rfl, q, h', hq, hX⟩ := p2i_e H
  subst hn
  exact ⟨q, h', hq, X_st hX (fun hs => cons_ok trivial (tail_ok (tail_ok hs))) (fun iv k => lv_ishl iv.1.1 iv.1.2.1 hd k)⟩
theorem sx_ishr (hd : dcd y pc .ishr 1) (hn : n = 1) (H : p2i st fun x z r => PsO d y Q b (pc + n) ls (.int (x >>> (z &&& 31)) :: r) h) : PsO d y Q b pc ls st h := by
  obtain ⟨u, v, r, rfl, q, h', hq, hX⟩ := p2i_e H
  subst hn
  exact ⟨q, h', hq, X_st hX (fun hs => cons_ok trivial (tail_ok (tail_ok hs))) (fun iv k => lv_ishr iv.1.1 iv.1.2.1 hd k)⟩
theorem sx_iushr (hd : dcd y pc .iushr 1) (hn : n = 1) (H : p2i st fun x z r => PsO d y Q b (pc + n) ls (.int (x.toUInt32 >>> (z.toUInt32 &&& Int32.toUInt32 31)).toInt32 :: r) h) : PsO d y Q b pc ls st h := by
  obtain ⟨u, v, r, rfl, q, h', hq, hX⟩ := p2i_e H
  subst hn
  exact ⟨q, h', hq, X_st hX (fun hs => cons_ok trivial (tail_ok (tail_ok hs))) (fun iv k => lv_iushr iv.1.1 iv.1.2.1 hd rfl k)⟩
theorem sx_idiv (hd : dcd y pc .idiv 1) (hn : n = 1) (H : p2i st fun x z r => ¬ z = 0 ∧ PsO d y Q b (pc + n) ls (.int (x / z) :: r) h) : PsO d y Q b pc ls st h := by
  obtain ⟨u, v, r, rfl, hz, q, h', hq, hX⟩ := p2i_e H
  subst hn
  exact ⟨q, h', hq, X_st hX (fun hs => cons_ok trivial (tail_ok (tail_ok hs))) (fun iv k => lv_idiv iv.1.1 iv.1.2.1 hd hz k)⟩
theorem sx_irem (hd : dcd y pc .irem 1) (hn : n = 1) (H : p2i st fun x z r => ¬ z = 0 ∧ PsO d y Q b (pc + n) ls (.int (x - x / z * z) :: r) h) : PsO d y Q b pc ls st h := by
  obtain ⟨u, v, r, rfl, hz, q, h', hq, hX⟩ := p2i_e H
  subst hn
  exact ⟨q, h', hq, X_st hX (fun hs => cons_ok trivial (tail_ok (tail_ok hs))) (fun iv k => lv_irem iv.1.1 iv.1.2.1 hd hz k)⟩
theorem sx_ineg (hd : dcd y pc .ineg 1) (hn : n = 1) (H : p1i st fun x r => PsO d y Q b (pc + n) ls (.int (-x) :: r) h) : PsO d y Q b pc ls st h := by
  obtain ⟨u, r, rfl, q, h', hq, hX⟩ := p1i_e H
  subst hn
  exact ⟨q, h', hq, X_st hX (fun hs => cons_ok trivial (tail_ok hs)) (fun iv k => lv_ineg iv.1.1 iv.1.2.1 hd k)⟩
theorem sx_ladd (hd : dcd y pc .ladd 1) (hn : n = 1) (H : p2l st fun x z r => PsO d y Q b (pc + n) ls (.long (x + z) :: r) h) : PsO d y Q b pc ls st h := by
  obtain ⟨u, v, r, rfl, q, h', hq, hX⟩ := p2l_e H
  subst hn
  exact ⟨q, h', hq, X_st hX (fun hs => cons_ok trivial (tail_ok (tail_ok hs))) (fun iv k => lv_ladd iv.1.1 iv.1.2.1 hd k)⟩
theorem sx_lsub (hd : dcd y pc .lsub 1) (hn : n = 1) (H : p2l st fun x z r => PsO d y Q b (pc + n) ls (.long (x - z) :: r) h) : PsO d y Q b pc ls st h := by
  obtain ⟨u, v, r, rfl, q, h', hq, hX⟩ := p2l_e H
  subst hn
  exact ⟨q, h', hq, X_st hX (fun hs => cons_ok trivial (tail_ok (tail_ok hs))) (fun iv k => lv_lsub iv.1.1 iv.1.2.1 hd k)⟩
theorem sx_lmul (hd : dcd y pc .lmul 1) (hn : n = 1) (H : p2l st fun x z r => PsO d y Q b (pc + n) ls (.long (x * z) :: r) h) : PsO d y Q b pc ls st h := by
  obtain ⟨u, v, r, rfl, q, h', hq, hX⟩ := p2l_e H
  subst hn
  exact ⟨q, h', hq, X_st hX (fun hs => cons_ok trivial (tail_ok (tail_ok hs))) (fun iv k => lv_lmul iv.1.1 iv.1.2.1 hd k)⟩
theorem sx_land (hd : dcd y pc .land 1) (hn : n = 1) (H : p2l st fun x z r => PsO d y Q b (pc + n) ls (.long (x &&& z) :: r) h) : PsO d y Q b pc ls st h := by
  obtain ⟨u, v, r, rfl, q, h', hq, hX⟩ := p2l_e H
  subst hn
  exact ⟨q, h', hq, X_st hX (fun hs => cons_ok trivial (tail_ok (tail_ok hs))) (fun iv k => lv_land iv.1.1 iv.1.2.1 hd k)⟩
theorem sx_lor (hd : dcd y pc .lor 1) (hn : n = 1) (H : p2l st fun x z r => PsO d y Q b (pc + n) ls (.long (x ||| z) :: r) h) : PsO d y Q b pc ls st h := by
  obtain ⟨u, v, r, rfl, q, h', hq, hX⟩ := p2l_e H
  subst hn
  exact ⟨q, h', hq, X_st hX (fun hs => cons_ok trivial (tail_ok (tail_ok hs))) (fun iv k => lv_lor iv.1.1 iv.1.2.1 hd k)⟩
theorem sx_ldiv (hd : dcd y pc .ldiv 1) (hn : n = 1) (H : p2l st fun x z r => ¬ z = 0 ∧ PsO d y Q b (pc + n) ls (.long (x / z) :: r) h) : PsO d y Q b pc ls st h := by
  obtain ⟨u, v, r, rfl, hz, q, h', hq, hX⟩ := p2l_e H
  subst hn
  exact ⟨q, h', hq, X_st hX (fun hs => cons_ok trivial (tail_ok (tail_ok hs))) (fun iv k => lv_ldiv iv.1.1 iv.1.2.1 hd hz k)⟩
theorem sx_lrem (hd : dcd y pc .lrem 1) (hn : n = 1) (H : p2l st fun x z r => ¬ z = 0 ∧ PsO d y Q b (pc + n) ls (.long (x - x / z * z) :: r) h) : PsO d y Q b pc ls st h := by
  obtain ⟨u, v, r, rfl, hz, q, h', hq, hX⟩ := p2l_e H
  subst hn
  exact ⟨q, h', hq, X_st hX (fun hs => cons_ok trivial (tail_ok (tail_ok hs))) (fun iv k => lv_lrem iv.1.1 iv.1.2.1 hd hz k)⟩
theorem sx_lshl (hd : dcd y pc .lshl 1) (hn : n = 1) (H : pil st fun x z r => PsO d y Q b (pc + n) ls (.long (x <<< (z.toInt64 &&& 63)) :: r) h) : PsO d y Q b pc ls st h := by
  obtain ⟨u, v, r, rfl, q, h', hq, hX⟩ := pil_e H
  subst hn
  exact ⟨q, h', hq, X_st hX (fun hs => cons_ok trivial (tail_ok (tail_ok hs))) (fun iv k => lv_lshl iv.1.1 iv.1.2.1 hd rfl k)⟩
theorem sx_lshr (hd : dcd y pc .lshr 1) (hn : n = 1) (H : pil st fun x z r => PsO d y Q b (pc + n) ls (.long (x >>> (z.toInt64 &&& 63)) :: r) h) : PsO d y Q b pc ls st h := by
  obtain ⟨u, v, r, rfl, q, h', hq, hX⟩ := pil_e H
  subst hn
  exact ⟨q, h', hq, X_st hX (fun hs => cons_ok trivial (tail_ok (tail_ok hs))) (fun iv k => lv_lshr iv.1.1 iv.1.2.1 hd rfl k)⟩
theorem sx_lcmp (hd : dcd y pc .lcmp 1) (hn : n = 1) (H : p2l st fun x z r => PsO d y Q b (pc + n) ls (.int (lg_cmp x z) :: r) h) : PsO d y Q b pc ls st h := by
  obtain ⟨u, v, r, rfl, q, h', hq, hX⟩ := p2l_e H
  subst hn
  exact ⟨q, h', hq, X_st hX (fun hs => cons_ok trivial (tail_ok (tail_ok hs))) (fun iv k => W.lcmp iv.1.1 iv.1.2.1 hd k)⟩
theorem sx_i2l (hd : dcd y pc .i2l 1) (hn : n = 1) (H : p1i st fun x r => PsO d y Q b (pc + n) ls (.long x.toInt64 :: r) h) : PsO d y Q b pc ls st h := by
  obtain ⟨u, r, rfl, q, h', hq, hX⟩ := p1i_e H
  subst hn
  exact ⟨q, h', hq, X_st hX (fun hs => cons_ok trivial (tail_ok hs)) (fun iv k => lv_i2l iv.1.1 iv.1.2.1 hd rfl k)⟩
theorem sx_l2i (hd : dcd y pc .l2i 1) (hn : n = 1) (H : p1l st fun x r => PsO d y Q b (pc + n) ls (.int x.toInt32 :: r) h) : PsO d y Q b pc ls st h := by
  obtain ⟨u, r, rfl, q, h', hq, hX⟩ := p1l_e H
  subst hn
  exact ⟨q, h', hq, X_st hX (fun hs => cons_ok trivial (tail_ok hs)) (fun iv k => lv_l2i iv.1.1 iv.1.2.1 hd rfl k)⟩
theorem sx_i2b (hd : dcd y pc .i2b 1) (hn : n = 1) (H : p1i st fun x r => PsO d y Q b (pc + n) ls (.int x.toInt8.toInt32 :: r) h) : PsO d y Q b pc ls st h := by
  obtain ⟨u, r, rfl, q, h', hq, hX⟩ := p1i_e H
  subst hn
  exact ⟨q, h', hq, X_st hX (fun hs => cons_ok trivial (tail_ok hs)) (fun iv k => lv_i2b iv.1.1 iv.1.2.1 hd rfl k)⟩
theorem sx_i2s (hd : dcd y pc .i2s 1) (hn : n = 1) (H : p1i st fun x r => PsO d y Q b (pc + n) ls (.int x.toInt16.toInt32 :: r) h) : PsO d y Q b pc ls st h := by
  obtain ⟨u, r, rfl, q, h', hq, hX⟩ := p1i_e H
  subst hn
  exact ⟨q, h', hq, X_st hX (fun hs => cons_ok trivial (tail_ok hs)) (fun iv k => lv_i2s iv.1.1 iv.1.2.1 hd rfl k)⟩
theorem sx_i2c (hd : dcd y pc .i2c 1) (hn : n = 1) (H : p1i st fun x r => PsO d y Q b (pc + n) ls (.int (x.toUInt32 % 65536).toInt32 :: r) h) : PsO d y Q b pc ls st h := by
  obtain ⟨u, r, rfl, q, h', hq, hX⟩ := p1i_e H
  subst hn
  exact ⟨q, h', hq, X_st hX (fun hs => cons_ok trivial (tail_ok hs)) (fun iv k => lv_i2c iv.1.1 iv.1.2.1 hd rfl k)⟩
end PS

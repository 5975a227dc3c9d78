/-! The law from its entry, out of a run of the abstract machine. -/
def R_law : String := "FourWheelsLaw"
def lw_P (b : Addr) (xs : List Int32) (args : Array Value) (s : State) : Prop := args = #[.ref b] ∧ s.IntsAt b xs ∧ xs.length ≤ 3072 ∧ (Jvm.Cond.and given_1 narrow_1).before args s = true
def lw_Q (_ : Array Value) (s : State) (o : Outcome) (t : State) : Prop := o = .returned (some (.int 1)) ∧ Framed s o t [] 600000 7302250
def lw_Z (below : List Frame) (a : Array Value) (s : State) : State → Prop := fun t => ∃ o, t.status = .running ∧ Ended t below o ∧ lw_Q a s o t
/-- the law's own end, with 1 on the stack, nothing written that was there before, its room as the claim has it -/
theorem lw_ret {p : Program} {l : Launch} {e : Env} {s : State} {m : MethodId} {below : List Frame} {meth : Method} {c : Code} {b : Nat} (hx : p.tables.exec = Jvm.exec) (hb : c.code = code) (hr : meth.sig.returnType = ret) (hlocks : meth.locks = false) {pc : Nat} {H : Heap} {ls : Array Slot} (hdg : decode code pc = .ok (.ireturn, 1)) : W p l e room_1 s m #[Value.ref b] below meth c H [] 600000 7302250 (lw_Z below #[Value.ref b] s) (F0 m pc ls [.int 1]) := by
  intro T hT X
  obtain ⟨fs, hret, hrun, hended, hW, hframe⟩ := X.leave (v := some (.int 1)) (hlocks := hlocks) (fun h => by rw [hr] at h; cases h)
  have hmeth' : T.vm.method? m = some meth := X.method'
  refine ⟨T.setFrames fs, ?_, .returned (some (.int 1)), hrun, hended, rfl, ⟨_, rfl⟩, hW, hframe⟩
  jvm_step X.here [X.here.top, hx, hb, hdg, hmeth', hr, ret, narrow_b1]
  (try refine ⟨rfl, ?_⟩); (try refine ⟨rfl, ?_⟩)
  first | (intro acts; rw [hret _ acts rfl rfl rfl]) | rw [hret _ _ rfl rfl rfl]
  exact Steps.refl _
/-- what holds at the law's entry: the machine, the code, the tables' words (any of lw_tbl by 'hts w (by decide +kernel)'), the script of L ints xs at the cell b, what the Statement gives of the start (any of its parts by flat_of_before) -/
def lw_At (p : Program) (s : State) (m : MethodId) (meth : Method) (c : Code) (b L : Nat) (xs : Nat → Int32) : Prop :=
  p.tables.exec = Jvm.exec ∧ c.code = code ∧ meth.sig.returnType = ret ∧ c.maxLocals = 4 ∧ s.vm.findClass R_law = some m.cls ∧ (∀ w ∈ lw_tbl, w.before #[Value.ref b] s = true) ∧ va_X b L xs s s.heap ∧ b < s.heap.size ∧ meth.locks = false ∧ (Jvm.Cond.and given_1 narrow_1).before #[Value.ref b] s = true
def h00 (xs : Nat → Int32) (L : Nat) : Hp := (va_up (fun _ _ => 0) 0 xs, fun _ _ => 0, va_up (fun _ => 0) 0 L, fun _ _ => false, fun _ => false, 0, 0)
def LawAM (d : Nat) : Prop := ∀ (xs : Nat → Int32) (L : Nat), L ≤ 3072 → Go d false 0 0 (ent 0 [.ref 0]) [] (h00 xs L) (fun r h' => r = .int 1 ∧ rC h' ≤ 600000 ∧ rS h' ≤ 7302250)
theorem W_mono {p : Program} {l : Launch} {e : Env} {R : Room} {s : State} {m : MethodId} {args : Array Value} {below : List Frame} {meth : Method} {c : Code} {H : Heap} {locs : List Loc} {cells slots : Nat} {Q Q' : State → Prop} {g : JFrame} (hq : ∀ t, Q t → Q' t) (k : W p l e R s m args below meth c H locs cells slots Q g) : W p l e R s m args below meth c H locs cells slots Q' g := fun T hT X => by
  obtain ⟨t, a, b⟩ := k T hT X
  exact ⟨t, a, hq t b⟩
theorem gtb_sub {w : Cond} (h : w ∈ gtb) : w ∈ lw_tbl := (List.mem_filter.mp h).1
theorem ntb_sub {w : Cond} (h : w ∈ ntb) : w ∈ lw_tbl := (List.mem_filter.mp h).1
theorem nw_of {w : Cond} {args : Array Value} {s : State} (hw : w ∈ ntb) (h : w.before args s = true) : va_Nw w s := by
  have h2 := (List.mem_filter.mp hw).2
  cases w <;> first | exact va_Nw.of rfl h | cases h2
theorem ao_24 : Cond.arrayOver (.object "FourWheels$Mark") ∈ lw_tbl := List.mem_of_getElem? (i := 400) (by decide +kernel)
theorem ao_25 : Cond.arrayOver (.object "FourWheels$Tray") ∈ lw_tbl := List.mem_of_getElem? (i := 516) (by decide +kernel)
theorem ao_26 : Cond.arrayOver (.object "FourWheels$Shed") ∈ lw_tbl := List.mem_of_getElem? (i := 517) (by decide +kernel)
theorem ao_27 : Cond.arrayOver (.object "FourWheels$Lock") ∈ lw_tbl := List.mem_of_getElem? (i := 518) (by decide +kernel)
theorem ls_1 : Cond.laysStatic "java/lang/String" "COMPACT_STRINGS" "Z" ∈ lw_tbl := List.mem_of_getElem? (i := 632) (by decide +kernel)
theorem ls_2 : Cond.laysStatic "jdk/internal/util/Preconditions" "SIOOBE_FORMATTER" "Ljava/util/function/BiFunction;" ∈ lw_tbl := List.mem_of_getElem? (i := 651) (by decide +kernel)
theorem ls_3 : Cond.initialized "java/lang/String" ∈ lw_tbl := List.mem_of_getElem? (i := 136) (by decide +kernel)
theorem ls_4 : Cond.initialized "jdk/internal/util/Preconditions" ∈ lw_tbl := List.mem_of_getElem? (i := 138) (by decide +kernel)
theorem str_at {args : Array Value} {s : State} {own tx : String} {idx n : Nat} {B : List Int32} (hn : n < 2 ^ 31) (h1 : (Cond.exactly (.string own idx) "java/lang/String").before args s = true) (h2 : (Cond.eq (.field (.string own idx) "java/lang/String" "coder" "B") (.int 0)).before args s = true) (h3 : (Cond.arrayOf (.field (.string own idx) "java/lang/String" "value" "[B") .byte).before args s = true) (h4 : (Cond.eq (.length (.field (.string own idx) "java/lang/String" "value" "[B")) (.int (Int32.ofNat n))).before args s = true) (h5 : ∀ j : Nat, j < n → (Cond.eq (.elem (.field (.string own idx) "java/lang/String" "value" "[B") (.int (Int32.ofNat j))) (.int (B.getD j 0))).before args s = true) (h6 : (Cond.stringRef own idx tx).before args s = true) :
    ∃ k v : Nat, vk_R own idx tx k s ∧ va_O "java/lang/String" k (Ab s.heap.size) s s.heap ∧ va_OF "java/lang/String" "coder" "B" (.int 0) k (Ab s.heap.size) s s.heap ∧ va_OF "java/lang/String" "value" "[B" (.ref v) k (Ab s.heap.size) s s.heap ∧ va_T .byte v n (fun j => .int (B.getD j 0)) (Ab s.heap.size) s s.heap := by
  have hz : ∀ i : Nat, i < 1 → i = 0 := fun i h => by omega
  obtain ⟨adK, adV, hS, hT⟩ := vk_Sof (args := args) (s := s) (N := 1) (tm := fun _ => .string own idx) (len := [n]) (byt := [B]) (A := Ab s.heap.size) (fun i hi => by rw [hz i hi]; exact hn) (fun _ _ => h1) (fun _ _ => h2) (fun _ _ => h3) (fun i hi => by rw [hz i hi]; exact h4) (fun i hi j hj => by rw [hz i hi] at hj ⊢; exact h5 j hj) (fun i j hi hj hne => absurd ((hz i hi).trans (hz j hj).symm) hne) (fun a ha => Nat.not_le.mpr ha)
  obtain ⟨q1, q2, q3, q4⟩ := hS.1 0 (by omega)
  exact ⟨adK 0, adV 0, vk_R.of h6 (hT 0 (by omega)), q1, q2, q3, q4⟩
set_option maxHeartbeats 4000000 in
set_option maxRecDepth 100000 in
theorem whole_of (d : Nat) (hd : d ≤ 1900) (hlaw : LawAM d) (hok : ∀ y, y < 320 → ∀ p, okA y p (AMT y p)) (hcd : ∀ x, 0 < x → x < 320 → cdx x) {p : Program} {e : Env} {s : State} {m : MethodId} {below : List Frame} {meth : Method} {c : Code} (l : Launch) {b L : Nat} {xs : Nat → Int32} (hL : L ≤ 3072) (C0 : lw_At p s m meth c b L xs) : W p l e room_1 s m #[Value.ref b] below meth c s.heap [] 0 0 (lw_Z below #[Value.ref b] s) (entryFrame m ([Value.ref b] : List Value).toArray 4) := by
  obtain ⟨hx, hb, hr, hml, hown, hts, hX, hbl, hlocks, hgv⟩ := id C0
  have hs := flat_of_before _ hgv
  obtain ⟨k0, v0, r0⟩ := str_at (tx := snT 0) (n := 12) (B := B0_0) (by decide) (hs _ st0_1) (hs _ st0_2) (hs _ st0_3) (hs _ st0_4) (fun j hj => hs _ (st0_5 j hj)) (hts _ st0_6)
  obtain ⟨k1, v1, r1⟩ := str_at (tx := snT 1) (n := 108) (B := B0_1) (by decide) (hs _ st1_1) (hs _ st1_2) (hs _ st1_3) (hs _ st1_4) (fun j hj => hs _ (st1_5 j hj)) (hts _ st1_6)
  obtain ⟨k2, v2, r2⟩ := str_at (tx := snT 2) (n := 83) (B := B0_2) (by decide) (hs _ st2_1) (hs _ st2_2) (hs _ st2_3) (hs _ st2_4) (fun j hj => hs _ (st2_5 j hj)) (hts _ st2_6)
  obtain ⟨k3, v3, r3⟩ := str_at (tx := snT 3) (n := 12) (B := B0_3) (by decide) (hs _ st3_1) (hs _ st3_2) (hs _ st3_3) (hs _ st3_4) (fun j hj => hs _ (st3_5 j hj)) (hts _ st3_6)
  have hA : ∀ a : Nat, a < s.heap.size → ¬ Ab s.heap.size a := fun a ha => Nat.not_le.mpr ha
  have hc1 : va_Z "java/lang/String" "COMPACT_STRINGS" "Z" (.int 1) (Ab s.heap.size) s s.heap := va_Zof (hts _ ls_1) (hts _ ls_3) (va_eqi (hs _ (by decide +kernel))) hA
  have hc2 : va_Zq "jdk/internal/util/Preconditions" "SIOOBE_FORMATTER" "Ljava/util/function/BiFunction;" (Ab s.heap.size) s s.heap := va_Zqof (hts _ ls_2) (hts _ ls_4) (hs _ (by decide +kernel)) hA
  obtain ⟨fm, hfm⟩ : ∃ fm : Nat, va_Z "jdk/internal/util/Preconditions" "SIOOBE_FORMATTER" "Ljava/util/function/BiFunction;" (fm_v fm) (Ab s.heap.size) s s.heap := by
    rcases hc2 with h | ⟨t, h⟩
    · exact ⟨0, h⟩
    · exact ⟨t + 1, h⟩
  obtain ⟨c0, iS0, hKn0⟩ := u_known (C := RX0) (T := TX0) (N := 12) (n := 12) hts (fun w hw => gtb_sub (ly0 w hw)) (hts _ (gtb_sub (ins_c 0 (by decide))))
  obtain ⟨c1, iS1, hKn1⟩ := u_known (C := RX1) (T := TX1) (N := 3) (n := 3) hts (fun w hw => gtb_sub (ly1 w hw)) (hts _ (gtb_sub (ins_c 1 (by decide))))
  obtain ⟨c2, iS2, hKn2⟩ := u_known (C := RX2) (T := TX2) (N := 8) (n := 8) hts (fun w hw => gtb_sub (ly2 w hw)) (hts _ (gtb_sub (ins_c 2 (by decide))))
  obtain ⟨c3, iS3, hKn3⟩ := u_known (C := RX3) (T := TX3) (N := 8) (n := 8) hts (fun w hw => gtb_sub (ly3 w hw)) (hts _ (gtb_sub (ins_c 3 (by decide))))
  obtain ⟨c4, iS4, hKn4⟩ := u_known (C := RX4) (T := TX4) (N := 7) (n := 7) hts (fun w hw => gtb_sub (ly4 w hw)) (hts _ (gtb_sub (ins_c 4 (by decide))))
  obtain ⟨c5, iS5, hKn5⟩ := u_known (C := RX5) (T := TX5) (N := 1) (n := 1) hts (fun w hw => gtb_sub (ly5 w hw)) (hts _ (gtb_sub (ins_c 5 (by decide))))
  obtain ⟨c6, iS6, hKn6⟩ := u_known (C := RX6) (T := TX6) (N := 6) (n := 6) hts (fun w hw => gtb_sub (ly6 w hw)) (hts _ (gtb_sub (ins_c 6 (by decide))))
  obtain ⟨c7, iS7, hKn7⟩ := u_known (C := RX7) (T := TX7) (N := 7) (n := 7) hts (fun w hw => gtb_sub (ly7 w hw)) (hts _ (gtb_sub (ins_c 7 (by decide))))
  obtain ⟨c8, iS8, hKn8⟩ := u_known (C := RX8) (T := TX8) (N := 18) (n := 18) hts (fun w hw => gtb_sub (ly8 w hw)) (hts _ (gtb_sub (ins_c 8 (by decide))))
  obtain ⟨c9, iS9, hKn9⟩ := u_known (C := RX9) (T := TX9) (N := 4) (n := 4) hts (fun w hw => gtb_sub (ly9 w hw)) (hts _ (gtb_sub (ins_c 9 (by decide))))
  obtain ⟨c10, iS10, hKn10⟩ := u_known (C := RX10) (T := TX10) (N := 3) (n := 3) hts (fun w hw => gtb_sub (ly10 w hw)) (hts _ (gtb_sub (ins_c 10 (by decide))))
  obtain ⟨c11, iS11, hKn11⟩ := u_known (C := RX11) (T := TX11) (N := 18) (n := 18) hts (fun w hw => gtb_sub (ly11 w hw)) (hts _ (gtb_sub (ins_c 11 (by decide))))
  obtain ⟨c12, iS12, hKn12⟩ := u_known (C := RX12) (T := TX12) (N := 38) (n := 38) hts (fun w hw => gtb_sub (ly12 w hw)) (hts _ (gtb_sub (ins_c 12 (by decide))))
  obtain ⟨dC, dI, hKc⟩ : ∃ (dC : Nat → ClassId) (dI : Nat → Nat → Nat), ∀ (k : Nat) (q : vw_C), vwCl[k]? = some q → u_Kn s q.1 q.2.1 q.2.2 (dC k) (dI k) := by
    refine ⟨fun k => if k = 0 then c0 else if k = 1 then c1 else if k = 2 then c2 else if k = 3 then c3 else if k = 4 then c4 else if k = 5 then c5 else if k = 6 then c6 else if k = 7 then c7 else if k = 8 then c8 else if k = 9 then c9 else if k = 10 then c10 else if k = 11 then c11 else c12, fun k => if k = 0 then iS0 else if k = 1 then iS1 else if k = 2 then iS2 else if k = 3 then iS3 else if k = 4 then iS4 else if k = 5 then iS5 else if k = 6 then iS6 else if k = 7 then iS7 else if k = 8 then iS8 else if k = 9 then iS9 else if k = 10 then iS10 else if k = 11 then iS11 else iS12, ?_⟩
    intro k q hq
    match k, hq with
    | 0, hq => cases hq; exact hKn0
    | 1, hq => cases hq; exact hKn1
    | 2, hq => cases hq; exact hKn2
    | 3, hq => cases hq; exact hKn3
    | 4, hq => cases hq; exact hKn4
    | 5, hq => cases hq; exact hKn5
    | 6, hq => cases hq; exact hKn6
    | 7, hq => cases hq; exact hKn7
    | 8, hq => cases hq; exact hKn8
    | 9, hq => cases hq; exact hKn9
    | 10, hq => cases hq; exact hKn10
    | 11, hq => cases hq; exact hKn11
    | 12, hq => cases hq; exact hKn12
    | k + 13, hq => simp [vwCl] at hq
  have hK : va_K (dC, dI) vwCl [] s := ⟨hKc, fun k q h => by simp at h⟩
  obtain ⟨r, h', ⟨hr1, hrC, hrS⟩, hXe⟩ := GoC.ind (PsO d 0 (fun r h' => r = .int 1 ∧ rC h' ≤ 600000 ∧ rS h' ≤ 7302250)) (hlaw xs L hL) (fun b pc ls st h H => snd_step (by decide) (hok 0 (by decide)) (snd_all hok hcd d) hcd b pc ls st h H)
  subst hr1
  have ro : RoO ((dC, dI), s.heap.size, xs, L) (fun a => match a with | 0 => b | 1 => k0 | 2 => k1 | 3 => k2 | 4 => k3 | 5 => v0 | 6 => v1 | 7 => v2 | 8 => v3 | 9 => fm | _ => 0) s := by
    refine ⟨hX, hbl, Nat.le_refl _, fun i hi => ?_, hc1, hfm⟩
    match i, hi with
    | 0, _ => exact r0
    | 1, _ => exact r1
    | 2, _ => exact r2
    | 3, _ => exact r3
  have tb : TbO s := by
    refine ⟨fun w hw => nw_of hw (hts w (ntb_sub hw)), fun k q1 q2 => ?_⟩
    rcases (show k = 24 ∨ k = 25 ∨ k = 26 ∨ k = 27 by omega) with rfl | rfl | rfl | rfl
    · exact va_AO.of (hts _ ao_24)
    · exact va_AO.of (hts _ ao_25)
    · exact va_AO.of (hts _ ao_26)
    · exact va_AO.of (hts _ ao_27)
  have hlk : ∀ v ∈ ([.ref 0] : List Value), lok (h00 xs L) v := cons_ok (Or.inl (by decide)) nil_ok
  rw [lg_entry_eq]
  have hLR := LRo.entry (ρ := fun a => match a with | 0 => b | 1 => k0 | 2 => k1 | 3 => k2 | 4 => k3 | 5 => v0 | 6 => v1 | 7 => v2 | 8 => v3 | 9 => fm | _ => 0) (n := mxl 0) hlk (by decide)
  refine W.cs (cells' := rC (h00 xs L) - rC (h00 xs L)) (slots' := rS (h00 xs L) - rS (h00 xs L)) (by omega) (by omega) ?_
  refine W_mono (fun t ht => ?_) (hXe.2.2 (G := ((dC, dI), s.heap.size, xs, L)) (b0 := false) (R := room_1) (ρ0 := fun a => match a with | 0 => b | 1 => k0 | 2 => k1 | 3 => k2 | 4 => k3 | 5 => v0 | 6 => v1 | 7 => v2 | 8 => v3 | 9 => fm | _ => 0) (h0 := h00 xs L) (γ := fun _ => 0) ⟨⟨hx, hb, hr, hml, hown, fun w hw => hts w (gtb_sub hw), hlocks, fun q => absurd q (by decide)⟩, ⟨?_, ?_⟩, tb, ro, ⟨[], rfl, rfl, hK, List.nodup_nil, fun a => ⟨fun q => (by cases q), fun q => (by cases q)⟩, fun k q hk => (by simp [wsO] at hk), ⟨fun i j p q hp => (by simp [wsO] at hp), fun k q hk => (by simp [wsO] at hk)⟩, fun a ha => (by cases ha), fun a ha => (by cases ha), fun q => (by cases q)⟩, hLR, ent_ok hlk, nil_ok, va_S.rf, AgO.rf, Nat.le_refl _, Nat.le_refl _, id⟩ ?_ ?_)
  · obtain ⟨oc, t1, t2, ⟨ρ', γ', e1, -⟩, LL, hF, hLL⟩ := ht
    have e1 : oc = .returned (some (.int 1)) := e1
    subst e1
    refine ⟨_, t1, t2, rfl, hF.1, hF.2.1, ?_⟩
    exact hF.2.2.weaken (fun y hy hlt => absurd hlt (Nat.not_lt.mpr (hLL y hy))) (by show rC h' - 0 ≤ 600000; omega) (by show rS h' - 0 ≤ 7302250; omega)
  · show d + 1 ≤ 2048
    omega
  · show 44 * (d + 1) ≤ 84000
    omega
  · show rC h' - 0 ≤ 600000
    omega
  · show rS h' - 0 ≤ 7302250
    omega


/-! Monotony of a step; runs (Go), methods (wpC), so many steps at once (exf). -/
def CalM (cal : Cl) : Prop := ∀ (b : Bool) (x : Nat) (as : List Value) (h : Hp) (Q Q' : Po), (∀ r h, Q r h → Q' r h) → cal b x as h Q → cal b x as h Q'
set_option maxHeartbeats 4000000 in
theorem stp_m {cal : Cl} {y : Nat} {i : AI} {b : Bool} {pc : Nat} {ls st : List Value} {h : Hp} {K K' : Kn} {Q Q' : Po} (mc : CalM cal) (mK : ∀ b pc ls st h, K b pc ls st h → K' b pc ls st h) (mQ : ∀ r h, Q r h → Q' r h) (H : stp cal y i b pc ls st h K Q) : stp cal y i b pc ls st h K' Q' := by
  obtain ⟨op, n, x, z, ci, cj⟩ := i
  cases op
  case iconst => exact mK _ _ _ _ _ H
  case nop => exact ⟨H.1, mK _ _ _ _ _ H.2⟩
  case lconst => exact mK _ _ _ _ _ H
  case ldc => exact mK _ _ _ _ _ H
  case iload => exact lgi_m (fun _ h => mK _ _ _ _ _ h) H
  case lload => exact lgl_m (fun _ h => mK _ _ _ _ _ h) H
  case aload => exact lga_m (f := fun v => K b (pc + n) ls (v :: st) h) (fun _ h => mK _ _ _ _ _ h) H
  case istore => exact p1i_m (fun _ _ h => mK _ _ _ _ _ h) H
  case lstore => exact p1l_m (fun _ _ h => mK _ _ _ _ _ h) H
  case astore => exact pr_m (fun _ _ h => mK _ _ _ _ _ h) H
  case iinc => exact lgi_m (fun _ h => mK _ _ _ _ _ h) H
  case idiv => exact p2i_m (fun _ _ _ h => ⟨h.1, mK _ _ _ _ _ h.2⟩) H
  case irem => exact p2i_m (fun _ _ _ h => ⟨h.1, mK _ _ _ _ _ h.2⟩) H
  case ineg => exact p1i_m (fun _ _ h => mK _ _ _ _ _ h) H
  case ldiv => exact p2l_m (fun _ _ _ h => ⟨h.1, mK _ _ _ _ _ h.2⟩) H
  case lrem => exact p2l_m (fun _ _ _ h => ⟨h.1, mK _ _ _ _ _ h.2⟩) H
  case lshl => exact pil_m (fun _ _ _ h => mK _ _ _ _ _ h) H
  case lshr => exact pil_m (fun _ _ _ h => mK _ _ _ _ _ h) H
  case i2l => exact p1i_m (fun _ _ h => mK _ _ _ _ _ h) H
  case l2i => exact p1l_m (fun _ _ h => mK _ _ _ _ _ h) H
  case i2b => exact p1i_m (fun _ _ h => mK _ _ _ _ _ h) H
  case i2s => exact p1i_m (fun _ _ h => mK _ _ _ _ _ h) H
  case i2c => exact p1i_m (fun _ _ h => mK _ _ _ _ _ h) H
  case ifCond => exact p1i_m (fun _ _ h => ⟨fun c => mK _ _ _ _ _ (h.1 c), fun c => mK _ _ _ _ _ (h.2 c)⟩) H
  case if_icmp => exact p2i_m (fun _ _ _ h => ⟨fun c => mK _ _ _ _ _ (h.1 c), fun c => mK _ _ _ _ _ (h.2 c)⟩) H
  case goto => exact mK _ _ _ _ _ H
  case ifnull => simp only [stp] at H ⊢; split at H <;> first | exact mK _ _ _ _ _ H | exact H.elim
  case ifnonnull => simp only [stp] at H ⊢; split at H <;> first | exact mK _ _ _ _ _ H | exact H.elim
  case tableswitch => exact p1i_m (fun _ _ h => ⟨fun c => mK _ _ _ _ _ (h.1 c), swt_m (fun _ h => mK _ _ _ _ _ h) _ _ h.2⟩) H
  case lookupswitch => exact p1i_m (fun _ _ h => lks_m (fun _ h => mK _ _ _ _ _ h) _ h) H
  case dup => simp only [stp] at H ⊢; split at H <;> first | exact mK _ _ _ _ _ H | exact H.elim
  case dup2 => simp only [stp] at H ⊢; split at H <;> first | exact mK _ _ _ _ _ H | exact H.elim
  case pop => simp only [stp] at H ⊢; split at H <;> first | exact mK _ _ _ _ _ H | exact H.elim
  case getfield => exact pr_m (fun _ _ h => okb_m (bif_m (bif_m (fun h => mK _ _ _ _ _ h) (fun h => ⟨h.1, mK _ _ _ _ _ h.2⟩)) (bif_m (fun h => mK _ _ _ _ _ h) (fun h => mK _ _ _ _ _ h))) h) H
  case putfield => exact bif_m (prr_m (fun _ _ _ h => okb_m (bif_m (fun h => mK _ _ _ _ _ h) (bif_m (fun h => ⟨h.1, mK _ _ _ _ _ h.2⟩) id)) h)) (bif_m (plr_m (fun _ _ _ h => okb_m (fun h => mK _ _ _ _ _ h) h)) (bif_m (pir_m (fun _ _ _ h => okb_m (fun h => ⟨h.1, mK _ _ _ _ _ h.2⟩) h)) (pir_m (fun _ _ _ h => okb_m (fun h => mK _ _ _ _ _ h) h)))) H
  case checkcast => exact pr_m (fun _ _ h => okb_m (bif_m (fun h => mK _ _ _ _ _ h) (fun h => mK _ _ _ _ _ h)) h) H
  case getstatic => exact bif_m (fun h => mK _ _ _ _ _ h) (fun h => mK _ _ _ _ _ h) H
  case iaload => exact pir_m (fun _ _ _ h => okb_m (fun h => ⟨h.1, mK _ _ _ _ _ h.2⟩) h) H
  case laload => exact pir_m (fun _ _ _ h => okb_m (fun h => ⟨h.1, mK _ _ _ _ _ h.2⟩) h) H
  case baload => exact pir_m (fun _ _ _ h => bif_m (fun h => ⟨h.1, mK _ _ _ _ _ h.2⟩) (okb_m (fun h => ⟨h.1, mK _ _ _ _ _ h.2⟩)) h) H
  case aaload => exact pir_m (fun _ _ _ h => okb_m (fun h => ⟨h.1, fun c => mK _ _ _ _ _ (h.2.1 c), fun c => mK _ _ _ _ _ (h.2.2 c)⟩) h) H
  case iastore => exact piir_m (fun _ _ _ _ h => okb_m (fun h => ⟨h.1, mK _ _ _ _ _ h.2⟩) h) H
  case lastore => exact plir_m (fun _ _ _ _ h => okb_m (fun h => ⟨h.1, mK _ _ _ _ _ h.2⟩) h) H
  case bastore => exact piir_m (fun _ _ _ _ h => okb_m (fun h => ⟨h.1, mK _ _ _ _ _ h.2⟩) h) H
  case aastore => exact prir_m (fun _ _ _ _ h => okb_m (fun h => ⟨h.1, h.2.1, mK _ _ _ _ _ h.2.2⟩) h) H
  case arraylength => exact pr_m (fun _ _ h => okb_m (fun h => mK _ _ _ _ _ h) h) H
  case new => obtain ⟨a, h1, h2, h3⟩ := H; exact ⟨a, h1, h2, mK _ _ _ _ _ h3⟩
  case newarray => exact p1i_m (fun _ _ ⟨a, h1, h2, h3, h4, h5, h6⟩ => ⟨a, h1, h2, h3, h4, h5, mK _ _ _ _ _ h6⟩) H
  case anewarray => exact p1i_m (fun _ _ ⟨a, h1, h2, h3, h4, h5, h6⟩ => ⟨a, h1, h2, h3, h4, h5, mK _ _ _ _ _ h6⟩) H
  case monitorenter => exact pcp_m (fun _ _ _ _ _ _ h => okb_m (fun ⟨h3, h4, h5, h6, h7, h8⟩ => ⟨h3, h4, h5, h6, h7, mK _ _ _ _ _ h8⟩) h) H
  case monitorexit => exact pr_m (fun _ _ h => okb_m (fun h => mK _ _ _ _ _ h) h) H
  case invokestatic => exact okb_m (fun h => mc _ _ _ _ _ _ (fun _ _ h => mK _ _ _ _ _ h) h) H
  case invokevirtual => exact pr_m (fun _ _ h => okb_m (fun h => mc _ _ _ _ _ _ (fun _ _ h => mK _ _ _ _ _ h) h) h) H
  case invokespecial => exact pr_m (fun _ _ h => okb_m (fun h => mc _ _ _ _ _ _ (fun _ _ h => mK _ _ _ _ _ h) h) h) H
  case ireturn =>
    simp only [stp] at H ⊢
    split at H
    · exact bif_m (fun h => mQ _ _ h) (bif_m (fun h => ⟨h.1, mQ _ _ h.2⟩) (bif_m (fun h => ⟨h.1, mQ _ _ h.2⟩) (bif_m (fun h => ⟨h.1, mQ _ _ h.2⟩) id))) H
    · exact H.elim
  case lreturn => simp only [stp] at H ⊢; split at H <;> first | exact okb_m (fun h => mQ _ _ h) H | exact H.elim
  case areturn => simp only [stp] at H ⊢; split at H <;> first | exact okb_m (fun h => mQ _ _ h) H | exact H.elim
  case return_ => simp only [stp] at H ⊢; split at H <;> first | exact okb_m (fun h => mQ _ _ h) H | exact H.elim
  all_goals first | exact p2i_m (fun _ _ _ h => mK _ _ _ _ _ h) H | exact p2l_m (fun _ _ _ h => mK _ _ _ _ _ h) H | exact H.elim
/-- a run: the least predicate that holds wherever a step ahead of it does -/
def GoC (cal : Cl) (T : Nat → AI) (y : Nat) (b : Bool) (pc : Nat) (ls st : List Value) (h : Hp) (Q : Po) : Prop :=
  ∀ P : Kn, (∀ b pc ls st h, stp cal y (T pc) b pc ls st h P Q → P b pc ls st h) → P b pc ls st h
theorem GoC.one {cal : Cl} {T : Nat → AI} {y : Nat} {b : Bool} {pc : Nat} {ls st : List Value} {h : Hp} {Q : Po} (mc : CalM cal) (H : stp cal y (T pc) b pc ls st h (fun b pc ls st h => GoC cal T y b pc ls st h Q) Q) : GoC cal T y b pc ls st h Q :=
  fun P hP => hP _ _ _ _ _ (stp_m mc (fun _ _ _ _ _ g => g P hP) (fun _ _ h => h) H)
theorem GoC.mono {cal : Cl} {T : Nat → AI} {y : Nat} {b : Bool} {pc : Nat} {ls st : List Value} {h : Hp} {Q Q' : Po} (mc : CalM cal) (mQ : ∀ r h, Q r h → Q' r h) (H : GoC cal T y b pc ls st h Q) : GoC cal T y b pc ls st h Q' :=
  fun P hP => H P (fun _ _ _ _ _ h => hP _ _ _ _ _ (stp_m mc (fun _ _ _ _ _ h => h) mQ h))
theorem GoC.ind {cal : Cl} {T : Nat → AI} {y : Nat} {b : Bool} {pc : Nat} {ls st : List Value} {h : Hp} {Q : Po} (P : Kn) (H : GoC cal T y b pc ls st h Q) (hP : ∀ b pc ls st h, stp cal y (T pc) b pc ls st h P Q → P b pc ls st h) : P b pc ls st h := H P hP
theorem GoC.calM {cal cal' : Cl} {T : Nat → AI} {y : Nat} {b : Bool} {pc : Nat} {ls st : List Value} {h : Hp} {Q : Po} (mc : ∀ y i b pc ls st h (K : Kn) (Q : Po), stp cal y i b pc ls st h K Q → stp cal' y i b pc ls st h K Q) (H : GoC cal T y b pc ls st h Q) : GoC cal' T y b pc ls st h Q :=
  fun P hP => H P (fun _ _ _ _ _ h => hP _ _ _ _ _ (mc _ _ _ _ _ _ _ _ _ h))
/-- a greater table of callees -/
theorem stp_c {cal cal' : Cl} (mc : ∀ (b : Bool) (x : Nat) (as : List Value) (h : Hp) (Q : Po), cal b x as h Q → cal' b x as h Q) (y : Nat) (i : AI) (b : Bool) (pc : Nat) (ls st : List Value) (h : Hp) (K : Kn) (Q : Po) (H : stp cal y i b pc ls st h K Q) : stp cal' y i b pc ls st h K Q := by
  obtain ⟨op, n, x, z, ci, cj⟩ := i
  cases op
  case invokestatic => exact okb_m (fun h => mc _ _ _ _ _ h) H
  case invokevirtual => exact pr_m (fun _ _ h => okb_m (fun h => mc _ _ _ _ _ h) h) H
  case invokespecial => exact pr_m (fun _ _ h => okb_m (fun h => mc _ _ _ _ _ h) h) H
  all_goals exact H
def lay : List Value → List Value
  | [] => []
  | .long v :: t => .long v :: mk_ :: lay t
  | v :: t => v :: lay t
def pad (n : Nat) (l : List Value) : List Value := l ++ List.replicate (n - l.length) mk_

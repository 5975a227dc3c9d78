/-! Every step keeps the claim; every method keeps its contract. -/
theorem wg_nat : Cond.native arraycopyName ∈ gtb := in_g 874 (by decide +kernel) rfl
theorem wg_sta : Cond.static arraycopyName ∈ gtb := in_g 873 (by decide +kernel) rfl
theorem wg_sys : Cond.initialized "java/lang/System" ∈ gtb := in_g 143 (by decide +kernel) rfl
theorem wg_oin : Cond.instanceMethod objectInit ∈ gtb := in_g 151 (by decide +kernel) rfl
theorem wg_oco : Cond.code objectInit ⟨#[0xb1]⟩ 1 none ∈ gtb := in_g 152 (by decide +kernel) rfl
abbrev CalO (d : Nat) : Prop := ∀ (b : Bool) (x : Nat) (as : List Value) (h : Hp) (Q' : Po), 0 < x → x < 320 → wpC d b x as h Q' → ∃ r h', Q' r h' ∧ MtO d b x as h r h'
set_option maxHeartbeats 4000000 in
theorem snd_step {d y : Nat} {Q : Po} (hy : y < 320) (hok : ∀ p, okA y p (AMT y p)) (hcal : CalO d) (hcd : ∀ x, 0 < x → x < 320 → cdx x) (b : Bool) (pc : Nat) (ls st : List Value) (h : Hp) (H : stp (wpC d) y (AMT y pc) b pc ls st h (PsO d y Q) Q) : PsO d y Q b pc ls st h := by
  have ho := hok pc
  generalize AMT y pc = i at H ho
  obtain ⟨op, n, x, z, ci, cj⟩ := i
  cases op
  case iadd => exact sx_iadd ho.1 ho.2 H
  case isub => exact sx_isub ho.1 ho.2 H
  case imul => exact sx_imul ho.1 ho.2 H
  case iand => exact sx_iand ho.1 ho.2 H
  case ior => exact sx_ior ho.1 ho.2 H
  case ixor => exact sx_ixor ho.1 ho.2 H
  case ishl => exact sx_ishl ho.1 ho.2 H
  case ishr => exact sx_ishr ho.1 ho.2 H
  case iushr => exact sx_iushr ho.1 ho.2 H
  case idiv => exact sx_idiv ho.1 ho.2 H
  case irem => exact sx_irem ho.1 ho.2 H
  case ineg => exact sx_ineg ho.1 ho.2 H
  case ladd => exact sx_ladd ho.1 ho.2 H
  case lsub => exact sx_lsub ho.1 ho.2 H
  case lmul => exact sx_lmul ho.1 ho.2 H
  case land => exact sx_land ho.1 ho.2 H
  case lor => exact sx_lor ho.1 ho.2 H
  case ldiv => exact sx_ldiv ho.1 ho.2 H
  case lrem => exact sx_lrem ho.1 ho.2 H
  case lshl => exact sx_lshl ho.1 ho.2 H
  case lshr => exact sx_lshr ho.1 ho.2 H
  case lcmp => exact sx_lcmp ho.1 ho.2 H
  case i2l => exact sx_i2l ho.1 ho.2 H
  case l2i => exact sx_l2i ho.1 ho.2 H
  case i2b => exact sx_i2b ho.1 ho.2 H
  case i2s => exact sx_i2s ho.1 ho.2 H
  case i2c => exact sx_i2c ho.1 ho.2 H
  case dup => exact sx_dup ho.1 ho.2 H
  case dup2 => exact sx_dup2 ho.1 ho.2 H
  case pop => exact sx_pop ho.1 ho.2 H
  case iaload => exact sx_iaload ho.1 ho.2 H
  case laload => exact sx_laload ho.1 ho.2 H
  case baload => exact sx_baload ho.1 ho.2 H
  case aaload => exact sx_aaload ho.1 ho.2 H
  case iastore => exact sx_iastore ho.1 ho.2 H
  case lastore => exact sx_lastore ho.1 ho.2 H
  case bastore => exact sx_bastore ho.1 ho.2 H
  case aastore => exact sx_aastore ho.1 ho.2 H
  case arraylength => exact sx_alen ho.1 ho.2 H
  case iconst => exact sx_iconst ho H
  case nop => exact sx_nop ho H
  case lconst => exact sx_lconst ho H
  case ldc => exact sx_ldcS ho H
  case iload => exact sx_iload ho H
  case lload => exact sx_lload ho H
  case aload => exact sx_aload ho H
  case istore => exact sx_istore ho H
  case lstore => exact sx_lstore ho H
  case astore => exact sx_astore ho H
  case iinc => exact sx_iinc ho H
  case ifCond => exact sx_ifCond ho H
  case if_icmp => exact sx_icmp ho H
  case goto => exact sx_goto ho H
  case ifnull => exact sx_ifnull ho H
  case ifnonnull => exact sx_ifnonnull ho H
  case tableswitch => exact sx_table ho H
  case lookupswitch => exact sx_lookup ho H
  case getfield => exact sx_getfield ho H
  case checkcast => exact sx_strget ho H
  case getstatic => exact sx_getstatic ho H
  case new => exact sx_new ho H
  case newarray => exact sx_newarray ho H
  case anewarray => exact sx_anewarray ho H
  case putfield =>
    simp only [stp] at H
    cases e2 : Nat.beq (fty x z) 2
    · rw [e2] at H
      cases e1 : Nat.beq (fty x z) 1
      · rw [e1] at H
        cases e3 : Nat.beq (fty x z) 3
        · rw [e3] at H
          exact sx_putI ho e2 e1 (fun v q => by rw [q] at e3; cases e3) H
        · rw [e3] at H
          refine sx_putI ho e2 e1 (fun v _ hv => ?_) (pir_m (fun _ _ _ q => okb_m (fun q => q.2) q) H)
          obtain ⟨a, u, r, rfl, H2⟩ := pir_e H
          cases hv
          exact (okb_e H2).2.1
      · rw [e1] at H
        exact sx_putJ ho e2 e1 H
    · rw [e2] at H
      obtain ⟨a, v, r, rfl, H2⟩ := prr_e H
      obtain ⟨ek, H3⟩ := okb_e H2
      have ek := Nat.eq_of_beq_eq_true ek
      cases ev : Nat.beq v (R0 a z)
      · rw [ev] at H3
        obtain ⟨hc, hN, H4⟩ := okb_e (c := Nat.beq v 99 && zon (R0 a z) && ren y && ls.all (nzz (R0 a z)) && r.all (nzz (R0 a z))) H3
        simp only [Bool.and_eq_true] at hc
        obtain ⟨⟨⟨⟨c1, c2⟩, c3⟩, c4⟩, c5⟩ := hc
        have c1 := Nat.eq_of_beq_eq_true c1
        subst c1
        exact sx_adopt ho e2 ek c2 c3 c4 c5 hN H4
      · rw [ev] at H3
        exact sx_putR ho e2 ek (Nat.eq_of_beq_eq_true ev) H3
  case monitorenter => exact sx_copy ho wg_nat wg_sta wg_sys H
  case monitorexit => exact sx_oinit ho wg_oin wg_oco H
  case invokestatic => exact sx_static hcal hcd ho H
  case invokevirtual => exact sx_virtual hcal hcd ho H
  case invokespecial => exact sx_special hcal hcd ho H
  case ireturn => exact sx_ireturn hy ho.1 H
  case lreturn => exact sx_lreturn hy ho.1 H
  case areturn => exact sx_areturn hy ho.1 H
  case return_ => exact sx_return hy ho.1 H
  all_goals exact H.elim
theorem Mt_of {d x : Nat} {b : Bool} {as : List Value} {h h' : Hp} {r : Value} (cd : cdx x) (hlen : (lay as).length ≤ mxl x) (hX : XeO d x b 0 (ent x as) [] h r h') : MtO (d + 1) b x as h r h' := by
  refine ⟨hX.1, hX.2.1, fun l G ρ γ hl => ?_⟩
  refine Met.ofW (cc := bt x) (maxL := mxl x) (ret := rtt x) cd.2.2.2.1 rfl ?_
  intro p e s m args below meth c s₁ B hml hv
  obtain ⟨rfl, htb, hro, hwd⟩ := hv
  have hts := atoms_spec (ws := TBx x) B.pre
  have hown : s.vm.findClass (nm x).cls = some m.cls := findClass_of_methodNamed B.named
  have hnm : meth.name = (nm x).name := (name_of_methodNamed B.named B.method).1
  rw [lg_entry_eq]
  have hL := LRo.entry (ρ := ρ) (n := mxl x) hl hlen
  refine W.cs (cells' := rC h - rC h) (slots' := rS h - rS h) (by omega) (by omega) ?_
  refine hX.2.2 (ρ := ρ) (γ := γ) ⟨⟨B.exec, B.bytes, B.returns, hml, hown, fun w hw => hts w (List.mem_cons_of_mem _ hw), B.notSynchronized, fun q => hnm.trans q⟩, ⟨Nat.le_refl _, Nat.le_refl _⟩, htb, hro, hwd, hL, ent_ok hl, nil_ok, va_S.rf, AgO.rf, Nat.le_refl _, Nat.le_refl _, id⟩ (Nat.le_refl _) (Nat.le_refl _)
theorem snd_all (hok : ∀ y, y < 320 → ∀ p, okA y p (AMT y p)) (hcd : ∀ x, 0 < x → x < 320 → cdx x) : ∀ d, CalO d
  | 0 => fun _ _ _ _ _ _ _ H => H.elim
  | d + 1 => fun b x as h Q hx0 hx H => by
    obtain ⟨hc, H⟩ := okb_e H
    obtain ⟨r, h', hq, hX⟩ := GoC.ind (PsO d x Q) H (fun b pc ls st h H => snd_step hx (hok x hx) (snd_all hok hcd d) hcd b pc ls st h H)
    exact ⟨r, h', hq, Mt_of (hcd x hx0 hx) (Nat.le_of_ble_eq_true hc) hX⟩

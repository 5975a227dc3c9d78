/-! The invariant of a walk, and what is claimed of a run from a place on (XeO), of a method (MtO). -/
def lok (h : Hp) (v : Value) : Prop := match v with
  | .ref a => a < 10 ∨ rD h a = true
  | .double _ => False
  | .float _ => False
  | _ => True
def LRo (ρ : Nat → Nat) (arr : Array Slot) (n : Nat) (ls : List Value) : Prop := arr.size = n ∧ lv_wf arr ∧ ls.length = n ∧ ∀ (i : Nat) (v : Value), ls[i]? = some v → v ≠ mk_ → arr[i]? = some (Slot.val (rv ρ v))
def AgO (y : Nat) (ρ ρ' : Nat → Nat) (h h' : Hp) : Prop := (∀ a, a < 10 → ρ' a = ρ a) ∧ ∀ a, rD h a = true → (ren y && zon a) = true ∨ (ρ' a = ρ a ∧ rD h' a = true)
def CxO (y : Nat) (p : Program) (s : State) (m : MethodId) (args : Array Value) (meth : Method) (c : Code) : Prop := p.tables.exec = Jvm.exec ∧ c.code = bt y ∧ meth.sig.returnType = rtt y ∧ c.maxLocals = mxl y ∧ s.vm.findClass (nm y).cls = some m.cls ∧ (∀ w ∈ gtb, w.before args s = true) ∧ meth.locks = false ∧ ((nm y).name = "<init>" → meth.name = "<init>")
def rop (x : Nat) (v : Value) : Option Value := bif Nat.beq (rty x) 0 then none else some v
def QcO (G : Gx) (y : Nat) (b0 : Bool) (ρ0 : Nat → Nat) (h0 : Hp) (r : Value) (h' : Hp) : Array Value → State → Outcome → State → Prop := fun _ st oc t => ∃ (ρ' : Nat → Nat) (γ' : Nat → ClassId), oc = .returned (rop y (rv ρ' r)) ∧ WdO G b0 ρ' γ' h' t t.heap ∧ AgO y ρ0 ρ' h0 h' ∧ lok h' r ∧ va_F (Ab G.2.1) st t
def RmO (d : Nat) (R : Room) : Prop := d + 1 ≤ R.frames ∧ 44 * (d + 1) ≤ R.locals
def IvO (G : Gx) (d y : Nat) (b0 b : Bool) (ρ0 : Nat → Nat) (h0 : Hp) (R : Room) (p : Program) (s : State) (m : MethodId) (args : Array Value) (meth : Method) (c : Code) (ρ : Nat → Nat) (γ : Nat → ClassId) (h : Hp) (H : Heap) (arr : Array Slot) (ls st : List Value) (locs : List Loc) : Prop :=
  CxO y p s m args meth c ∧ RmO d R ∧ TbO s ∧ RoO G ρ s ∧ WdO G b ρ γ h s H ∧ LRo ρ arr (mxl y) ls ∧ (∀ v ∈ ls, lok h v) ∧ (∀ v ∈ st, lok h v) ∧ va_S (Ab G.2.1) s.heap H locs ∧ AgO y ρ0 ρ h0 h ∧ rC h0 ≤ rC h ∧ rS h0 ≤ rS h ∧ (b0 = true → b = true)
def XeO (d y : Nat) (b : Bool) (pc : Nat) (ls st : List Value) (h : Hp) (r : Value) (h' : Hp) : Prop := rC h ≤ rC h' ∧ rS h ≤ rS h' ∧
  ∀ {G : Gx} {b0 : Bool} {ρ0 : Nat → Nat} {h0 : Hp} {R : Room} {p : Program} {l : Launch} {e : Env} {s : State} {m : MethodId} {args : Array Value} {below : List Frame} {meth : Method} {c : Code} {ρ : Nat → Nat} {γ : Nat → ClassId} {H : Heap} {arr : Array Slot} {locs : List Loc},
    IvO G d y b0 b ρ0 h0 R p s m args meth c ρ γ h H arr ls st locs → rC h' - rC h0 ≤ R.cells → rS h' - rS h0 ≤ R.slots →
    W p l e R s m args below meth c H locs (rC h - rC h0) (rS h - rS h0) (MQ below (QcO G y b0 ρ0 h0 r h') args s (rC h' - rC h0) (rS h' - rS h0) (Ab G.2.1)) (F0 m pc arr (st.map (rv ρ)))
abbrev TBx (x : Nat) : List Cond := Cond.code (nm x) (bt x) (mxl x) (rtt x) :: gtb
def MtO (d : Nat) (b : Bool) (x : Nat) (as : List Value) (h : Hp) (r : Value) (h' : Hp) : Prop := rC h ≤ rC h' ∧ rS h ≤ rS h' ∧
  ∀ (l : Launch) (G : Gx) (ρ : Nat → Nat) (γ : Nat → ClassId), (∀ v ∈ as, lok h v) → Met l (nm x) (TBx x) { frames := d, cells := rC h' - rC h, slots := rS h' - rS h, locals := 44 * d } (va_Pc (as.map (rv ρ)) (fun U => TbO U ∧ RoO G ρ U ∧ WdO G b ρ γ h U U.heap)) (QcO G x b ρ h r h') (rC h' - rC h) (rS h' - rS h) (Ab G.2.1)
theorem AgO.rf {y : Nat} {ρ : Nat → Nat} {h : Hp} : AgO y ρ ρ h h := ⟨fun _ _ => rfl, fun _ ha => Or.inr ⟨rfl, ha⟩⟩
theorem AgO.tr {y : Nat} {ρ ρ1 ρ2 : Nat → Nat} {h h1 h2 : Hp} (p : AgO y ρ ρ1 h h1) (q : AgO y ρ1 ρ2 h1 h2) : AgO y ρ ρ2 h h2 := by
  refine ⟨fun a ha => (q.1 a ha).trans (p.1 a ha), fun a ha => ?_⟩
  rcases p.2 a ha with h | ⟨e, h⟩
  · exact Or.inl h
  · rcases q.2 a h with h | ⟨e2, h⟩
    · exact Or.inl h
    · exact Or.inr ⟨e2.trans e, h⟩
theorem RoO.rho {G : Gx} {ρ ρ' : Nat → Nat} {s : State} (h : RoO G ρ s) (he : ∀ a, a < 10 → ρ' a = ρ a) : RoO G ρ' s := by
  obtain ⟨h1, h2, h3, h4, h5, h6⟩ := h
  refine ⟨by rw [he 0 (by omega)]; exact h1, by rw [he 0 (by omega)]; exact h2, h3, fun i hi => ?_, h5, by rw [he 9 (by omega)]; exact h6⟩
  rw [he (1 + i) (by omega), he (5 + i) (by omega)]
  exact h4 i hi
/-- another stack -/
theorem IvO.st {G : Gx} {d y : Nat} {b0 b : Bool} {ρ0 : Nat → Nat} {h0 : Hp} {R : Room} {p : Program} {s : State} {m : MethodId} {args : Array Value} {meth : Method} {c : Code} {ρ : Nat → Nat} {γ : Nat → ClassId} {h : Hp} {H : Heap} {arr : Array Slot} {ls st st' : List Value} {locs : List Loc} (iv : IvO G d y b0 b ρ0 h0 R p s m args meth c ρ γ h H arr ls st locs) (hs : ∀ v ∈ st', lok h v) : IvO G d y b0 b ρ0 h0 R p s m args meth c ρ γ h H arr ls st' locs := by
  obtain ⟨i1, i2, i3, i4, i5, i6, i7, -, i9⟩ := iv
  exact ⟨i1, i2, i3, i4, i5, i6, i7, hs, i9⟩
/-- other locals, another stack -/
theorem IvO.ls {G : Gx} {d y : Nat} {b0 b : Bool} {ρ0 : Nat → Nat} {h0 : Hp} {R : Room} {p : Program} {s : State} {m : MethodId} {args : Array Value} {meth : Method} {c : Code} {ρ : Nat → Nat} {γ : Nat → ClassId} {h : Hp} {H : Heap} {arr arr' : Array Slot} {ls ls' st st' : List Value} {locs : List Loc} (iv : IvO G d y b0 b ρ0 h0 R p s m args meth c ρ γ h H arr ls st locs) (hL : LRo ρ arr' (mxl y) ls') (hl : ∀ v ∈ ls', lok h v) (hs : ∀ v ∈ st', lok h v) : IvO G d y b0 b ρ0 h0 R p s m args meth c ρ γ h H arr' ls' st' locs := by
  obtain ⟨i1, i2, i3, i4, i5, -, -, -, i9⟩ := iv
  exact ⟨i1, i2, i3, i4, i5, hL, hl, hs, i9⟩
theorem nil_ok {h : Hp} : ∀ v ∈ ([] : List Value), lok h v := fun _ h => by cases h
theorem cons_ok {h : Hp} {v : Value} {st : List Value} (h1 : lok h v) (h2 : ∀ w ∈ st, lok h w) : ∀ w ∈ v :: st, lok h w := fun w hw => by
  rcases List.mem_cons.mp hw with rfl | hw
  · exact h1
  · exact h2 w hw
theorem tail_ok {h : Hp} {v : Value} {st : List Value} (h1 : ∀ w ∈ v :: st, lok h w) : ∀ w ∈ st, lok h w := fun w hw => h1 w (List.mem_cons_of_mem _ hw)
theorem head_ok {h : Hp} {v : Value} {st : List Value} (h1 : ∀ w ∈ v :: st, lok h w) : lok h v := h1 v List.mem_cons_self
/-! locals -/
def prs (ρ : Nat → Nat) (ls : List Value) : List (Nat × Value) := (List.range ls.length).filterMap fun i => match ls[i]? with
  | some v => if v = mk_ then none else some (i, rv ρ v)
  | none => none
theorem mem_prs {ρ : Nat → Nat} {ls : List Value} {i : Nat} {w : Value} : (i, w) ∈ prs ρ ls ↔ ∃ v, ls[i]? = some v ∧ v ≠ mk_ ∧ w = rv ρ v := by
  rw [prs, List.mem_filterMap]
  constructor
  · rintro ⟨j, -, hj⟩
    cases hv : ls[j]? with
    | none => rw [hv] at hj; cases hj
    | some v =>
      rw [hv] at hj
      by_cases hm : v = mk_
      · simp [hm] at hj
      · simp only [hm, if_false, Option.some.injEq, Prod.mk.injEq] at hj
        obtain ⟨rfl, rfl⟩ := hj
        exact ⟨v, hv, hm, rfl⟩
  · rintro ⟨v, hv, hm, rfl⟩
    refine ⟨i, List.mem_range.mpr (List.getElem?_eq_some_iff.mp hv).1, ?_⟩
    rw [hv]
    simp only [hm, if_false]
theorem LRo.has {ρ : Nat → Nat} {arr : Array Slot} {n : Nat} {ls : List Value} (h : LRo ρ arr n ls) : lv_has arr n (prs ρ ls) := by
  refine ⟨h.1, h.2.1, fun q hq => ?_⟩
  obtain ⟨i, w⟩ := q
  obtain ⟨v, hv, hm, rfl⟩ := mem_prs.mp hq
  exact h.2.2.2 i v hv hm
theorem clr_len {ls : List Value} {x : Nat} : (clr ls x).length = ls.length := by
  cases x with
  | zero => rfl
  | succ j =>
    simp only [clr]
    split
    · cases Nat.beq _ 2
      · rfl
      · exact List.length_set
    · rfl
theorem clr_get {ls : List Value} {x i : Nat} {w : Value} (h : (clr ls x)[i]? = some w) (hm : w ≠ mk_) : ls[i]? = some w ∧ ¬ (i + 1 = x ∧ w.category = 2) := by
  cases x with
  | zero => exact ⟨h, by omega⟩
  | succ j =>
    simp only [clr] at h
    split at h
    · rename_i v hv
      cases hc : Nat.beq v.category 2
      · rw [hc] at h
        refine ⟨h, fun q => ?_⟩
        have : i = j := by omega
        subst this
        have h : ls[i]? = some w := h
        rw [hv] at h
        cases h
        rw [q.2] at hc
        cases hc
      · rw [hc] at h
        have h : (ls.set j mk_)[i]? = some w := h
        rw [List.getElem?_set] at h
        by_cases hj : j = i
        · rw [if_pos hj] at h
          split at h
          · cases h
            exact absurd rfl hm
          · cases h
        · rw [if_neg hj] at h
          exact ⟨h, fun q => hj (by omega)⟩
    · rename_i hv
      refine ⟨h, fun q => ?_⟩
      have : i = j := by omega
      subst this
      rw [hv] at h
      cases h
theorem LRo.store1 {ρ : Nat → Nat} {arr arr' : Array Slot} {n x : Nat} {ls : List Value} {v : Value} (h : LRo ρ arr n ls) (hx : x < n) (h' : lv_has arr' n ((x, rv ρ v) :: (prs ρ ls).filter (fun q => !(q.1 == x) && !(q.1 + 1 == x && q.2.category == 2)))) : LRo ρ arr' n (st1 ls x v) := by
  refine ⟨h'.1, h'.2.1, by rw [st1, List.length_set, clr_len]; exact h.2.2.1, fun i w hw hm => ?_⟩
  rw [st1, List.getElem?_set] at hw
  by_cases hi : x = i
  · subst hi
    rw [if_pos rfl, if_pos (by rw [clr_len, h.2.2.1]; exact hx)] at hw
    cases hw
    exact h'.2.2 (x, rv ρ v) List.mem_cons_self
  · rw [if_neg hi] at hw
    obtain ⟨h1, h2⟩ := clr_get hw hm
    refine h'.2.2 (i, rv ρ w) (List.mem_cons_of_mem _ (List.mem_filter.mpr ⟨mem_prs.mpr ⟨w, h1, hm, rfl⟩, ?_⟩))
    have e1 : (i == x) = false := by simp; omega
    simp only [e1, rv_cat, Bool.not_false, Bool.true_and, Bool.not_eq_true', Bool.and_eq_false_imp, beq_iff_eq]
    intro e
    by_cases hc : w.category = 2
    · exact absurd ⟨e, hc⟩ h2
    · simp [hc]
theorem LRo.store2 {ρ : Nat → Nat} {arr arr' : Array Slot} {n x : Nat} {ls : List Value} {v : Value} (h : LRo ρ arr n ls) (hx : x + 1 < n) (h' : lv_has arr' n ((x, rv ρ v) :: (prs ρ ls).filter (fun q => !(q.1 == x) && (!(q.1 == x + 1) && !(q.1 + 1 == x && q.2.category == 2))))) : LRo ρ arr' n (st2 ls x v) := by
  refine ⟨h'.1, h'.2.1, by rw [st2, List.length_set, List.length_set, clr_len]; exact h.2.2.1, fun i w hw hm => ?_⟩
  rw [st2, List.getElem?_set] at hw
  by_cases hi1 : x + 1 = i
  · rw [if_pos hi1] at hw
    split at hw
    · cases hw
      exact absurd rfl hm
    · cases hw
  · rw [if_neg hi1, List.getElem?_set] at hw
    by_cases hi : x = i
    · subst hi
      rw [if_pos rfl, if_pos (by rw [clr_len, h.2.2.1]; omega)] at hw
      cases hw
      exact h'.2.2 (x, rv ρ v) List.mem_cons_self
    · rw [if_neg hi] at hw
      obtain ⟨h1, h2⟩ := clr_get hw hm
      refine h'.2.2 (i, rv ρ w) (List.mem_cons_of_mem _ (List.mem_filter.mpr ⟨mem_prs.mpr ⟨w, h1, hm, rfl⟩, ?_⟩))
      have e1 : (i == x) = false := by simp; omega
      have e2 : (i == x + 1) = false := by simp; omega
      simp only [e1, e2, rv_cat, Bool.not_false, Bool.true_and, Bool.not_eq_true', Bool.and_eq_false_imp, beq_iff_eq]
      intro e
      by_cases hc : w.category = 2
      · exact absurd ⟨e, hc⟩ h2
      · simp [hc]
theorem mem_st1 {ls : List Value} {x : Nat} {v w : Value} (h : w ∈ st1 ls x v) : w = v ∨ w = mk_ ∨ w ∈ ls := by
  rcases List.mem_or_eq_of_mem_set h with h | h
  · refine Or.inr ?_
    cases x with
    | zero => exact Or.inr h
    | succ j =>
      simp only [clr] at h
      split at h
      · rename_i u hu
        cases hc : Nat.beq u.category 2
        · rw [hc] at h
          exact Or.inr h
        · rw [hc] at h
          rcases List.mem_or_eq_of_mem_set h with h | h
          · exact Or.inr h
          · exact Or.inl h
      · exact Or.inr h
  · exact Or.inl h
theorem st1_ok {h : Hp} {ls : List Value} {x : Nat} {v : Value} (hl : ∀ w ∈ ls, lok h w) (hv : lok h v) : ∀ w ∈ st1 ls x v, lok h w := fun w hw => by
  rcases mem_st1 hw with rfl | rfl | hw
  · exact hv
  · exact trivial
  · exact hl w hw
theorem st2_ok {h : Hp} {ls : List Value} {x : Nat} {v : Value} (hl : ∀ w ∈ ls, lok h w) (hv : lok h v) : ∀ w ∈ st2 ls x v, lok h w := fun w hw => by
  rcases List.mem_or_eq_of_mem_set hw with hw | rfl
  · exact st1_ok hl hv w hw
  · exact trivial
theorem lay_args {ρ : Nat → Nat} {h : Hp} : ∀ (as : List Value), (∀ v ∈ as, lok h v) → ∀ (k i : Nat) (w : Value), (lay as)[i]? = some w → w ≠ mk_ → (k + i, rv ρ w) ∈ lv_args k (as.map (rv ρ)) := by
  intro as
  induction as with
  | nil => intro _ k i w hw; simp [lay] at hw
  | cons v t ih =>
    intro hl k i w hw hm
    have ht := ih (tail_ok hl)
    by_cases hc : v.category = 2
    · have : ∃ x, v = .long x := by
        have h0 := head_ok hl
        cases v <;> first | exact ⟨_, rfl⟩ | exact h0.elim | (simp [Value.category] at hc)
      obtain ⟨x, rfl⟩ := this
      simp only [lay, List.map_cons, lv_args, rv] at hw ⊢
      match i, hw with
      | 0, hw => cases hw; exact List.mem_cons_self
      | 1, hw => cases hw; exact absurd rfl hm
      | j + 2, hw =>
        have h2 := ht (k + 2) j w hw hm
        rw [show k + 2 + j = k + (j + 2) by omega] at h2
        exact List.mem_cons_of_mem _ h2
    · have el : lay (v :: t) = v :: lay t := by
        cases v <;> first | rfl | exact absurd rfl hc
      rw [el] at hw
      simp only [List.map_cons, lv_args, rv_cat, if_neg hc]
      match i, hw with
      | 0, hw => cases hw; exact List.mem_cons_self
      | j + 1, hw =>
        have h2 := ht (k + 1) j w hw hm
        rw [show k + 1 + j = k + (j + 1) by omega] at h2
        exact List.mem_cons_of_mem _ h2
theorem lay_len {ρ : Nat → Nat} {h : Hp} : ∀ (as : List Value), (∀ v ∈ as, lok h v) → (lay as).length = (lg_sl (as.map (rv ρ))).length := by
  intro as
  induction as with
  | nil => intro _; rfl
  | cons v t ih =>
    intro hl
    have ht := ih (tail_ok hl)
    have h0 := head_ok hl
    have e : (lg_sl ((v :: t).map (rv ρ))).length = (if v.category = 2 then 2 else 1) + (lg_sl (t.map (rv ρ))).length := by
      simp only [lg_sl, List.map_cons, List.flatMap_cons, List.length_append, rv_cat]
      split <;> rfl
    rw [e, ← ht]
    cases v <;> first | exact h0.elim | (simp [lay, Value.category]; omega)
theorem LRo.entry {ρ : Nat → Nat} {h : Hp} {as : List Value} {n : Nat} (hl : ∀ v ∈ as, lok h v) (hn : (lay as).length ≤ n) : LRo ρ ((lg_sl (as.map (rv ρ)) ++ List.replicate (n - (lg_sl (as.map (rv ρ))).length) Slot.unset).toArray) n (pad n (lay as)) := by
  have he := lv_entry (as.map (rv ρ)) (n := n) (by rw [← lay_len as hl]; exact hn)
  refine ⟨he.1, he.2.1, by rw [pad, List.length_append, List.length_replicate]; omega, fun i w hw hm => ?_⟩
  rw [pad, List.getElem?_append] at hw
  split at hw
  · have := he.2.2 _ (lay_args as hl 0 i w hw hm)
    rw [Nat.zero_add] at this
    exact this
  · rw [List.getElem?_replicate] at hw
    split at hw
    · cases hw
      exact absurd rfl hm
    · cases hw
theorem lay_ok {h : Hp} : ∀ {as : List Value}, (∀ v ∈ as, lok h v) → ∀ v ∈ lay as, lok h v := by
  intro as
  induction as with
  | nil => intro _ v hv; cases hv
  | cons u t ih =>
    intro hl v hv
    have ht := ih (tail_ok hl)
    have hm : v = u ∨ v = mk_ ∨ v ∈ lay t := by
      cases u <;> (simp only [lay, List.mem_cons] at hv; rcases hv with hv | hv <;> first | exact Or.inl hv | exact Or.inr hv | exact Or.inr (Or.inr hv))
    rcases hm with hm | hm | hm
    · rw [hm]; exact head_ok hl
    · rw [hm]; exact trivial
    · exact ht v hm
theorem ent_ok {h : Hp} {as : List Value} {n : Nat} (hl : ∀ v ∈ as, lok h v) : ∀ v ∈ pad n (lay as), lok h v := by
  intro v hv
  rcases List.mem_append.mp hv with hv | hv
  · exact lay_ok hl v hv
  · rw [(List.mem_replicate.mp hv).2]
    exact trivial

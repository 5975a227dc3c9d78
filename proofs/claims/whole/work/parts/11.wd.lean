/-! The world of the abstract machine's cells in the machine's heap: names are laid at addresses by ρ, arrays are of the classes γ. -/
/-- null, or a reference: a static of which no more is said -/
def fm_v (k : Nat) : Value := bif Nat.beq k 0 then .null else .ref (k - 1)
def rv (ρ : Nat → Nat) (v : Value) : Value := match v with
  | .ref a => .ref (ρ a)
  | .retAddr n => bif Nat.beq n 1 then fm_v (ρ 9) else .retAddr n
  | v => v
theorem rv_cat (ρ : Nat → Nat) (v : Value) : (rv ρ v).category = v.category := by
  cases v <;> first | rfl | (simp only [rv, fm_v]; cases Nat.beq _ 1 <;> first | rfl | (cases Nat.beq (ρ 9) 0 <;> rfl))
def fvl (ρ : Nat → Nat) (h : Hp) (a c k : Nat) : Value := bif Nat.beq (fty c k) 2 then (bif rN h a k then .ref (ρ (R0 a k)) else .null) else bif Nat.beq (fty c k) 1 then .long (rJ h a k) else .int (rI h a k)
def fls (ρ : Nat → Nat) (h : Hp) (a c : Nat) : List Value := (List.range (nfl c)).map (fvl ρ h a c)
def cnt (ρ : Nat → Nat) (h : Hp) (a : Nat) : (Nat → Int32) ⊕ (Nat → Int64) ⊕ (Nat → UInt32) ⊕ (Nat → UInt64) ⊕ (Nat → Option Nat) := bif Nat.beq (K0 a) 21 then .inr (.inl (rJ h a)) else bif akd (K0 a) then .inr (.inr (.inr (.inr (fun j => bif rN h a j then some (ρ (R0 a j)) else none)))) else .inl (rI h a)
def ens (ρ : Nat → Nat) (γ : Nat → ClassId) (h : Hp) (a : Nat) : va_E := bif Nat.ble (K0 a) 12 then .inr (K0 a, fls ρ h a (K0 a)) else .inl (γ a, (al h a, cnt ρ h a))
def wsO (ρ : Nat → Nat) (γ : Nat → ClassId) (h : Hp) (L : List Nat) : va_W := L.map fun a => (ρ a, ens ρ γ h a)
def Ab (base : Nat) : Nat → Prop := fun q => base ≤ q
abbrev Gx : Type := va_G × Nat × (Nat → Int32) × Nat
def WdL (G : Gx) (b : Bool) (ρ : Nat → Nat) (γ : Nat → ClassId) (h : Hp) (s : State) (H : Heap) (L : List Nat) : Prop :=
  rI h 0 = G.2.2.1 ∧ rL h 0 = G.2.2.2 ∧ va_K G.1 vwCl [] s ∧ L.Nodup ∧ (∀ a, a ∈ L ↔ rD h a = true) ∧ va_P G.1 vwCl (wsO ρ γ h L) H ∧ va_D (Ab G.2.1) (wsO ρ γ h L) ∧ (∀ a ∈ L, K0 a ≤ 12 ∨ (20 ≤ K0 a ∧ K0 a ≤ 27 ∧ ArrOfT s (γ a) (aty (K0 a)) ∧ va_RA s (γ a) (aty (K0 a)))) ∧ (∀ a ∈ L, ∀ k, rN h a k = true → k < 40 ∧ R0 a k ∈ L) ∧ (b = true → ∀ a k, N0 a k = true → a ∈ L ∧ rN h a k = true)
def WdO (G : Gx) (b : Bool) (ρ : Nat → Nat) (γ : Nat → ClassId) (h : Hp) (s : State) (H : Heap) : Prop := ∃ L : List Nat, WdL G b ρ γ h s H L
def TbO (s : State) : Prop := (∀ w ∈ ntb, va_Nw w s) ∧ ∀ k, 24 ≤ k → k ≤ 27 → va_AO (cN (acl k)) s
def RoO (G : Gx) (ρ : Nat → Nat) (s : State) : Prop :=
  va_X (ρ 0) G.2.2.2 G.2.2.1 s s.heap ∧ ρ 0 < G.2.1 ∧ G.2.1 ≤ s.heap.size ∧
  (∀ i, i < 4 → vk_R (snO i) (snI i) (snT i) (ρ (1 + i)) s ∧ va_O "java/lang/String" (ρ (1 + i)) (Ab G.2.1) s s.heap ∧ va_OF "java/lang/String" "coder" "B" (.int 0) (ρ (1 + i)) (Ab G.2.1) s s.heap ∧ va_OF "java/lang/String" "value" "[B" (.ref (ρ (5 + i))) (ρ (1 + i)) (Ab G.2.1) s s.heap ∧ va_T .byte (ρ (5 + i)) (L0 (5 + i)) (fun j => .int (B0 (5 + i) j)) (Ab G.2.1) s s.heap) ∧
  va_Z "java/lang/String" "COMPACT_STRINGS" "Z" (.int 1) (Ab G.2.1) s s.heap ∧
  va_Z "jdk/internal/util/Preconditions" "SIOOBE_FORMATTER" "Ljava/util/function/BiFunction;" (fm_v (ρ 9)) (Ab G.2.1) s s.heap
theorem TbO.warm {s U : State} (hW : s.WarmedH U.vm) (h : TbO s) : TbO U := by
  refine ⟨fun w hw => ?_, fun k h1 h2 => va_AO.moved hW.alike (h.2 k h1 h2)⟩
  have h1 := h.1 w hw
  have h2 := (List.mem_filter.mp hw).2
  cases w <;> first | exact va_Nw.warmF hW h1 | exact va_Nw.warmM hW h1 | cases h2
theorem TbO.same {s U : State} (hv : s.vm = U.vm) (h : TbO s) : TbO U := by
  refine ⟨fun w hw => ?_, fun k h1 h2 => va_AO.moved (by rw [hv]; exact Vm.Alike.refl _) (h.2 k h1 h2)⟩
  have h1 := h.1 w hw
  have h2 := (List.mem_filter.mp hw).2
  cases w <;> first | exact va_Nw.same rfl hv h1 | cases h2
theorem RoO.warm {G : Gx} {ρ : Nat → Nat} {s U : State} {H : Heap} {locs : List Loc} (h : RoO G ρ s) (hS : va_S (Ab G.2.1) s.heap H locs) (hU : U.heap = H) (hW : s.WarmedH U.vm) : RoO G ρ U := by
  obtain ⟨hX, hb, hz, hs, hc, hf⟩ := h
  have hk : ∀ a : Nat, a < s.heap.size → ¬ Ab G.2.1 a → U.heap[a]? = s.heap[a]? := fun a h1 h2 => by rw [hU]; exact hS.2.1 a h1 h2
  refine ⟨?_, hb, Nat.le_trans hz (by rw [hU]; exact hS.1), fun i hi => ?_, ?_, ?_⟩
  · obtain ⟨scr, h1, h2, h3, h4, h5⟩ := hX
    exact ⟨scr, (hk _ (Nat.lt_of_lt_of_le hb hz) (Nat.not_le.mpr hb)).trans h1, State.isArrayOf_alike hW.alike h2, h3, h4, h5⟩
  · obtain ⟨h1, h2, h3, h4, h5⟩ := hs i hi
    exact ⟨vk_R.warm hW h1, (va_O.moved hW.alike h2).kept hk, (va_OF.moved hW.alike h3).kept hk, (va_OF.moved hW.alike h4).kept hk, (va_T.moved hW.alike h5).kept hk⟩
  · exact (va_Z.moved hW.alike hc).kept hk
  · exact (va_Z.moved hW.alike hf).kept hk
theorem WdL.moved {G : Gx} {b : Bool} {ρ : Nat → Nat} {γ : Nat → ClassId} {h : Hp} {s U : State} {H : Heap} {L : List Nat} (hvm : s.vm.Alike U.vm) (w : WdL G b ρ γ h s H L) : WdL G b ρ γ h U H L := by
  obtain ⟨w1, w2, w3, w4, w5, w6, w7, w8, w9, w10⟩ := w
  exact ⟨w1, w2, va_K.moved hvm w3, w4, w5, w6, w7, fun a ha => (w8 a ha).imp id (fun q => ⟨q.1, q.2.1, arrOfT_moved hvm q.2.2.1, q.2.2.2.moved hvm⟩), w9, w10⟩
theorem WdO.moved {G : Gx} {b : Bool} {ρ : Nat → Nat} {γ : Nat → ClassId} {h : Hp} {s U : State} {H : Heap} (hvm : s.vm.Alike U.vm) (w : WdO G b ρ γ h s H) : WdO G b ρ γ h U H := by
  obtain ⟨L, w⟩ := w
  exact ⟨L, w.moved hvm⟩
/-- a live cell in the list of the world -/
theorem ws_get {ρ : Nat → Nat} {γ : Nat → ClassId} {h : Hp} {L : List Nat} {a : Nat} (ha : a ∈ L) : ∃ q : Nat, L[q]? = some a ∧ (wsO ρ γ h L)[q]? = some (ρ a, ens ρ γ h a) := by
  obtain ⟨q, hq⟩ := List.getElem?_of_mem ha
  exact ⟨q, hq, by rw [wsO, List.getElem?_map, hq]; rfl⟩
theorem ws_set {ρ : Nat → Nat} {γ : Nat → ClassId} {h h' : Hp} {L : List Nat} {a q : Nat} (hn : L.Nodup) (hq : L[q]? = some a) (he : ∀ c ∈ L, c ≠ a → ens ρ γ h' c = ens ρ γ h c) : (wsO ρ γ h L).set q (ρ a, ens ρ γ h' a) = wsO ρ γ h' L := by
  apply List.ext_getElem?
  intro j
  rw [List.getElem?_set, wsO, wsO, List.getElem?_map, List.getElem?_map]
  by_cases hj : q = j
  · subst hj
    have hl : q < L.length := (List.getElem?_eq_some_iff.mp hq).1
    rw [if_pos rfl, if_pos (by rw [List.length_map]; exact hl), hq]
    rfl
  · rw [if_neg hj]
    cases hc : L[j]? with
    | none => rfl
    | some c =>
      have hne : c ≠ a := fun e => by
        subst e
        exact hj ((List.getElem?_inj (List.getElem?_eq_some_iff.mp hq).1 hn).mp (hq.trans hc.symm))
      show some (ρ c, ens ρ γ h c) = some (ρ c, ens ρ γ h' c)
      rw [he c (List.mem_of_getElem? hc) hne]

theorem ens_obj {ρ : Nat → Nat} {γ : Nat → ClassId} {h : Hp} {a : Nat} (hk : K0 a ≤ 12) : ens ρ γ h a = .inr (K0 a, fls ρ h a (K0 a)) := by
  rw [ens, Nat.ble_eq_true_of_le hk]
  rfl
theorem ens_arr {ρ : Nat → Nat} {γ : Nat → ClassId} {h : Hp} {a : Nat} (hk : 20 ≤ K0 a) : ens ρ γ h a = .inl (γ a, (al h a, cnt ρ h a)) := by
  have e : Nat.ble (K0 a) 12 = false := by
    cases q : Nat.ble (K0 a) 12
    · rfl
    · have := Nat.le_of_ble_eq_true q
      omega
  rw [ens, e]
  rfl
theorem cnt_l {ρ : Nat → Nat} {h : Hp} {a : Nat} (hk : K0 a = 21) : cnt ρ h a = .inr (.inl (rJ h a)) := by
  rw [cnt, hk]
  rfl
theorem cnt_q {ρ : Nat → Nat} {h : Hp} {a : Nat} (hk : akd (K0 a) = true) : cnt ρ h a = .inr (.inr (.inr (.inr (fun j => bif rN h a j then some (ρ (R0 a j)) else none)))) := by
  have e : Nat.beq (K0 a) 21 = false := by
    cases q : Nat.beq (K0 a) 21
    · rfl
    · rw [Nat.eq_of_beq_eq_true q] at hk
      cases hk
  rw [cnt, e, hk]
  rfl
theorem cnt_i {ρ : Nat → Nat} {h : Hp} {a : Nat} (hk : K0 a = 20 ∨ K0 a = 22 ∨ K0 a = 23) : cnt ρ h a = .inl (rI h a) := by
  rcases hk with hk | hk | hk <;> (rw [cnt, hk]; rfl)
theorem ens_cg {ρ ρ' : Nat → Nat} {γ γ' : Nat → ClassId} {h h' : Hp} {c : Nat} (h1 : rI h' c = rI h c) (h2 : rJ h' c = rJ h c) (h3 : rL h' c = rL h c) (h4 : rN h' c = rN h c) (hg : γ' c = γ c) (hr : ∀ k, rN h c k = true → ρ' (R0 c k) = ρ (R0 c k)) : ens ρ' γ' h' c = ens ρ γ h c := by
  have e1 : ∀ k, fvl ρ' h' c (K0 c) k = fvl ρ h c (K0 c) k := fun k => by
    simp only [fvl, h1, h2, h4]
    cases q : rN h c k
    · rfl
    · rw [hr k q]
  have e2 : al h' c = al h c := by simp only [al, h3]
  have e3 : cnt ρ' h' c = cnt ρ h c := by
    simp only [cnt, h1, h2, h4]
    congr 1
    congr 1
    congr 1
    congr 1
    congr 1
    congr 1
    funext j
    cases q : rN h c j
    · rfl
    · rw [hr j q]
  simp only [ens, fls, e2, e3, hg, List.map_congr_left (fun k _ => e1 k)]
theorem mrs {f g : Nat → Value} {n k : Nat} (he : ∀ j, j ≠ k → g j = f j) : (List.range n).map g = ((List.range n).map f).set k (g k) := by
  apply List.ext_getElem?
  intro j
  rw [List.getElem?_set, List.getElem?_map, List.getElem?_map]
  by_cases hj : k = j
  · subst hj
    rw [if_pos rfl, List.length_map, List.length_range]
    by_cases hk : k < n
    · rw [if_pos hk, List.getElem?_range hk]
      rfl
    · rw [if_neg hk, List.getElem?_eq_none (by rw [List.length_range]; omega)]
      rfl
  · rw [if_neg hj]
    by_cases hk : j < n
    · rw [List.getElem?_range hk]
      show some (g j) = some (f j)
      rw [he j (fun e => hj e.symm)]
    · rw [List.getElem?_eq_none (by rw [List.length_range]; omega)]
      rfl
theorem fls_get {ρ : Nat → Nat} {h : Hp} {a c k : Nat} (hk : k < nfl c) : (fls ρ h a c)[k]? = some (fvl ρ h a c k) := by
  rw [fls, List.getElem?_map, List.getElem?_range hk]
  rfl
theorem fls_len {ρ : Nat → Nat} {h : Hp} {a c : Nat} : (fls ρ h a c).length = nfl c := by
  rw [fls, List.length_map, List.length_range]

/-! What a truth is: the reading of sums, terms, atoms, units. -/
def IV (b : Nat → Nat) (n c : Nat) (s : PsG) : Prop := qi s ≤ tkP b n (qi s) ∧ (qe s = 0 → qn s + c ≤ qi s)
theorem IV.le {b : Nat → Nat} {n c d : Nat} {s : PsG} (h : IV b n c s) (hd : d ≤ c) : IV b n d s := ⟨h.1, fun e => by have := h.2 e; omega⟩
theorem iv_nx {b : Nat → Nat} {n c : Nat} {s : PsG} (h : IV b n c s) (hk : ¬ kd b n (qi s) = 22) : IV b n (c + 1) (nx s) := by
  have := tkP_s hk
  have h1 := h.1
  refine ⟨?_, fun e => ?_⟩
  · show qi s + 1 ≤ tkP b n (qi s + 1); omega
  · have := h.2 e; show qn s + (c + 1) ≤ qi s + 1; omega
theorem iv_em {b : Nat → Nat} {n c k : Nat} {s : PsG} (h : IV b n (c + 1) s) : IV b n c (em k s) := by
  unfold em
  split
  · rename_i z
    exact ⟨h.1, fun _ => by have := h.2 z; show qn s + 1 + c ≤ qi s; omega⟩
  · exact h.le (by omega)
theorem iv_fl {b : Nat → Nat} {n c w : Nat} {s : PsG} (h : IV b n c s) : IV b n c (fl b n w s) := by
  unfold fl
  split
  · rename_i z
    exact ⟨h.1, fun _ => h.2 z⟩
  · exact h
theorem iv_lt {b : Nat → Nat} {n c : Nat} {s : PsG} (h : IV b n c s) (hk : ¬ kd b n (qi s) = 22) : qi s < n := Nat.lt_of_le_of_lt h.1 (kd_lt hk)
theorem iv_n {b : Nat → Nat} {n c : Nat} {s : PsG} (h : IV b n c s) : qi s ≤ n := Nat.le_trans h.1 (tkP_b b n (qi s))
theorem iv_fl2 {b : Nat → Nat} {n c d w : Nat} {s : PsG} (h : IV b n c s) (hw : ¬ w = 0) : IV b n d (fl b n w s) := ⟨(iv_fl h).1, fun e => absurd e (fl_ne hw)⟩
theorem qi_fl (b : Nat → Nat) (n w : Nat) (s : PsG) : qi (fl b n w s) = qi s := by unfold fl; split <;> rfl
theorem qi_em (c : Nat) (s : PsG) : qi (em c s) = qi s := by unfold em; split <;> rfl
theorem qe_em (c : Nat) (s : PsG) : qe (em c s) = qe s := by unfold em; split <;> rfl
theorem iv_eat {b : Nat → Nat} {n c k : Nat} {s : PsG} (h : IV b n c s) (hk : ¬ k = 22) : IV b n (c + 1) (eat b n k s) ∧ qi s ≤ qi (eat b n k s) := by
  unfold eat
  split
  · rename_i z
    have z := isK_e z
    exact ⟨iv_nx h (by omega), by rw [qi_nx]; omega⟩
  · exact ⟨iv_fl2 h (by decide), by rw [qi_fl]; omega⟩
theorem iv_tkn {b : Nat → Nat} {n c lo hh : Nat} {s : PsG} (h : IV b n c s) : IV b n (c + 1) (tkn b n lo hh s) ∧ qi s ≤ qi (tkn b n lo hh s) := by
  unfold tkn
  split
  · rename_i z
    have z := isK_e z
    split
    · exact ⟨iv_nx h (by omega), by rw [qi_nx]; omega⟩
    · exact ⟨iv_fl2 h (by decide), by rw [qi_fl]; omega⟩
  · exact ⟨iv_fl2 h (by decide), by rw [qi_fl]; omega⟩
theorem fl_id {b : Nat → Nat} {n w : Nat} {s : PsG} (h : ¬ qe s = 0) : fl b n w s = s := if_neg h
theorem em_id {c : Nat} {s : PsG} (h : ¬ qe s = 0) : em c s = s := if_neg h
theorem isK_id {b : Nat → Nat} {n k : Nat} {s : PsG} (h : ¬ qe s = 0) : isK b n k s = false := isK_n (fun z => h z.1)
theorem eat_id {b : Nat → Nat} {n k : Nat} {s : PsG} (h : ¬ qe s = 0) : eat b n k s = s := by unfold eat; rw [isK_id h, if_neg (by decide), fl_id h]
theorem tkn_id {b : Nat → Nat} {n lo hh : Nat} {s : PsG} (h : ¬ qe s = 0) : tkn b n lo hh s = s := by unfold tkn; rw [isK_id h, if_neg (by decide), fl_id h]
theorem whl_y {c : PsG → Bool} {f : PsG → PsG} {k : Nat} {s : PsG} (hk : 1 ≤ k) (h : c s = true) : whl c f k s = whl c f (k - 1) (f s) := by
  rcases k with _ | k
  · omega
  · rw [whl, if_pos h]; rfl
theorem whl_n {c : PsG → Bool} {f : PsG → PsG} {k : Nat} {s : PsG} (h : c s = false) : whl c f k s = s := by
  rcases k with _ | k
  · rfl
  · rw [whl, if_neg (by rw [h]; decide)]
/-- a good word: it goes on, keeps what must be kept, does nothing behind a fault -/
def Gd (b : Nat → Nat) (n : Nat) (f : PsG → PsG) : Prop := ∀ c s, IV b n c s → IV b n c (f s) ∧ qi s ≤ qi (f s) ∧ (¬ qe s = 0 → f s = s)
theorem gd_whl {b : Nat → Nat} {n : Nat} {c : PsG → Bool} {f : PsG → PsG} (hc : ∀ s, ¬ qe s = 0 → c s = false) (hf : ∀ k s, IV b n k s → c s = true → IV b n k (f s) ∧ qi s ≤ qi (f s)) : ∀ k, Gd b n (whl c f k)
  | 0 => fun _ _ h => ⟨h, Nat.le_refl _, fun _ => rfl⟩
  | k + 1 => fun d s h => by
    rw [whl]
    split
    · rename_i z
      have h1 := hf d s h z
      have h2 := gd_whl hc hf k d (f s) h1.1
      exact ⟨h2.1, Nat.le_trans h1.2 h2.2.1, fun e => absurd (z.symm.trans (hc s e)) (by decide)⟩
    · exact ⟨h, Nat.le_refl _, fun _ => rfl⟩
theorem gd_co {b : Nat → Nat} {n : Nat} {f g : PsG → PsG} (hf : Gd b n f) (hg : Gd b n g) : Gd b n (fun s => g (f s)) := fun c s h => by
  have h1 := hf c s h
  have h2 := hg c (f s) h1.1
  refine ⟨h2.1, Nat.le_trans h1.2.1 h2.2.1, fun e => ?_⟩
  have e1 := h1.2.2 e
  rw [e1] at h2
  show g (f s) = s
  rw [e1]; exact h2.2.2 e
def atomF (b : Nat → Nat) (n W m : Nat) (inn : PsG → PsG) (s : PsG) : PsG :=
  if isK b n 21 s = true then nx (em (vl b n (qi s)) s)
  else if isK b n 13 s = true then em (1000 + vl b n (qi s + 1)) (tkn b n 0 W (nx s))
  else if isK b n 14 s = true then em (2000 + vl b n (qi s + 1)) (tkn b n 0 10 (nx s))
  else if qe s = 0 ∧ 15 ≤ kd b n (qi s) ∧ kd b n (qi s) ≤ 17 then nx (em (995 + kd b n (qi s)) s)
  else if isK b n 30 s = true then (if m = 0 then fl b n 4 s else eat b n 31 (inn (nx s)))
  else fl b n 2 s
def binW (b : Nat → Nat) (n k c : Nat) (f : PsG → PsG) (s : PsG) : PsG := whl (isK b n k) (fun s => em c (f (nx s))) 900 (f s)
def pmK (b : Nat → Nat) (n : Nat) (s : PsG) : Bool := isK b n 27 s || isK b n 28 s
def pmB (b : Nat → Nat) (n : Nat) (f : PsG → PsG) (s : PsG) : PsG := em (if kd b n (qi s) = 27 then 3000 else 3001) (f (nx s))
def sumF (b : Nat → Nat) (n : Nat) (f : PsG → PsG) (s : PsG) : PsG := whl (pmK b n) (pmB b n f) 900 (f s)
def smL (b : Nat → Nat) (n W : Nat) : Nat → PsG → PsG
  | 0 => sumF b n (binW b n 29 3002 (atomF b n W 0 id))
  | m + 1 => sumF b n (binW b n 29 3002 (atomF b n W (m + 1) (smL b n W m)))
def innS (b : Nat → Nat) (n W : Nat) : Nat → PsG → PsG
  | 0 => id
  | m + 1 => smL b n W m
theorem smL_e (b : Nat → Nat) (n W m : Nat) : smL b n W m = sumF b n (binW b n 29 3002 (atomF b n W m (innS b n W m))) := by cases m <;> rfl
def cmpK (b : Nat → Nat) (n : Nat) (s : PsG) : Bool := isK b n 34 s || isK b n 35 s || isK b n 36 s
def cmpC (b : Nat → Nat) (n : Nat) (s : PsG) : Nat := if kd b n (qi s) = 34 then 3003 else if kd b n (qi s) = 35 then 3004 else 3005
def cmpN (b : Nat → Nat) (n : Nat) (s : PsG) : PsG := if cmpK b n s = true then nx s else fl b n 2 s
def cmpF (b : Nat → Nat) (n : Nat) (f : PsG → PsG) (s : PsG) : PsG := em (cmpC b n (f s)) (f (cmpN b n (f s)))
def unitF (b : Nat → Nat) (n W m : Nat) (un tr : PsG → PsG) (s : PsG) : PsG :=
  if isK b n 12 s = true then (if m = 0 then fl b n 4 s else em 3008 (un (nx s)))
  else if isK b n 32 s = true then (if m = 0 then fl b n 4 s else eat b n 33 (tr (nx s)))
  else cmpF b n (smL b n W m) s
def trOf (b : Nat → Nat) (n : Nat) (u : PsG → PsG) : PsG → PsG := binW b n 10 3007 (binW b n 11 3006 u)
def unitL (b : Nat → Nat) (n W : Nat) : Nat → PsG → PsG
  | 0 => unitF b n W 0 id id
  | m + 1 => unitF b n W (m + 1) (unitL b n W m) (trOf b n (unitL b n W m))
def innU (b : Nat → Nat) (n W : Nat) : Nat → PsG → PsG
  | 0 => id
  | m + 1 => unitL b n W m
def innT (b : Nat → Nat) (n W : Nat) : Nat → PsG → PsG
  | 0 => id
  | m + 1 => trOf b n (unitL b n W m)
theorem unitL_e (b : Nat → Nat) (n W m : Nat) : unitL b n W m = unitF b n W m (innU b n W m) (innT b n W m) := by cases m <;> rfl
theorem gd_id {b : Nat → Nat} {n : Nat} : Gd b n id := fun _ _ h => ⟨h, Nat.le_refl _, fun _ => rfl⟩
theorem gd_atom {b : Nat → Nat} {n W m : Nat} {inn : PsG → PsG} (hi : Gd b n inn) : Gd b n (atomF b n W m inn) := fun c s h => by
  have hn := fun z : ¬ kd b n (qi s) = 22 => iv_nx h z
  unfold atomF
  split
  · rename_i z
    have z := isK_e z
    refine ⟨?_, ?_, fun e => absurd z.1 e⟩
    · have := iv_em (k := vl b n (qi s)) (hn (by omega))
      have e : em (vl b n (qi s)) (nx s) = nx (em (vl b n (qi s)) s) := by unfold em; rw [if_pos z.1, if_pos (show qe (nx s) = 0 from z.1)]; rfl
      rw [← e]; exact this
    · rw [qi_nx, qi_em]; omega
  · split
    · rename_i z
      have z := isK_e z
      have h2 := iv_tkn (lo := 0) (hh := W) (hn (by omega))
      exact ⟨(iv_em h2.1).le (by omega), by rw [qi_em]; have := h2.2; rw [qi_nx] at this; omega, fun e => absurd z.1 e⟩
    · split
      · rename_i z
        have z := isK_e z
        have h2 := iv_tkn (lo := 0) (hh := 10) (hn (by omega))
        exact ⟨(iv_em h2.1).le (by omega), by rw [qi_em]; have := h2.2; rw [qi_nx] at this; omega, fun e => absurd z.1 e⟩
      · split
        · rename_i z
          refine ⟨?_, ?_, fun e => absurd z.1 e⟩
          · have := iv_em (k := 995 + kd b n (qi s)) (hn (by omega))
            have e : em (995 + kd b n (qi s)) (nx s) = nx (em (995 + kd b n (qi s)) s) := by unfold em; rw [if_pos z.1, if_pos (show qe (nx s) = 0 from z.1)]; rfl
            rw [← e]; exact this
          · rw [qi_nx, qi_em]; omega
        · split
          · rename_i z
            have z := isK_e z
            split
            · exact ⟨iv_fl h, by rw [qi_fl]; omega, fun e => absurd z.1 e⟩
            · have h1 := hi _ _ (hn (by omega))
              have h2 := iv_eat (k := 31) h1.1 (by decide)
              exact ⟨h2.1.le (by omega), by have := h1.2.1; rw [qi_nx] at this; have := h2.2; omega, fun e => absurd z.1 e⟩
          · exact ⟨iv_fl h, by rw [qi_fl]; omega, fun e => fl_id e⟩
theorem gd_bin {b : Nat → Nat} {n k c : Nat} {f : PsG → PsG} (hk : ¬ k = 22) (hf : Gd b n f) : Gd b n (binW b n k c f) := by
  have h1 := gd_whl (b := b) (n := n) (c := isK b n k) (f := fun s => em c (f (nx s))) (fun s e => isK_id e) (fun d s h z => by
    have z := isK_e z
    have h1 := hf _ _ (iv_nx h (by omega))
    exact ⟨iv_em h1.1, by show qi s ≤ qi (em c (f (nx s))); rw [qi_em]; have := h1.2.1; rw [qi_nx] at this; omega⟩) 900
  exact gd_co (f := f) (g := whl (isK b n k) (fun s => em c (f (nx s))) 900) hf h1
theorem pmK_e {b : Nat → Nat} {n : Nat} {s : PsG} (h : pmK b n s = true) : qe s = 0 ∧ (kd b n (qi s) = 27 ∨ kd b n (qi s) = 28) := by
  unfold pmK at h
  rw [Bool.or_eq_true] at h
  rcases h with h | h
  · exact ⟨(isK_e h).1, Or.inl (isK_e h).2⟩
  · exact ⟨(isK_e h).1, Or.inr (isK_e h).2⟩
theorem pmK_id {b : Nat → Nat} {n : Nat} {s : PsG} (h : ¬ qe s = 0) : pmK b n s = false := by unfold pmK; rw [isK_id h, isK_id h]; rfl
theorem gd_pm {b : Nat → Nat} {n : Nat} {f : PsG → PsG} (hf : Gd b n f) : ∀ d s, IV b n d s → pmK b n s = true → IV b n d (pmB b n f s) ∧ qi s + 1 ≤ qi (pmB b n f s) := fun d s h z => by
  have z := pmK_e z
  have h1 := hf _ _ (iv_nx h (by omega))
  exact ⟨iv_em h1.1, by unfold pmB; rw [qi_em]; have := h1.2.1; rw [qi_nx] at this; omega⟩
theorem gd_sumF {b : Nat → Nat} {n : Nat} {f : PsG → PsG} (hf : Gd b n f) : Gd b n (sumF b n f) := by
  have h1 := gd_whl (b := b) (n := n) (c := pmK b n) (f := pmB b n f) (fun s e => pmK_id e) (fun d s h z => by have := gd_pm hf d s h z; exact ⟨this.1, by omega⟩) 900
  exact gd_co (f := f) (g := whl (pmK b n) (pmB b n f) 900) hf h1
theorem gd_sum (b : Nat → Nat) (n W : Nat) : ∀ m, Gd b n (smL b n W m)
  | 0 => gd_sumF (gd_bin (by decide) (gd_atom gd_id))
  | m + 1 => gd_sumF (gd_bin (by decide) (gd_atom (gd_sum b n W m)))
theorem gd_innS (b : Nat → Nat) (n W : Nat) : ∀ m, Gd b n (innS b n W m)
  | 0 => gd_id
  | m + 1 => gd_sum b n W m
theorem cmpK_e {b : Nat → Nat} {n : Nat} {s : PsG} (h : cmpK b n s = true) : qe s = 0 ∧ (kd b n (qi s) = 34 ∨ kd b n (qi s) = 35 ∨ kd b n (qi s) = 36) := by
  unfold cmpK at h
  rw [Bool.or_eq_true, Bool.or_eq_true] at h
  rcases h with (h | h) | h
  · exact ⟨(isK_e h).1, Or.inl (isK_e h).2⟩
  · exact ⟨(isK_e h).1, Or.inr (Or.inl (isK_e h).2)⟩
  · exact ⟨(isK_e h).1, Or.inr (Or.inr (isK_e h).2)⟩
theorem cmpN_iv {b : Nat → Nat} {n c : Nat} {s : PsG} (h : IV b n c s) : IV b n (c + 1) (cmpN b n s) ∧ qi s ≤ qi (cmpN b n s) ∧ (¬ qe s = 0 → cmpN b n s = s) := by
  unfold cmpN
  split
  · rename_i z
    have z := cmpK_e z
    exact ⟨iv_nx h (by omega), by rw [qi_nx]; omega, fun e => absurd z.1 e⟩
  · exact ⟨iv_fl2 h (by decide), by rw [qi_fl]; omega, fun e => fl_id e⟩
theorem gd_cmp {b : Nat → Nat} {n : Nat} {f : PsG → PsG} (hf : Gd b n f) : Gd b n (cmpF b n f) := fun c s h => by
  have h1 := hf _ _ h
  have h2 := cmpN_iv h1.1
  have h3 := hf _ _ h2.1
  refine ⟨iv_em h3.1, by unfold cmpF; rw [qi_em]; have := h1.2.1; have := h2.2.1; have := h3.2.1; omega, fun e => ?_⟩
  have e1 := h1.2.2 e
  have h4 := h2.2.2 (by rw [e1]; exact e)
  unfold cmpF
  rw [h4, e1, e1, em_id e]
theorem gd_unit {b : Nat → Nat} {n W m : Nat} {un tr : PsG → PsG} (hu : Gd b n un) (ht : Gd b n tr) : Gd b n (unitF b n W m un tr) := fun c s h => by
  have hn := fun z : ¬ kd b n (qi s) = 22 => iv_nx h z
  unfold unitF
  split
  · rename_i z
    have z := isK_e z
    split
    · exact ⟨iv_fl h, by rw [qi_fl]; omega, fun e => absurd z.1 e⟩
    · have h1 := hu _ _ (hn (by omega))
      exact ⟨iv_em h1.1, by rw [qi_em]; have := h1.2.1; rw [qi_nx] at this; omega, fun e => absurd z.1 e⟩
  · split
    · rename_i z
      have z := isK_e z
      split
      · exact ⟨iv_fl h, by rw [qi_fl]; omega, fun e => absurd z.1 e⟩
      · have h1 := ht _ _ (hn (by omega))
        have h2 := iv_eat (k := 33) h1.1 (by decide)
        exact ⟨h2.1.le (by omega), by have := h1.2.1; rw [qi_nx] at this; have := h2.2; omega, fun e => absurd z.1 e⟩
    · exact gd_cmp (gd_sum b n W m) c s h
theorem gd_tr {b : Nat → Nat} {n : Nat} {u : PsG → PsG} (h : Gd b n u) : Gd b n (trOf b n u) := gd_bin (by decide) (gd_bin (by decide) h)
theorem gd_unitL (b : Nat → Nat) (n W : Nat) : ∀ m, Gd b n (unitL b n W m)
  | 0 => gd_unit gd_id gd_id
  | m + 1 => gd_unit (gd_unitL b n W m) (gd_tr (gd_unitL b n W m))
theorem gd_innU (b : Nat → Nat) (n W : Nat) : ∀ m, Gd b n (innU b n W m)
  | 0 => gd_id
  | m + 1 => gd_unitL b n W m
theorem gd_innT (b : Nat → Nat) (n W : Nat) : ∀ m, Gd b n (innT b n W m)
  | 0 => gd_id
  | m + 1 => gd_tr (gd_unitL b n W m)

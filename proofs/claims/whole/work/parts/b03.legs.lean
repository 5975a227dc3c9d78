/-! Best and shortest rows: what is still to come from each set of those done. -/
theorem nrF_cg {p : Nat → Bool} {f f2 : Nat → Nat} : ∀ n, (∀ k, k < n → p k = true → f k = f2 k) → nrF p f n = nrF p f2 n
  | 0, _ => rfl
  | n + 1, h => by
    have ih := nrF_cg n (fun k hk => h k (by omega))
    rw [nrF, nrF, ih]
    by_cases hp : p n = true
    · rw [h n (by omega) hp]
    · rw [if_neg hp, if_neg hp]
theorem nrF_val {p : Nat → Bool} {f : Nat → Nat} : ∀ n b, (nrF p f n).1 = some b → f b = (nrF p f n).2 ∧ p b = true ∧ b < n
  | 0, b, e => by rw [nrF] at e; exact absurd e (by simp)
  | n + 1, b, e => by
    have ih := nrF_val (p := p) (f := f) n
    rw [nrF] at e ⊢
    rcases hq : nrF p f n with ⟨o, m⟩
    rw [hq] at e ih
    by_cases hp : p n = true
    · rw [if_pos hp] at e ⊢
      cases o with
      | none => simp only [Option.some.injEq] at e ⊢; subst e; exact ⟨rfl, hp, by omega⟩
      | some c =>
        by_cases hl : f n < m
        · simp only [if_pos hl, Option.some.injEq] at e ⊢; subst e; exact ⟨rfl, hp, by omega⟩
        · simp only [if_neg hl, Option.some.injEq] at e ⊢
          subst e
          have := ih c rfl
          exact ⟨this.1, this.2.1, by omega⟩
    · rw [if_neg hp] at e ⊢
      have := ih b e
      exact ⟨this.1, this.2.1, by omega⟩
theorem nrF_none {p : Nat → Bool} {f : Nat → Nat} : ∀ n, (nrF p f n).1 = none → (nrF p f n).2 = 0 ∧ ∀ k, k < n → p k = false
  | 0, _ => ⟨rfl, fun k hk => absurd hk (Nat.not_lt_zero _)⟩
  | n + 1, e => by
    have ih := nrF_none (p := p) (f := f) n
    rw [nrF] at e ⊢
    rcases hq : nrF p f n with ⟨o, m⟩
    rw [hq] at e ih
    by_cases hp : p n = true
    · rw [if_pos hp] at e
      cases o with
      | none => simp at e
      | some c =>
        by_cases hl : f n < m
        · simp [if_pos hl] at e
        · simp [if_neg hl] at e
    · rw [if_neg hp] at e ⊢
      have h1 := ih e
      refine ⟨h1.1, fun k hk => ?_⟩
      by_cases c : k = n
      · subst c; exact Bool.eq_false_iff.mpr hp
      · exact h1.2 k (by omega)
theorem nrF_no {p : Nat → Bool} {f : Nat → Nat} : ∀ n, (∀ k, k < n → p k = false) → nrF p f n = (none, 0)
  | 0, _ => rfl
  | n + 1, h => by rw [nrF, h n (by omega)]; exact nrF_no n (fun k hk => h k (by omega))
theorem btn_tb (y j : Nat) : btn y j = if y.testBit j = true then 1 else 0 := by
  unfold btn
  rw [Nat.testBit_eq_decide_div_mod_eq]
  by_cases c : y / 2 ^ j % 2 = 1
  · rw [c]; simp
  · rw [if_neg (by simpa using c)]; omega
theorem btn_or2 (y i j : Nat) : btn (y ||| 2 ^ i) j = if j = i then 1 else btn y j := by
  rw [btn_tb, btn_tb, Nat.testBit_or, Nat.testBit_two_pow]
  by_cases c : j = i
  · subst c; simp
  · rw [if_neg c, decide_eq_false (fun q => c q.symm), Bool.or_false]
theorem or_gt {y i : Nat} (h : btn y i = 0) : y < y ||| 2 ^ i := by
  have h1 : y ≤ y ||| 2 ^ i := Nat.left_le_or
  have h2 : y ≠ y ||| 2 ^ i := fun q => by
    have := btn_or2 y i i
    rw [if_pos rfl, ← q, h] at this
    omega
  omega
theorem or_b {y i n : Nat} (h : y < 2 ^ n) (hi : i < n) : y ||| 2 ^ i < 2 ^ n := Nat.or_lt_two_pow h (Nat.pow_lt_pow_right (by omega) hi)
def ntn (dn i : Nat) : Bool := decide (btn dn i = 0)
def rmn (n dn : Nat) : Nat := cntN (ntn dn) n
theorem rmn_s {n dn i : Nat} (hi : i < n) (h : btn dn i = 0) : rmn n dn = rmn n (dn ||| 2 ^ i) + 1 := by
  refine cnt_flip (i := i) ?_ ?_ (fun k hk => ?_) n hi
  · unfold ntn; rw [btn_or2, if_pos rfl]; rfl
  · unfold ntn; rw [h]; rfl
  · unfold ntn; rw [btn_or2, if_neg hk]
theorem rmn_z {n : Nat} : rmn n 0 = n := by
  unfold rmn
  have : ∀ m, cntN (ntn 0) m = m := fun m => by
    induction m with
    | zero => rfl
    | succ m ih => rw [cntN, ih]; rw [show ntn 0 m = true from by unfold ntn btn; rw [Nat.zero_div]; rfl]; rfl
  exact this n
theorem rmn_full {n dn : Nat} (h : ∀ k, k < n → ntn dn k = false) : rmn n dn = 0 := by
  unfold rmn
  rw [cnt_cg n (q := fun _ => false) h]
  exact cnt_0 (fun _ => rfl) n
theorem rmn_0 {n dn : Nat} (h : rmn n dn = 0) {k : Nat} (hk : k < n) : ntn dn k = false := by
  rcases e : ntn dn k with _ | _
  · rfl
  · have h1 := cnt_lt hk e
    have h2 := cnt_up (ntn dn) (m := k + 1) (n := n) (by omega)
    unfold rmn at h
    omega
/-- what is still to come: by how many are left, those done, where the wheels stand; which is next and what all costs -/
def lgC (g : ShG) (pl : Nat) (v F : Nat → Nat) (n : Nat) : Nat → Nat → Nat → Option Nat × Nat
  | 0, _, _ => (none, 0)
  | r + 1, dn, a => nrF (ntn dn) (fun i => (trn g a (v i) + pl) * F dn + (lgC g pl v F n r (dn ||| 2 ^ i) (v i)).2) n
def lgV (g : ShG) (pl : Nat) (v F : Nat → Nat) (n dn a : Nat) : Option Nat × Nat := lgC g pl v F n (rmn n dn) dn a
def lgF (g : ShG) (pl : Nat) (v F : Nat → Nat) (n dn a i : Nat) : Nat := (trn g a (v i) + pl) * F dn + (lgV g pl v F n (dn ||| 2 ^ i) (v i)).2
theorem lgV_nr (g : ShG) (pl : Nat) (v F : Nat → Nat) (n dn a : Nat) : lgV g pl v F n dn a = nrF (ntn dn) (lgF g pl v F n dn a) n := by
  unfold lgV
  rcases hr : rmn n dn with _ | r
  · rw [nrF_no n (fun k hk => rmn_0 hr hk)]; rfl
  · rw [lgC]
    refine nrF_cg n (fun k hk hp => ?_)
    unfold lgF lgV
    have hb : btn dn k = 0 := by unfold ntn at hp; exact of_decide_eq_true hp
    rw [show rmn n (dn ||| 2 ^ k) = r from by have := rmn_s hk hb; omega]
theorem lgC_b {g : ShG} (hg : ShW g) {pl : Nat} {v F : Nat → Nat} {n : Nat} (hp : pl ≤ 60) (hF : ∀ x, F x ≤ 800000000) : ∀ r dn a, (lgC g pl v F n r dn a).2 ≤ r * 307200000000
  | 0, _, _ => Nat.zero_le _
  | r + 1, dn, a => by
    rw [lgC]
    refine nrF_le (fun k => ?_) n
    have h1 := lgC_b hg (v := v) (n := n) hp hF r (dn ||| 2 ^ k) (v k)
    have h2 := trn_b hg a (v k)
    have h3 : (trn g a (v k) + pl) * F dn ≤ 384 * 800000000 := Nat.mul_le_mul (by omega) (hF dn)
    omega
theorem rmn_le (n dn : Nat) : rmn n dn ≤ n := cntN_le _ n
theorem lgV_b {g : ShG} (hg : ShW g) {pl : Nat} {v F : Nat → Nat} {n : Nat} (hn : n ≤ 8) (hp : pl ≤ 60) (hF : ∀ x, F x ≤ 800000000) (dn a : Nat) : (lgV g pl v F n dn a).2 ≤ 3000000000000 := by
  have h1 := lgC_b hg (v := v) (n := n) hp hF (rmn n dn) dn a
  have h2 := rmn_le n dn
  unfold lgV
  omega
theorem lgF_b {g : ShG} (hg : ShW g) {pl : Nat} {v F : Nat → Nat} {n : Nat} (hn : n ≤ 8) (hp : pl ≤ 60) (hF : ∀ x, F x ≤ 800000000) (dn a i : Nat) : lgF g pl v F n dn a i ≤ 4000000000000 := by
  have h1 := lgV_b hg (v := v) hn hp hF (dn ||| 2 ^ i) (v i)
  have h2 := trn_b hg a (v i)
  have h3 : (trn g a (v i) + pl) * F dn ≤ 384 * 800000000 := Nat.mul_le_mul (by omega) (hF dn)
  unfold lgF
  omega
/-- the row that costs least, from there on -/
def lgP (g : ShG) (pl : Nat) (v F : Nat → Nat) (n : Nat) : Nat → Nat → Nat → Nat → Nat
  | 0, _, _, _ => 0
  | r + 1, dn, a, k => match (lgV g pl v F n dn a).1 with
    | none => 0
    | some i => if k = 0 then v i else lgP g pl v F n r (dn ||| 2 ^ i) (v i) (k - 1)
theorem lgP_0 {g : ShG} {pl : Nat} {v F : Nat → Nat} {n r dn a i : Nat} (h : (lgV g pl v F n dn a).1 = some i) : lgP g pl v F n (r + 1) dn a 0 = v i := by rw [lgP, h]; rfl
theorem lgP_s {g : ShG} {pl : Nat} {v F : Nat → Nat} {n r dn a i : Nat} (h : (lgV g pl v F n dn a).1 = some i) (k : Nat) : lgP g pl v F n (r + 1) dn a (k + 1) = lgP g pl v F n r (dn ||| 2 ^ i) (v i) k := by rw [lgP, h]; rfl
/-- weights of those not yet done -/
def fWs (g : ShG) (v : Nat → Nat) (n dn : Nat) : Nat := sumN (fun i => if btn dn i = 0 then wtA g (sH g (v i)) else 0) n
theorem fWs_b {g : ShG} (hg : ShW g) {v : Nat → Nat} {n : Nat} (hn : n ≤ 8) (dn : Nat) : fWs g v n dn ≤ 800000000 := by
  have h1 : fWs g v n dn ≤ n * 100000000 := sumN_le n (fun k _ => by have := wtA_b hg (sH g (v k)); split <;> omega)
  omega
theorem sum_at {f f2 : Nat → Nat} {i : Nat} (h : f2 i = 0) (he : ∀ k, k ≠ i → f k = f2 k) : ∀ n, i < n → sumN f n = sumN f2 n + f i
  | 0, hi => absurd hi (Nat.not_lt_zero _)
  | n + 1, hi => by
    rw [sumN, sumN]
    by_cases c : n = i
    · subst c
      rw [sumN_cg n (f2 := f2) (fun k hk => he k (by omega)), h]; omega
    · rw [sum_at h he n (by omega), he n c]; omega
theorem fWs_s {g : ShG} {v : Nat → Nat} {n dn i : Nat} (hi : i < n) (h : btn dn i = 0) : fWs g v n dn = fWs g v n (dn ||| 2 ^ i) + wtA g (sH g (v i)) := by
  unfold fWs
  rw [sum_at (i := i) (f2 := fun k => if btn (dn ||| 2 ^ i) k = 0 then wtA g (sH g (v k)) else 0) (by rw [btn_or2, if_pos rfl]; rfl) (fun k hk => by rw [btn_or2, if_neg hk]) n hi, if_pos h]

/-! What codes leave on a stack. -/
def kpt (v : Int64) : Int32 := if 1000000 < v then 1000000 else if v < -1000000 then -1000000 else v.toInt32
def joinV (c : Nat) (x y : Int32) : Int32 :=
  if c = 3000 then kpt (x.toInt64 + y.toInt64) else if c = 3001 then kpt (x.toInt64 - y.toInt64) else if c = 3002 then kpt (x.toInt64 * y.toInt64)
  else if c = 3003 then (if x = y then 1 else 0) else if c = 3004 then (if x < y then 1 else 0) else if c = 3005 then (if y < x then 1 else 0)
  else if c = 3006 then x &&& y else x ||| y
def b01 (x : Int32) : Prop := x = 0 ∨ x = 1
def wok (W c : Nat) : Prop := c < 1000 ∨ (1000 ≤ c ∧ c < 1000 + W) ∨ (1010 ≤ c ∧ c ≤ 1012) ∨ (2000 ≤ c ∧ c < 2010)
theorem join_b {c : Nat} {x y : Int32} (h1 : 3003 ≤ c) (h2 : 3006 ≤ c → b01 x ∧ b01 y) : b01 (joinV c x y) := by
  unfold joinV
  rw [if_neg (by omega), if_neg (by omega), if_neg (by omega)]
  split
  · split; exact Or.inr rfl; exact Or.inl rfl
  · split
    · split; exact Or.inr rfl; exact Or.inl rfl
    · split
      · split; exact Or.inr rfl; exact Or.inl rfl
      · obtain ⟨hx, hy⟩ := h2 (by omega)
        rcases hx with hx | hx <;> rcases hy with hy | hy <;> subst hx <;> subst hy <;> split <;> first | exact Or.inl rfl | exact Or.inr rfl
def rok (W : Nat) (wv : Nat → Int32) (code : Nat → Nat) (M : Nat) (P : List Int32 → Prop) : Nat → Nat → List Int32 → Prop
  | 0, _, l => P l
  | k + 1, a, l => (code a < 3000 ∧ wok W (code a) ∧ l.length < M ∧ rok W wv code M P k (a + 1) (wv (code a) :: l)) ∨ (code a = 3008 ∧ ∃ x r, l = x :: r ∧ b01 x ∧ rok W wv code M P k (a + 1) ((1 - x) :: r)) ∨ ((3000 ≤ code a ∧ code a ≤ 3007) ∧ ∃ y x r, l = y :: x :: r ∧ (3006 ≤ code a → b01 x ∧ b01 y) ∧ rok W wv code M P k (a + 1) (joinV (code a) x y :: r))
theorem rok_add {W : Nat} {wv : Nat → Int32} {code : Nat → Nat} {M : Nat} {P : List Int32 → Prop} {k2 e : Nat} : ∀ k1 a l, a + k1 = e → rok W wv code M (fun l => rok W wv code M P k2 e l) k1 a l → rok W wv code M P (k1 + k2) a l
  | 0, a, l, he, h => by rw [Nat.zero_add]; rw [← he] at h; exact h
  | k1 + 1, a, l, he, h => by
    rw [show k1 + 1 + k2 = (k1 + k2) + 1 from by omega, rok]
    rw [rok] at h
    rcases h with ⟨h1, h2, h3, h4⟩ | ⟨h1, x, r, h2, h3, h4⟩ | ⟨h1, y, x, r, h2, h3, h4⟩
    · exact Or.inl ⟨h1, h2, h3, rok_add k1 (a + 1) _ (by omega) h4⟩
    · exact Or.inr (Or.inl ⟨h1, x, r, h2, h3, rok_add k1 (a + 1) _ (by omega) h4⟩)
    · exact Or.inr (Or.inr ⟨h1, y, x, r, h2, h3, rok_add k1 (a + 1) _ (by omega) h4⟩)
theorem rok_co {W : Nat} {wv : Nat → Int32} {c c2 : Nat → Nat} {M : Nat} {P : List Int32 → Prop} : ∀ k a l, (∀ j, a ≤ j → j < a + k → c2 j = c j) → rok W wv c M P k a l → rok W wv c2 M P k a l
  | 0, _, _, _, h => h
  | k + 1, a, l, he, h => by
    have e0 := he a (by omega) (by omega)
    have e1 : ∀ j, a + 1 ≤ j → j < a + 1 + k → c2 j = c j := fun j h1 h2 => he j (by omega) (by omega)
    rw [rok]
    rw [rok] at h
    rw [e0]
    rcases h with ⟨h1, h2, h3, h4⟩ | ⟨h1, x, r, h2, h3, h4⟩ | ⟨h1, y, x, r, h2, h3, h4⟩
    · exact Or.inl ⟨h1, h2, h3, rok_co k (a + 1) _ e1 h4⟩
    · exact Or.inr (Or.inl ⟨h1, x, r, h2, h3, rok_co k (a + 1) _ e1 h4⟩)
    · exact Or.inr (Or.inr ⟨h1, y, x, r, h2, h3, rok_co k (a + 1) _ e1 h4⟩)
/-- codes from a up to e leave one value, a truth where t says so -/
def Sg (W : Nat) (code : Nat → Nat) (a e : Nat) (t : Bool) (D : Nat) : Prop := a ≤ e ∧ ∀ (wv : Nat → Int32) (M : Nat) (l : List Int32) (P : List Int32 → Prop), l.length + D ≤ M → (∀ v, (t = true → b01 v) → P (v :: l)) → rok W wv code M P (e - a) a l
theorem Sg.co {W a e D : Nat} {c c2 : Nat → Nat} {t : Bool} (h : Sg W c a e t D) (he : ∀ j, a ≤ j → j < e → c2 j = c j) : Sg W c2 a e t D := by
  have h1 := h.1
  exact ⟨h.1, fun wv M l P hl hP => rok_co _ _ _ (fun j x y => he j x (by omega)) (h.2 wv M l P hl hP)⟩
theorem Sg.le {W a e D D2 : Nat} {c : Nat → Nat} {t : Bool} (h : Sg W c a e t D) (hd : D ≤ D2) : Sg W c a e t D2 := ⟨h.1, fun wv M l P hl hP => h.2 wv M l P (by omega) hP⟩
theorem sg_word {W a : Nat} {c : Nat → Nat} (h1 : wok W (c a)) (h2 : c a < 3000) : Sg W c a (a + 1) false 1 := ⟨by omega, fun wv M l P hl hP => by
  rw [show a + 1 - a = 0 + 1 from by omega, rok]
  exact Or.inl ⟨h2, h1, by omega, hP _ (fun z => absurd z (by decide))⟩⟩
theorem sg_bin {W a m e D : Nat} {c : Nat → Nat} {t t2 : Bool} (s1 : Sg W c a m t (D + 1)) (s2 : Sg W c m e t D) (h1 : 3000 ≤ c e ∧ c e ≤ 3007) (h2 : 3006 ≤ c e → t = true) (h3 : t2 = true → 3003 ≤ c e) : Sg W c a (e + 1) t2 (D + 1) := by
  have l1 := s1.1
  have l2 := s2.1
  refine ⟨by omega, fun wv M l P hl hP => ?_⟩
  rw [show e + 1 - a = (m - a) + ((e - m) + 1) from by omega]
  refine rok_add (e := m) (m - a) a l (by omega) (s1.2 wv M l _ hl (fun x hx => ?_))
  refine rok_add (e := e) (e - m) m (x :: l) (by omega) (s2.2 wv M (x :: l) _ (by show l.length + 1 + D ≤ M; omega) (fun y hy => ?_))
  show rok W wv c M P (0 + 1) e (y :: x :: l)
  rw [rok]
  refine Or.inr (Or.inr ⟨h1, y, x, l, rfl, fun z => ⟨hx (h2 z), hy (h2 z)⟩, hP _ (fun z => join_b (h3 z) (fun z => ⟨hx (h2 z), hy (h2 z)⟩))⟩)
theorem sg_not {W a e D : Nat} {c : Nat → Nat} (s1 : Sg W c a e true D) (h1 : c e = 3008) : Sg W c a (e + 1) true D := by
  have l1 := s1.1
  refine ⟨by omega, fun wv M l P hl hP => ?_⟩
  rw [show e + 1 - a = (e - a) + 1 from by omega]
  refine rok_add (e := e) (e - a) a l (by omega) (s1.2 wv M l _ hl (fun x hx => ?_))
  show rok W wv c M P (0 + 1) e (x :: l)
  rw [rok]
  have hx := hx rfl
  refine Or.inr (Or.inl ⟨h1, x, l, rfl, hx, hP _ (fun _ => ?_)⟩)
  rcases hx with hx | hx <;> subst hx
  · exact Or.inr (by decide)
  · exact Or.inl (by decide)
/-- s came before s2: no fault stood there, its codes are kept -/
def Bf (s s2 : PsG) : Prop := qe s = 0 ∧ qn s ≤ qn s2 ∧ ∀ j, j < qn s → qc s2 j = qc s j
theorem Bf.tr {s s1 s2 : PsG} (h : Bf s s1) (h2 : Bf s1 s2) : Bf s s2 := by
  have a := h.2.1
  exact ⟨h.1, Nat.le_trans h.2.1 h2.2.1, fun j hj => (h2.2.2 j (by omega)).trans (h.2.2 j hj)⟩
theorem bf_nx {s s2 : PsG} (h : Bf (nx s) s2) : Bf s s2 := h
theorem bf_rfl {s : PsG} (h : qe s = 0) : Bf s s := ⟨h, Nat.le_refl _, fun _ _ => rfl⟩
theorem em_e {c : Nat} {s : PsG} (h : qe s = 0) : em c s = (qi s, qe s, qx s, qn s + 1, va_up (qc s) (qn s) c) := if_pos h
theorem bf_em {c : Nat} {s : PsG} (h : qe (em c s) = 0) : Bf s (em c s) ∧ qn (em c s) = qn s + 1 ∧ qc (em c s) (qn s) = c := by
  rw [qe_em] at h
  rw [em_e h]
  exact ⟨⟨h, Nat.le_succ _, fun j hj => va_up_n (by omega)⟩, rfl, va_up_s⟩
theorem eat_e {b : Nat → Nat} {n k : Nat} {s : PsG} (h : qe (eat b n k s) = 0) : eat b n k s = nx s ∧ qe s = 0 := by
  unfold eat at h ⊢
  split
  · rename_i z; exact ⟨rfl, (isK_e z).1⟩
  · rename_i z; rw [if_neg z] at h; exact absurd h (fl_ne (by decide))
theorem tkn_e {b : Nat → Nat} {n lo hh : Nat} {s : PsG} (h : qe (tkn b n lo hh s) = 0) : tkn b n lo hh s = nx s ∧ qe s = 0 ∧ kd b n (qi s) = 21 ∧ lo ≤ vl b n (qi s) ∧ vl b n (qi s) < hh := by
  unfold tkn at h ⊢
  split
  · rename_i z
    rw [if_pos z] at h
    split
    · rename_i y; exact ⟨rfl, (isK_e z).1, (isK_e z).2, y.1, y.2⟩
    · rename_i y; rw [if_neg y] at h; exact absurd h (fl_ne (by decide))
  · rename_i z; rw [if_neg z] at h; exact absurd h (fl_ne (by decide))
def Ty (W : Nat) (F : PsG → PsG) (t : Bool) (D : Nat) : Prop := ∀ s, qe (F s) = 0 → Bf s (F s) ∧ Sg W (qc (F s)) (qn s) (qn (F s)) t D
theorem ty_atom {b : Nat → Nat} {n W m : Nat} {inn : PsG → PsG} (hW : W ≤ 4) (hi : ∀ q, m = q + 1 → Ty W inn false (2 * m + 1)) : Ty W (atomF b n W m inn) false (2 * m + 1) := fun s h => by
  have key : ∀ c, wok W c → c < 3000 → ∀ s1 : PsG, qe s1 = 0 → qn s1 = qn s → qc s1 = qc s → qe s = 0 → Bf s (em c s1) ∧ Sg W (qc (em c s1)) (qn s) (qn (em c s1)) false (2 * m + 1) := by
    intro c hc hc2 s1 z1 z2 z3 z4
    have h1 := bf_em (c := c) (s := s1) (by rw [qe_em]; exact z1)
    refine ⟨⟨z4, by rw [h1.2.1]; omega, fun j hj => by rw [h1.1.2.2 j (by omega), z3]⟩, ?_⟩
    rw [h1.2.1, ← z2]
    exact (sg_word (by rw [h1.2.2]; exact hc) (by rw [h1.2.2]; exact hc2)).le (by omega)
  unfold atomF at h ⊢
  split
  · rename_i z
    have z0 := isK_e z
    have hv := vl_999 z0.2
    exact key _ (Or.inl (by omega)) (by omega) s z0.1 rfl rfl z0.1
  · rename_i z; rw [if_neg z] at h
    split
    · rename_i z; rw [if_pos z] at h
      rw [qe_em] at h
      obtain ⟨e1, e2, e3, e4, e5⟩ := tkn_e h
      have e5 : vl b n (qi s + 1) < W := e5
      rw [e1]
      exact key (1000 + vl b n (qi s + 1)) (Or.inr (Or.inl ⟨by omega, by omega⟩)) (by omega) (nx (nx s)) e2 rfl rfl e2
    · rename_i z; rw [if_neg z] at h
      split
      · rename_i z; rw [if_pos z] at h
        rw [qe_em] at h
        obtain ⟨e1, e2, e3, e4, e5⟩ := tkn_e h
        have e5 : vl b n (qi s + 1) < 10 := e5
        rw [e1]
        exact key (2000 + vl b n (qi s + 1)) (Or.inr (Or.inr (Or.inr ⟨by omega, by omega⟩))) (by omega) (nx (nx s)) e2 rfl rfl e2
      · rename_i z; rw [if_neg z] at h
        split
        · rename_i z
          exact key _ (Or.inr (Or.inr (Or.inl (by omega)))) (by omega) s z.1 rfl rfl z.1
        · rename_i z; rw [if_neg z] at h
          split
          · rename_i z; rw [if_pos z] at h
            split
            · rename_i y; rw [if_pos y] at h; exact absurd h (fl_ne (by decide))
            · rename_i y; rw [if_neg y] at h
              obtain ⟨e1, e2⟩ := eat_e h
              have h1 := hi (m - 1) (by omega) (nx s) e2
              rw [e1]
              exact h1
          · rename_i z; rw [if_neg z] at h; exact absurd h (fl_ne (by decide))
theorem ty_whl {W : Nat} {c : PsG → Bool} {f : PsG → PsG} {t : Bool} {D : Nat} (hf : ∀ s, c s = true → qe (f s) = 0 → Bf s (f s) ∧ ∀ a, Sg W (qc s) a (qn s) t D → Sg W (qc (f s)) a (qn (f s)) t D) : ∀ k s, qe (whl c f k s) = 0 → Bf s (whl c f k s) ∧ ∀ a, Sg W (qc s) a (qn s) t D → Sg W (qc (whl c f k s)) a (qn (whl c f k s)) t D
  | 0, s, h => ⟨bf_rfl h, fun _ x => x⟩
  | k + 1, s, h => by
    rw [whl] at h ⊢
    split
    · rename_i z
      rw [if_pos z] at h
      have h2 := ty_whl hf k (f s) h
      have h1 := hf s z h2.1.1
      exact ⟨h1.1.tr h2.1, fun a x => h2.2 a (h1.2 a x)⟩
    · rename_i z
      rw [if_neg z] at h
      exact ⟨bf_rfl h, fun _ x => x⟩
/-- a step of a loop: the operation c behind F -/
theorem ty_step {W C : Nat} {F : PsG → PsG} {t : Bool} {D : Nat} (hF : Ty W F t D) (h1 : 3000 ≤ C ∧ C ≤ 3007) (h2 : 3006 ≤ C → t = true) (h3 : t = true → 3003 ≤ C) {s : PsG} (h : qe (em C (F (nx s))) = 0) : Bf s (em C (F (nx s))) ∧ ∀ a, Sg W (qc s) a (qn s) t (D + 1) → Sg W (qc (em C (F (nx s)))) a (qn (em C (F (nx s)))) t (D + 1) := by
  have e1 := bf_em h
  have e2 := hF (nx s) e1.1.1
  have e3 : Bf s (em C (F (nx s))) := (bf_nx e2.1).tr e1.1
  have l1 : qn s ≤ qn (F (nx s)) := e2.1.2.1
  refine ⟨e3, fun a x => ?_⟩
  rw [e1.2.1]
  refine sg_bin (x.co (fun j _ hj => e3.2.2 j hj)) (e2.2.co (fun j _ hj => e1.1.2.2 j hj)) (by rw [e1.2.2]; exact h1) (by rw [e1.2.2]; exact h2) (by rw [e1.2.2]; exact h3)
theorem ty_bin {b : Nat → Nat} {n W K C : Nat} {F : PsG → PsG} {t : Bool} {D : Nat} (hF : Ty W F t D) (h1 : 3000 ≤ C ∧ C ≤ 3007) (h2 : 3006 ≤ C → t = true) (h3 : t = true → 3003 ≤ C) : Ty W (binW b n K C F) t (D + 1) := fun s h => by
  have h4 := ty_whl (W := W) (c := isK b n K) (f := fun s => em C (F (nx s))) (t := t) (D := D + 1) (fun s _ z => ty_step hF h1 h2 h3 z) 900 (F s) h
  have h5 := hF s h4.1.1
  exact ⟨h5.1.tr h4.1, h4.2 _ (h5.2.le (by omega))⟩
theorem ty_sumF {b : Nat → Nat} {n W : Nat} {F : PsG → PsG} {D : Nat} (hF : Ty W F false D) : Ty W (sumF b n F) false (D + 1) := fun s h => by
  have h4 := ty_whl (W := W) (c := pmK b n) (f := pmB b n F) (t := false) (D := D + 1) (fun s _ z => ty_step hF (by split <;> omega) (by split <;> omega) (fun z => absurd z (by decide)) z) 900 (F s) h
  have h5 := hF s h4.1.1
  exact ⟨h5.1.tr h4.1, h4.2 _ (h5.2.le (by omega))⟩
theorem ty_sum {b : Nat → Nat} {n W : Nat} (hW : W ≤ 4) : ∀ m, Ty W (smL b n W m) false (2 * m + 3)
  | 0 => ty_sumF (ty_bin (ty_atom hW (fun q e => absurd e (by omega))) (by omega) (by omega) (fun z => absurd z (by decide)))
  | m + 1 => ty_sumF (ty_bin (ty_atom hW (fun q e => ty_sum hW m)) (by omega) (by omega) (fun z => absurd z (by decide)))
theorem ty_cmp {b : Nat → Nat} {n W : Nat} {F : PsG → PsG} {D : Nat} (hF : Ty W F false D) : Ty W (cmpF b n F) true (D + 1) := fun s h => by
  have e1 := bf_em h
  have e2 := hF _ e1.1.1
  have e4 : cmpN b n (F s) = nx (F s) := by
    unfold cmpN
    split
    · rfl
    · rename_i z
      have : ¬ qe (cmpN b n (F s)) = 0 := by unfold cmpN; rw [if_neg z]; exact fl_ne (by decide)
      exact absurd e2.1.1 this
  have e5 : Bf (nx (F s)) (F (nx (F s))) := by have := e2.1; rw [e4] at this; exact this
  have e3 := hF s e5.1
  have e6 : Bf (F s) (cmpF b n F s) := by
    have := e1.1
    rw [e4] at this
    unfold cmpF; rw [e4]
    exact (bf_nx e5).tr this
  refine ⟨e3.1.tr e6, ?_⟩
  have hc : 3003 ≤ cmpC b n (F s) ∧ cmpC b n (F s) ≤ 3005 := by unfold cmpC; split; omega; split <;> omega
  have q := e1.2.1
  show Sg W (qc (em (cmpC b n (F s)) (F (cmpN b n (F s))))) (qn s) (qn (em (cmpC b n (F s)) (F (cmpN b n (F s))))) true (D + 1)
  rw [q]
  have e8 : qn (cmpN b n (F s)) = qn (F s) := by rw [e4]; rfl
  have e9 := e2.2
  rw [e8] at e9
  exact sg_bin (t := false) ((e3.2.le (by omega)).co (fun j _ hj => e6.2.2 j hj)) (e9.co (fun j _ hj => e1.1.2.2 j hj)) (by rw [e1.2.2]; omega) (by rw [e1.2.2]; omega) (by rw [e1.2.2]; intro _; omega)
theorem ty_unit {b : Nat → Nat} {n W m : Nat} {un tr : PsG → PsG} (hW : W ≤ 4) (hu : ∀ q, m = q + 1 → Ty W un true (2 * m + 4)) (ht : ∀ q, m = q + 1 → Ty W tr true (2 * m + 4)) : Ty W (unitF b n W m un tr) true (2 * m + 4) := fun s h => by
  unfold unitF at h ⊢
  split
  · rename_i z; rw [if_pos z] at h
    split
    · rename_i y; rw [if_pos y] at h; exact absurd h (fl_ne (by decide))
    · rename_i y; rw [if_neg y] at h
      have e1 := bf_em h
      have e2 := hu (m - 1) (by omega) (nx s) e1.1.1
      refine ⟨(bf_nx e2.1).tr e1.1, ?_⟩
      rw [e1.2.1]
      exact sg_not (e2.2.co (fun j _ hj => e1.1.2.2 j hj)) e1.2.2
  · rename_i z; rw [if_neg z] at h
    split
    · rename_i z; rw [if_pos z] at h
      split
      · rename_i y; rw [if_pos y] at h; exact absurd h (fl_ne (by decide))
      · rename_i y; rw [if_neg y] at h
        obtain ⟨e1, e2⟩ := eat_e h
        have h1 := ht (m - 1) (by omega) (nx s) e2
        rw [e1]
        exact h1
    · rename_i z; rw [if_neg z] at h
      exact ty_cmp (ty_sum hW m) s h
theorem ty_tr {b : Nat → Nat} {n W D : Nat} {u : PsG → PsG} (h : Ty W u true D) : Ty W (trOf b n u) true (D + 2) := ty_bin (ty_bin h (by omega) (fun _ => rfl) (by omega)) (by omega) (fun _ => rfl) (by omega)
theorem ty_unitL {b : Nat → Nat} {n W : Nat} (hW : W ≤ 4) : ∀ m, Ty W (unitL b n W m) true (2 * m + 4)
  | 0 => ty_unit hW (fun q e => absurd e (by omega)) (fun q e => absurd e (by omega))
  | m + 1 => ty_unit hW (fun q e s h => by have := ty_unitL (b := b) (n := n) hW m s h; exact ⟨this.1, this.2.le (by omega)⟩) (fun q e => ty_tr (ty_unitL hW m))
theorem ty_trL {b : Nat → Nat} {n W : Nat} (hW : W ≤ 4) : Ty W (trL b n W 6) true 18 := ty_tr (ty_unitL hW 6)

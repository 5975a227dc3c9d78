/-! What deeds do, as numbers; marks. -/
def tryX (g : ShG) (l : LkG) (n : Nat) : Int32 := lX l + nI (trn g (lA l) n + sP g)
/-- a number is tried -/
def tryL (g : ShG) (l : LkG) (n : Nat) : LkG := if sO g = some n then (n, tryX g l n, lG l, 1, lF l, va_up (lT l) n 1) else if 0 < sBA g ∧ nI (sBA g) ≤ lG l + 1 then (n, tryX g l n + nI (sBS g), 0, lO l, lF l, va_up (lT l) n 1) else (n, tryX g l n, lG l + 1, lO l, lF l, va_up (lT l) n 1)
theorem tryL_A (g : ShG) (l : LkG) (n : Nat) : lA (tryL g l n) = n := by unfold tryL; split; rfl; split <;> rfl
theorem tryL_F (g : ShG) (l : LkG) (n : Nat) : lF (tryL g l n) = lF l := by unfold tryL; split; rfl; split <;> rfl
theorem tryL_T (g : ShG) (l : LkG) (n : Nat) : lT (tryL g l n) = va_up (lT l) n 1 := by unfold tryL; split; rfl; split <;> rfl
theorem LkW_try {g : ShG} {l : LkG} (hl : LkW g l) {n : Nat} (hn : n < tot g) : LkW g (tryL g l n) := by
  refine ⟨by rw [tryL_A]; exact hn, ?_, fun m => ?_, fun w => by rw [tryL_F]; exact hl.2.2.2 w⟩
  · have := hl.2.1
    unfold tryL
    repeat' split
    · exact Nat.le_refl _
    · exact this
    · exact this
  · rw [tryL_T]
    by_cases e : m = n
    · rw [e, up_eq]; exact Nat.le_refl _
    · rw [up_ne e]; exact hl.2.2.1 m
theorem BarW_try {g : ShG} {l : LkG} (hg : ShW g) (hb : BarW g l) (n : Nat) : BarW g (tryL g l n) := fun h0 => by
  have h1 := hb h0
  refine ⟨?_, h1.2⟩
  have h9 := hg.2.2.2.2.2.2.2.2.1
  have hn : nI (lW l + 1) = lG l + 1 := by rw [lW_n l]; exact (nI_add _ _).symm
  unfold tryL
  split
  · exact h1.1
  · split
    · show (0 : Int32).toBitVec.toNat < _; exact h0
    · rename_i q
      have q2 : ¬ sBA g ≤ lW l + 1 := fun z => q ⟨h0, by rw [← hn]; exact (nI_leI (by omega) (by omega)).mpr z⟩
      show (lG l + 1).toBitVec.toNat < _
      rw [← hn]
      show (BitVec.ofNat 32 (lW l + 1)).toNat < _
      rw [BitVec.toNat_ofNat, Nat.mod_eq_of_lt (by omega)]
      omega
theorem cel_cg {g : ShG} {l l2 : LkG} {n : Nat} (hT : lT l2 n = lT l n) (hF : lF l2 = lF l) : cel g l2 n = cel g l n := by
  have : agA g l2 n = agA g l n := by
    unfold agA
    have h : ∀ w, agr g l2 n w = agr g l n w := fun w => by
      induction w with
      | zero => rfl
      | succ w ih => rw [agr, agr, ih, hF]
    exact h _
  unfold cel
  rw [hT, this]
theorem cnt_flip {p q : Nat → Bool} {i : Nat} (hp : p i = false) (hq : q i = true) (he : ∀ k, k ≠ i → p k = q k) : ∀ n, i < n → cntN q n = cntN p n + 1
  | 0, h => absurd h (Nat.not_lt_zero _)
  | n + 1, h => by
    rw [cntN, cntN]
    by_cases e : i = n
    · subst e
      rw [hp, hq, cnt_cg i (fun k hk => he k (by omega))]
      simp
    · rw [cnt_flip hp hq he n (by omega), he n (fun z => e z.symm)]
      omega
theorem tri_cnt {T : Nat → Nat} {n N : Nat} (hn : n < N) (hT : T n ≤ 1) : cntN (fun m => va_up T n 1 m == 1) N = if T n = 1 then cntN (fun m => T m == 1) N else cntN (fun m => T m == 1) N + 1 := by
  by_cases e : T n = 1
  · rw [if_pos e]
    refine cnt_cg N (fun k _ => ?_)
    by_cases q : k = n
    · subst q; rw [up_eq, e]
    · rw [up_ne q]
  · rw [if_neg e]
    refine cnt_flip (i := n) ?_ ?_ (fun k q => ?_) N hn
    · rw [beq_eq_false_iff_ne]; exact e
    · rw [up_eq]; rfl
    · rw [up_ne q]
/-- the lock behind a try -/
theorem cl_try {g : ShG} {l l2 : LkG} {h h2 : Hp} {n : Nat} (hg : ShW g) (cl : CL 39 g l h) (hn : n < tot g) (hw : LkW g l2) (hF : lF l2 = lF l) (hT : lT l2 = va_up (lT l) n 1) (e1 : rI h2 39 1 = rI h 39 1) (e3 : rI h2 39 3 = nI (lA l2)) (e4 : rI h2 39 4 = lX l2) (e5 : rI h2 39 5 = lG l2) (e7 : rI h2 39 7 = nI (lO l2)) (e6 : rI h2 39 6 = nI (if lT l n = 1 then cntN (fun m => lT l m == 1) (tot g) else cntN (fun m => lT l m == 1) (tot g) + 1)) (eal : al h2 40 = al h 40) (ec : ∀ m, m < tot g → m ≠ n → rI h2 40 m = rI h 40 m) (en : rI h2 40 n = nI (if lT l n = 1 then cel g l n else cel g l n + 256)) (ef : rI h2 41 = rI h 41) : CL 39 g l2 h2 := by
  have hTn := cl.1.2.2.1 n
  obtain ⟨c1, c2, c3, c4, c5, c6, c7, c8, c9, c10, c11⟩ := cl
  refine ⟨hw, e1.trans c2, e3, e4, e5, e7, ?_, ?_, ?_, fun m hm => ?_, fun w hw2 => ?_⟩
  · rw [e6, hT, tri_cnt hn hTn]
  · show _ ≤ al h2 40; rw [eal]; exact c8
  · show al h2 40 < _; rw [eal]; exact c9
  · show rI h2 40 m = _
    by_cases q : m = n
    · subst q
      rw [en]
      have : cel g l2 m = (if lT l m = 1 then cel g l m else cel g l m + 256) := by
        have hA : agA g l2 m = agA g l m := by
          unfold agA
          have h : ∀ w, agr g l2 m w = agr g l m w := fun w => by
            induction w with
            | zero => rfl
            | succ w ih => rw [agr, agr, ih, hF]
          exact h _
        unfold cel
        rw [hT, up_eq, hA]
        split <;> omega
      rw [this]
    · rw [ec m hm q, cel_cg (l := l) (by rw [hT, up_ne q]) hF]
      exact c10 m hm
  · show rI h2 41 w = _
    rw [ef, hF]
    exact c11 w hw2
/-- the mark i leads from l back to l0 -/
def CMK (g : ShG) (i : Nat) (l0 l : LkG) (c : Nat) (h : Hp) : Prop := c ≤ 40 ∧ (rI h (44 + 3 * i) 1 = nI c ∧ rI h (44 + 3 * i) 3 = nI (lA l0) ∧ rI h (44 + 3 * i) 4 = lX l0 ∧ rI h (44 + 3 * i) 5 = lG l0 ∧ rI h (44 + 3 * i) 6 = nI (lO l0)) ∧ (∀ w, w < sW g → rI h (46 + 3 * i) w = nI (lF l0 w % 2 ^ sF g w)) ∧ (LkW g l0) ∧ ∃ nb : Nat → Nat, (∀ j, j < c → rI h (45 + 3 * i) j = nI (nb j) ∧ nb j < tot g ∧ lT l (nb j) = 1 ∧ lT l0 (nb j) = 0) ∧ (∀ j k, j < c → k < c → nb j = nb k → j = k) ∧ ∀ n, n < tot g → (∀ j, j < c → nb j ≠ n) → lT l n = lT l0 n
theorem mk_fq {g : ShG} {i c : Nat} {l0 l : LkG} {h h1 : Hp} (mk : CMK g i l0 l c h) (e1 : rI h1 (44 + 3 * i) = rI h (44 + 3 * i)) (e2 : rI h1 (45 + 3 * i) = rI h (45 + 3 * i)) (e3 : rI h1 (46 + 3 * i) = rI h (46 + 3 * i)) : CMK g i l0 l c h1 := by
  unfold CMK at *
  rw [e1, e2, e3]
  exact mk
theorem mk_T {g : ShG} {i c : Nat} {l0 l l2 : LkG} {h : Hp} (mk : CMK g i l0 l c h) (hT : ∀ n, n < tot g → lT l2 n = lT l n) : CMK g i l0 l2 c h := by
  obtain ⟨a1, a2, a3, a4, nb, b1, b2, b3⟩ := mk
  exact ⟨a1, a2, a3, a4, nb, fun j hj => ⟨(b1 j hj).1, (b1 j hj).2.1, by rw [hT _ (b1 j hj).2.1]; exact (b1 j hj).2.2.1, (b1 j hj).2.2.2⟩, b2, fun n hn q => by rw [hT n hn]; exact b3 n hn q⟩
theorem mk_old {g : ShG} {i c : Nat} {l0 l l2 : LkG} {h : Hp} {n : Nat} (mk : CMK g i l0 l c h) (hT : lT l2 = va_up (lT l) n 1) (h1 : lT l n = 1) : CMK g i l0 l2 c h := mk_T mk (fun m _ => by
  rw [hT]
  by_cases e : m = n
  · subst e; rw [up_eq, h1]
  · rw [up_ne e])
theorem mk_new {g : ShG} {i c : Nat} {l0 l l2 : LkG} {h h2 : Hp} {n : Nat} (mk : CMK g i l0 l c h) (hn : n < tot g) (hc : c < 40) (hT : lT l2 = va_up (lT l) n 1) (h0 : lT l n = 0) (e1 : ∀ j, j ≠ 1 → rI h2 (44 + 3 * i) j = rI h (44 + 3 * i) j) (e2 : rI h2 (44 + 3 * i) 1 = nI (c + 1)) (e3 : ∀ j, j ≠ c → rI h2 (45 + 3 * i) j = rI h (45 + 3 * i) j) (e4 : rI h2 (45 + 3 * i) c = nI n) (e5 : rI h2 (46 + 3 * i) = rI h (46 + 3 * i)) : CMK g i l0 l2 (c + 1) h2 := by
  obtain ⟨a1, a2, a3, a4, nb, b1, b2, b3⟩ := mk
  have hnew : ∀ j, j < c → nb j ≠ n := fun j hj q => by
    have := (b1 j hj).2.2.1
    rw [q, h0] at this
    exact absurd this (by decide)
  have hl0 : lT l0 n = 0 := by rw [← b3 n hn hnew]; exact h0
  refine ⟨by omega, ⟨e2, (e1 3 (by decide)).trans a2.2.1, (e1 4 (by decide)).trans a2.2.2.1, (e1 5 (by decide)).trans a2.2.2.2.1, (e1 6 (by decide)).trans a2.2.2.2.2⟩, fun w hw => by rw [e5]; exact a3 w hw, a4, va_up nb c n, fun j hj => ?_, fun j k hj hk q => ?_, fun m hm q => ?_⟩
  · by_cases z : j = c
    · subst z
      rw [up_eq, hT, up_eq]
      exact ⟨e4, hn, rfl, hl0⟩
    · have hb := b1 j (by omega)
      rw [up_ne z, e3 j z, hT, up_ne (hnew j (by omega))]
      exact hb
  · by_cases z : j = c <;> by_cases y : k = c
    · omega
    · subst z
      rw [up_eq, up_ne y] at q
      exact absurd q.symm (hnew k (by omega))
    · subst y
      rw [up_eq, up_ne z] at q
      exact absurd q (hnew j (by omega))
    · rw [up_ne z, up_ne y] at q
      exact b2 j k (by omega) (by omega) q
  · have hmn : m ≠ n := fun z => q c (by omega) (by rw [up_eq, z])
    rw [hT, up_ne hmn]
    exact b3 m hm (fun j hj z => q j (by omega) (by rw [up_ne (by omega)]; exact z))

/-! Bits of small numbers. -/
theorem nI_and (a b : Nat) : nI a &&& nI b = nI (a &&& b) := by
  apply Int32.toBitVec_inj.mp
  show BitVec.ofNat 32 a &&& BitVec.ofNat 32 b = BitVec.ofNat 32 (a &&& b)
  rw [BitVec.ofNat_and]
theorem nI_or (a b : Nat) : nI a ||| nI b = nI (a ||| b) := by
  apply Int32.toBitVec_inj.mp
  show BitVec.ofNat 32 a ||| BitVec.ofNat 32 b = BitVec.ofNat 32 (a ||| b)
  rw [BitVec.ofNat_or]
theorem sh31 : ∀ k, k < 32 → ((nI k &&& 31).toBitVec.smod 32).toNat = k := by decide +kernel
theorem nI_shr {a k : Nat} (ha : a < 2 ^ 31) (hk : k < 32) : nI a >>> (nI k &&& 31) = nI (a / 2 ^ k) := pk_shrN ha _ k (sh31 k hk)
theorem nI_shl {a k : Nat} (hk : k < 32) (h : a * 2 ^ k < 2 ^ 32) : nI a <<< (nI k &&& 31) = nI (a * 2 ^ k) := pk_shlN _ k (sh31 k hk) h
theorem nI_1shl {k : Nat} (hk : k < 32) : (1 : Int32) <<< (nI k &&& 31) = nI (2 ^ k) := by
  have h2 : 2 ^ k ≤ 2 ^ 31 := Nat.pow_le_pow_right (by omega) (by omega)
  have := nI_shl (a := 1) hk (by omega)
  rw [Nat.one_mul] at this
  exact this
theorem nI_low1 {a : Nat} (ha : a < 2 ^ 32) : nI a &&& 1 = nI (a % 2) := pk_andN ha 1 (by decide)
theorem nI_low8 {a : Nat} (ha : a < 2 ^ 32) : nI a &&& 255 = nI (a % 256) := pk_andN ha 8 (by decide)
theorem and_gone : ∀ x, x < 2048 → ((x &&& 1792 = 0) ↔ x < 256) := by decide +kernel
theorem and_tri : ∀ x, x < 2048 → ((x &&& 256 = 0) ↔ x / 256 % 2 = 0) := by decide +kernel
theorem or_tri : ∀ x, x < 2048 → (x ||| 256 = if x / 256 % 2 = 0 then x + 256 else x) := by decide +kernel
theorem and_ntri : ∀ x, x < 2048 → (nI x &&& (-257) = nI (if x / 256 % 2 = 0 then x else x - 256)) := by decide +kernel
theorem or_unf : ∀ x, x < 2048 → (x ||| 512 = if x / 512 % 2 = 0 then x + 512 else x) := by decide +kernel
theorem and_nunf : ∀ x, x < 2048 → (nI x &&& (-513) = nI (if x / 512 % 2 = 0 then x else x - 512)) := by decide +kernel
theorem or_wl : ∀ x, x < 256 → x ||| 1024 = x + 1024 := by decide +kernel
theorem ng_lt0 {n : Nat} {z : Int32} (hn : n < 2 ^ 31) (hz : z < 0) : z < nI n := by
  rw [Int32.lt_iff_toInt_lt] at hz ⊢
  rw [nI_toInt hn]
  have : z.toInt < 0 := hz
  omega
theorem ng_gt {n : Nat} {z : Int32} (hn : n < 2 ^ 31) (hz : z < 0) : z < nI n := ng_lt0 hn hz
theorem ng_ge {n : Nat} {z : Int32} (hn : n < 2 ^ 31) (hz : z < 0) : z ≤ nI n := Int32.le_of_lt (ng_lt0 hn hz)
theorem ng_eq {n : Nat} {z : Int32} (hn : n < 2 ^ 31) (hz : z < 0) : ¬ nI n = z := fun q => by
  have := ng_lt0 hn hz
  rw [q] at this
  exact Int32.lt_irrefl this
theorem ng_le {n : Nat} {z : Int32} (hn : n < 2 ^ 31) (hz : z < 0) : ¬ nI n ≤ z := Int32.not_le.mpr (ng_lt0 hn hz)
theorem ng_lt {n : Nat} {z : Int32} (hn : n < 2 ^ 31) (hz : z < 0) : ¬ nI n < z := fun q => ng_le hn hz (Int32.le_of_lt q)
/-- an int as a place among n -/
def ixN (x : Int32) (n : Nat) : Option Nat := if x < 0 ∨ nI n ≤ x then none else some x.toNatClampNeg
theorem ix_neg {x : Int32} {n : Nat} (h : x < 0) : ixN x n = none := if_pos (Or.inl h)
theorem ix_ge {x : Int32} {n : Nat} (h : nI n ≤ x) : ixN x n = none := if_pos (Or.inr h)
theorem ix_in {x : Int32} {n : Nat} (hn : n < 2 ^ 31) (h : ¬ x < 0) (h2 : ¬ nI n ≤ x) : ∃ j, ixN x n = some j ∧ x = nI j ∧ j < n := by
  rcases pk_ix x hn with q | q | ⟨j, hj, e⟩
  · exact absurd q h
  · exact absurd q h2
  · refine ⟨j, ?_, e, hj⟩
    rw [ixN, if_neg (fun q => q.elim h h2), e, nI_clamp (by omega)]
theorem lt_pow2 {k n : Nat} (h : n < 2 ^ k) (hk : k ≤ 31) : n < 2 ^ 31 := Nat.lt_of_lt_of_le h (Nat.pow_le_pow_right (by omega) hk)

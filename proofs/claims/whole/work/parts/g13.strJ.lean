/-! Strings, put together. -/
theorem st1_5 : ∀ j : Nat, j < 108 → Cond.eq (.elem (.field (.string "FourWheels$Tokens" 57) "java/lang/String" "value" "[B") (.int (Int32.ofNat j))) (.int (B0_1.getD j 0)) ∈ flatC (Jvm.Cond.and given_1 narrow_1) := fun j hj => by
  rcases Nat.lt_or_ge j 27 with z0 | z0
  · have h := st1_5_27 (j - 0) (by omega)
    rw [show j - 0 + 0 = j from by omega] at h; exact h
  rcases Nat.lt_or_ge j 54 with z1 | z1
  · have h := st1_5_54 (j - 27) (by omega)
    rw [show j - 27 + 27 = j from by omega] at h; exact h
  rcases Nat.lt_or_ge j 81 with z2 | z2
  · have h := st1_5_81 (j - 54) (by omega)
    rw [show j - 54 + 54 = j from by omega] at h; exact h
  have h := st1_5_108 (j - 81) (by omega)
  rw [show j - 81 + 81 = j from by omega] at h; exact h
theorem st2_5 : ∀ j : Nat, j < 83 → Cond.eq (.elem (.field (.string "FourWheelsModel" 93) "java/lang/String" "value" "[B") (.int (Int32.ofNat j))) (.int (B0_2.getD j 0)) ∈ flatC (Jvm.Cond.and given_1 narrow_1) := fun j hj => by
  rcases Nat.lt_or_ge j 28 with z0 | z0
  · have h := st2_5_28 (j - 0) (by omega)
    rw [show j - 0 + 0 = j from by omega] at h; exact h
  rcases Nat.lt_or_ge j 56 with z1 | z1
  · have h := st2_5_56 (j - 28) (by omega)
    rw [show j - 28 + 28 = j from by omega] at h; exact h
  have h := st2_5_83 (j - 56) (by omega)
  rw [show j - 56 + 56 = j from by omega] at h; exact h

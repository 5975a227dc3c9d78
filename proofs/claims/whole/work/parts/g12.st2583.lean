/-! Strings. -/
theorem st2_5_83 : ∀ j : Nat, j < 27 → Cond.eq (.elem (.field (.string "FourWheelsModel" 93) "java/lang/String" "value" "[B") (.int (Int32.ofNat (j + 56)))) (.int (B0_2.getD (j + 56) 0)) ∈ flatC (Jvm.Cond.and given_1 narrow_1) := by decide +kernel

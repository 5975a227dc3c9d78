/-! Strings. -/
theorem st1_5_27 : ∀ j : Nat, j < 27 → Cond.eq (.elem (.field (.string "FourWheels$Tokens" 57) "java/lang/String" "value" "[B") (.int (Int32.ofNat (j + 0)))) (.int (B0_1.getD (j + 0) 0)) ∈ flatC (Jvm.Cond.and given_1 narrow_1) := by decide +kernel

/-! Strings. -/
theorem st2_5_28 : ∀ j : Nat, j < 28 → Cond.eq (.elem (.field (.string "FourWheelsModel" 93) "java/lang/String" "value" "[B") (.int (Int32.ofNat (j + 0)))) (.int (B0_2.getD (j + 0) 0)) ∈ flatC (Jvm.Cond.and given_1 narrow_1) := by decide +kernel

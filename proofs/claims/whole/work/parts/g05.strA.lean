/-! Strings, first part. -/
theorem st0_1 : Cond.exactly (.string "FourWheels$Tokens" 49) "java/lang/String" ∈ flatC (Jvm.Cond.and given_1 narrow_1) := by decide +kernel
theorem st0_2 : Cond.eq (.field (.string "FourWheels$Tokens" 49) "java/lang/String" "coder" "B") (.int 0) ∈ flatC (Jvm.Cond.and given_1 narrow_1) := by decide +kernel
theorem st0_3 : Cond.arrayOf (.field (.string "FourWheels$Tokens" 49) "java/lang/String" "value" "[B") .byte ∈ flatC (Jvm.Cond.and given_1 narrow_1) := by decide +kernel
theorem st0_4 : Cond.eq (.length (.field (.string "FourWheels$Tokens" 49) "java/lang/String" "value" "[B")) (.int (Int32.ofNat 12)) ∈ flatC (Jvm.Cond.and given_1 narrow_1) := by decide +kernel
theorem st0_5 : ∀ j : Nat, j < 12 → Cond.eq (.elem (.field (.string "FourWheels$Tokens" 49) "java/lang/String" "value" "[B") (.int (Int32.ofNat j))) (.int (B0_0.getD j 0)) ∈ flatC (Jvm.Cond.and given_1 narrow_1) := by decide +kernel
theorem st0_6 : Cond.stringRef "FourWheels$Tokens" 49 (snT 0) ∈ lw_tbl := List.mem_of_getElem? (i := 674) (by decide +kernel)
theorem st1_1 : Cond.exactly (.string "FourWheels$Tokens" 57) "java/lang/String" ∈ flatC (Jvm.Cond.and given_1 narrow_1) := by decide +kernel
theorem st1_2 : Cond.eq (.field (.string "FourWheels$Tokens" 57) "java/lang/String" "coder" "B") (.int 0) ∈ flatC (Jvm.Cond.and given_1 narrow_1) := by decide +kernel
theorem st1_3 : Cond.arrayOf (.field (.string "FourWheels$Tokens" 57) "java/lang/String" "value" "[B") .byte ∈ flatC (Jvm.Cond.and given_1 narrow_1) := by decide +kernel
theorem st1_4 : Cond.eq (.length (.field (.string "FourWheels$Tokens" 57) "java/lang/String" "value" "[B")) (.int (Int32.ofNat 108)) ∈ flatC (Jvm.Cond.and given_1 narrow_1) := by decide +kernel
theorem st1_6 : Cond.stringRef "FourWheels$Tokens" 57 (snT 1) ∈ lw_tbl := List.mem_of_getElem? (i := 622) (by decide +kernel)
theorem st2_1 : Cond.exactly (.string "FourWheelsModel" 93) "java/lang/String" ∈ flatC (Jvm.Cond.and given_1 narrow_1) := by decide +kernel
theorem st2_2 : Cond.eq (.field (.string "FourWheelsModel" 93) "java/lang/String" "coder" "B") (.int 0) ∈ flatC (Jvm.Cond.and given_1 narrow_1) := by decide +kernel
theorem st2_3 : Cond.arrayOf (.field (.string "FourWheelsModel" 93) "java/lang/String" "value" "[B") .byte ∈ flatC (Jvm.Cond.and given_1 narrow_1) := by decide +kernel
theorem st2_4 : Cond.eq (.length (.field (.string "FourWheelsModel" 93) "java/lang/String" "value" "[B")) (.int (Int32.ofNat 83)) ∈ flatC (Jvm.Cond.and given_1 narrow_1) := by decide +kernel
theorem st2_6 : Cond.stringRef "FourWheelsModel" 93 (snT 2) ∈ lw_tbl := List.mem_of_getElem? (i := 1578) (by decide +kernel)
theorem st3_1 : Cond.exactly (.string "FourWheelsModel" 131) "java/lang/String" ∈ flatC (Jvm.Cond.and given_1 narrow_1) := by decide +kernel
theorem st3_2 : Cond.eq (.field (.string "FourWheelsModel" 131) "java/lang/String" "coder" "B") (.int 0) ∈ flatC (Jvm.Cond.and given_1 narrow_1) := by decide +kernel
theorem st3_3 : Cond.arrayOf (.field (.string "FourWheelsModel" 131) "java/lang/String" "value" "[B") .byte ∈ flatC (Jvm.Cond.and given_1 narrow_1) := by decide +kernel
theorem st3_4 : Cond.eq (.length (.field (.string "FourWheelsModel" 131) "java/lang/String" "value" "[B")) (.int (Int32.ofNat 12)) ∈ flatC (Jvm.Cond.and given_1 narrow_1) := by decide +kernel
theorem st3_5 : ∀ j : Nat, j < 12 → Cond.eq (.elem (.field (.string "FourWheelsModel" 131) "java/lang/String" "value" "[B") (.int (Int32.ofNat j))) (.int (B0_3.getD j 0)) ∈ flatC (Jvm.Cond.and given_1 narrow_1) := by decide +kernel
theorem st3_6 : Cond.stringRef "FourWheelsModel" 131 (snT 3) ∈ lw_tbl := List.mem_of_getElem? (i := 1584) (by decide +kernel)

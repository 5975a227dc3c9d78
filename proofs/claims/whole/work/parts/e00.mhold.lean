/-! The model: a clue is reckoned. -/
theorem bt_and : ∀ x y : Int32, b01 x → b01 y → (x + y = 2 ↔ x &&& y = 1) ∧ (0 < x + y ↔ x ||| y = 1) ∧ b01 (x &&& y) ∧ b01 (x ||| y) := by
  intro x y hx hy
  rcases hx with hx | hx <;> rcases hy with hy | hy <;> subst hx <;> subst hy <;> refine ⟨by decide, by decide, ?_, ?_⟩ <;> first | exact Or.inl (by decide) | exact Or.inr (by decide)
theorem m_between {d : Nat} {h : Hp} {c : Nat} {x y : Int32} {Q : Po} (h1 : 3000 ≤ c) (h2 : c ≤ 3007) (h67 : 3006 ≤ c → b01 x ∧ b01 y) (k : Q (.int (joinV c x y)) h) : wpC (d + 1) true 212 [.int (nI c), .int x, .int y] h Q := by
  refine go_in rfl ?_
  refine exf_go 3 (show (3002 < (nI c) → Go d true 212 74 [.int (nI c), .int x, .int y, mk_, mk_] [] h Q) ∧ (¬ (3002 < (nI c)) → Go d true 212 7 [.int (nI c), .int x, .int y, mk_, mk_] [] h Q) from ⟨fun c1 => ?_, fun c1 => ?_⟩)
  · skip
    have c1 : 3002 < c := (nI_ltI (a := 3002) (b := c) (by omega) (by omega)).mp c1
    refine exf_go 3 (show (¬ (nI c) = 3003 → Go d true 212 94 [.int (nI c), .int x, .int y, mk_, mk_] [] h Q) ∧ (¬ (¬ (nI c) = 3003) → Go d true 212 81 [.int (nI c), .int x, .int y, mk_, mk_] [] h Q) from ⟨fun c2 => ?_, fun c2 => ?_⟩)
    · skip
      have c2 : ¬ c = 3003 := fun q => c2 ((nI_eq (a := c) (b := 3003) (by omega) (by omega)).mpr q)
      refine exf_go 3 (show (¬ (nI c) = 3004 → Go d true 212 114 [.int (nI c), .int x, .int y, mk_, mk_] [] h Q) ∧ (¬ (¬ (nI c) = 3004) → Go d true 212 101 [.int (nI c), .int x, .int y, mk_, mk_] [] h Q) from ⟨fun c3 => ?_, fun c3 => ?_⟩)
      · skip
        have c3 : ¬ c = 3004 := fun q => c3 ((nI_eq (a := c) (b := 3004) (by omega) (by omega)).mpr q)
        refine exf_go 3 (show (¬ (nI c) = 3005 → Go d true 212 134 [.int (nI c), .int x, .int y, mk_, mk_] [] h Q) ∧ (¬ (¬ (nI c) = 3005) → Go d true 212 121 [.int (nI c), .int x, .int y, mk_, mk_] [] h Q) from ⟨fun c4 => ?_, fun c4 => ?_⟩)
        · skip
          have c4 : ¬ c = 3005 := fun q => c4 ((nI_eq (a := c) (b := 3005) (by omega) (by omega)).mpr q)
          refine exf_go 3 (show (¬ (nI c) = 3006 → Go d true 212 156 [.int (nI c), .int x, .int y, mk_, mk_] [] h Q) ∧ (¬ (¬ (nI c) = 3006) → Go d true 212 141 [.int (nI c), .int x, .int y, mk_, mk_] [] h Q) from ⟨fun c5 => ?_, fun c5 => ?_⟩)
          · skip
            have c5 : ¬ c = 3006 := fun q => c5 ((nI_eq (a := c) (b := 3006) (by omega) (by omega)).mpr q)
            refine exf_go 4 (show ((x + y) ≤ 0 → Go d true 212 166 [.int (nI c), .int x, .int y, mk_, mk_] [] h Q) ∧ (¬ ((x + y) ≤ 0) → Go d true 212 162 [.int (nI c), .int x, .int y, mk_, mk_] [] h Q) from ⟨fun c6 => ?_, fun c6 => ?_⟩)
            · skip
              refine exf_go 4 (show ((0 : Int32) = 0 → Go d true 212 176 [.int (nI c), .int x, .int y, .int 0, mk_] [] h Q) ∧ (¬ ((0 : Int32) = 0) → Go d true 212 172 [.int (nI c), .int x, .int y, .int 0, mk_] [] h Q) from ⟨fun c7 => ?_, fun c7 => ?_⟩)
              · skip
                refine exf_go 2 (show Q (.int 0) h from ?_)
                have hxy := bt_and x y (h67 (by omega)).1 (h67 (by omega)).2
                have e8 : x ||| y = 0 := by
                  rcases hxy.2.2.2 with z | z
                  · exact z
                  · exact absurd (hxy.2.1.mpr z) (by first | assumption | (refine Classical.not_not.mp ?_; assumption) | (refine Int32.not_le.mp ?_; assumption) | (refine Int32.not_lt.mpr ?_; assumption))
                have e9 : joinV c x y = 0 := by unfold joinV; rw [if_neg (by omega), if_neg (by omega), if_neg (by omega), if_neg (by omega), if_neg (by omega), if_neg (by omega), if_neg (by omega)]; exact e8
                rw [e9] at k; exact k
              · skip
                exact absurd (by decide) c7
            · skip
              refine exf_go 5 (show ((1 : Int32) = 0 → Go d true 212 176 [.int (nI c), .int x, .int y, .int 1, mk_] [] h Q) ∧ (¬ ((1 : Int32) = 0) → Go d true 212 172 [.int (nI c), .int x, .int y, .int 1, mk_] [] h Q) from ⟨fun c8 => ?_, fun c8 => ?_⟩)
              · skip
                exact absurd c8 (by decide)
              · skip
                refine exf_go 3 (show Q (.int 1) h from ?_)
                have hxy := bt_and x y (h67 (by omega)).1 (h67 (by omega)).2
                have e8 : x ||| y = 1 := hxy.2.1.mp (by first | assumption | (refine Classical.not_not.mp ?_; assumption) | (refine Int32.not_le.mp ?_; assumption) | (refine Int32.not_lt.mpr ?_; assumption))
                have e9 : joinV c x y = 1 := by unfold joinV; rw [if_neg (by omega), if_neg (by omega), if_neg (by omega), if_neg (by omega), if_neg (by omega), if_neg (by omega), if_neg (by omega)]; exact e8
                rw [e9] at k; exact k
          · skip
            have c5 : c = 3006 := (nI_eq (a := c) (b := 3006) (by omega) (by omega)).mp (Classical.not_not.mp c5)
            refine exf_go 5 (show (¬ (x + y) = 2 → Go d true 212 152 [.int (nI c), .int x, .int y, mk_, mk_] [] h Q) ∧ (¬ (¬ (x + y) = 2) → Go d true 212 148 [.int (nI c), .int x, .int y, mk_, mk_] [] h Q) from ⟨fun c9 => ?_, fun c9 => ?_⟩)
            · skip
              refine exf_go 5 (show ((0 : Int32) = 0 → Go d true 212 176 [.int (nI c), .int x, .int y, .int 0, mk_] [] h Q) ∧ (¬ ((0 : Int32) = 0) → Go d true 212 172 [.int (nI c), .int x, .int y, .int 0, mk_] [] h Q) from ⟨fun c10 => ?_, fun c10 => ?_⟩)
              · skip
                refine exf_go 2 (show Q (.int 0) h from ?_)
                have hxy := bt_and x y (h67 (by omega)).1 (h67 (by omega)).2
                have e8 : x &&& y = 0 := by
                  rcases hxy.2.2.1 with z | z
                  · exact z
                  · exact absurd (hxy.1.mpr z) (by first | assumption | (refine Classical.not_not.mp ?_; assumption) | (refine Int32.not_le.mp ?_; assumption) | (refine Int32.not_lt.mpr ?_; assumption))
                have e9 : joinV c x y = 0 := by unfold joinV; rw [if_neg (by omega), if_neg (by omega), if_neg (by omega), if_neg (by omega), if_neg (by omega), if_neg (by omega), if_pos (by omega)]; exact e8
                rw [e9] at k; exact k
              · skip
                exact absurd (by decide) c10
            · skip
              refine exf_go 5 (show ((1 : Int32) = 0 → Go d true 212 176 [.int (nI c), .int x, .int y, .int 1, mk_] [] h Q) ∧ (¬ ((1 : Int32) = 0) → Go d true 212 172 [.int (nI c), .int x, .int y, .int 1, mk_] [] h Q) from ⟨fun c11 => ?_, fun c11 => ?_⟩)
              · skip
                exact absurd c11 (by decide)
              · skip
                refine exf_go 3 (show Q (.int 1) h from ?_)
                have hxy := bt_and x y (h67 (by omega)).1 (h67 (by omega)).2
                have e8 : x &&& y = 1 := hxy.1.mp (by first | assumption | (refine Classical.not_not.mp ?_; assumption) | (refine Int32.not_le.mp ?_; assumption) | (refine Int32.not_lt.mpr ?_; assumption))
                have e9 : joinV c x y = 1 := by unfold joinV; rw [if_neg (by omega), if_neg (by omega), if_neg (by omega), if_neg (by omega), if_neg (by omega), if_neg (by omega), if_pos (by omega)]; exact e8
                rw [e9] at k; exact k
        · skip
          have c4 : c = 3005 := (nI_eq (a := c) (b := 3005) (by omega) (by omega)).mp (Classical.not_not.mp c4)
          refine exf_go 3 (show (x ≤ y → Go d true 212 130 [.int (nI c), .int x, .int y, mk_, mk_] [] h Q) ∧ (¬ (x ≤ y) → Go d true 212 126 [.int (nI c), .int x, .int y, mk_, mk_] [] h Q) from ⟨fun c12 => ?_, fun c12 => ?_⟩)
          · skip
            refine exf_go 5 (show ((0 : Int32) = 0 → Go d true 212 176 [.int (nI c), .int x, .int y, .int 0, mk_] [] h Q) ∧ (¬ ((0 : Int32) = 0) → Go d true 212 172 [.int (nI c), .int x, .int y, .int 0, mk_] [] h Q) from ⟨fun c13 => ?_, fun c13 => ?_⟩)
            · skip
              refine exf_go 2 (show Q (.int 0) h from ?_)
              have e9 : joinV c x y = 0 := by unfold joinV; rw [if_neg (by omega), if_neg (by omega), if_neg (by omega), if_neg (by omega), if_neg (by omega), if_pos (by omega), if_neg (by first | assumption | (refine Classical.not_not.mp ?_; assumption) | (refine Int32.not_le.mp ?_; assumption) | (refine Int32.not_lt.mpr ?_; assumption))]
              rw [e9] at k; exact k
            · skip
              exact absurd (by decide) c13
          · skip
            refine exf_go 5 (show ((1 : Int32) = 0 → Go d true 212 176 [.int (nI c), .int x, .int y, .int 1, mk_] [] h Q) ∧ (¬ ((1 : Int32) = 0) → Go d true 212 172 [.int (nI c), .int x, .int y, .int 1, mk_] [] h Q) from ⟨fun c14 => ?_, fun c14 => ?_⟩)
            · skip
              exact absurd c14 (by decide)
            · skip
              refine exf_go 3 (show Q (.int 1) h from ?_)
              have e9 : joinV c x y = 1 := by unfold joinV; rw [if_neg (by omega), if_neg (by omega), if_neg (by omega), if_neg (by omega), if_neg (by omega), if_pos (by omega), if_pos (by first | assumption | (refine Classical.not_not.mp ?_; assumption) | (refine Int32.not_le.mp ?_; assumption) | (refine Int32.not_lt.mpr ?_; assumption))]
              rw [e9] at k; exact k
      · skip
        have c3 : c = 3004 := (nI_eq (a := c) (b := 3004) (by omega) (by omega)).mp (Classical.not_not.mp c3)
        refine exf_go 3 (show (y ≤ x → Go d true 212 110 [.int (nI c), .int x, .int y, mk_, mk_] [] h Q) ∧ (¬ (y ≤ x) → Go d true 212 106 [.int (nI c), .int x, .int y, mk_, mk_] [] h Q) from ⟨fun c15 => ?_, fun c15 => ?_⟩)
        · skip
          refine exf_go 5 (show ((0 : Int32) = 0 → Go d true 212 176 [.int (nI c), .int x, .int y, .int 0, mk_] [] h Q) ∧ (¬ ((0 : Int32) = 0) → Go d true 212 172 [.int (nI c), .int x, .int y, .int 0, mk_] [] h Q) from ⟨fun c16 => ?_, fun c16 => ?_⟩)
          · skip
            refine exf_go 2 (show Q (.int 0) h from ?_)
            have e9 : joinV c x y = 0 := by unfold joinV; rw [if_neg (by omega), if_neg (by omega), if_neg (by omega), if_neg (by omega), if_pos (by omega), if_neg (by first | assumption | (refine Classical.not_not.mp ?_; assumption) | (refine Int32.not_le.mp ?_; assumption) | (refine Int32.not_lt.mpr ?_; assumption))]
            rw [e9] at k; exact k
          · skip
            exact absurd (by decide) c16
        · skip
          refine exf_go 5 (show ((1 : Int32) = 0 → Go d true 212 176 [.int (nI c), .int x, .int y, .int 1, mk_] [] h Q) ∧ (¬ ((1 : Int32) = 0) → Go d true 212 172 [.int (nI c), .int x, .int y, .int 1, mk_] [] h Q) from ⟨fun c17 => ?_, fun c17 => ?_⟩)
          · skip
            exact absurd c17 (by decide)
          · skip
            refine exf_go 3 (show Q (.int 1) h from ?_)
            have e9 : joinV c x y = 1 := by unfold joinV; rw [if_neg (by omega), if_neg (by omega), if_neg (by omega), if_neg (by omega), if_pos (by omega), if_pos (by first | assumption | (refine Classical.not_not.mp ?_; assumption) | (refine Int32.not_le.mp ?_; assumption) | (refine Int32.not_lt.mpr ?_; assumption))]
            rw [e9] at k; exact k
    · skip
      have c2 : c = 3003 := (nI_eq (a := c) (b := 3003) (by omega) (by omega)).mp (Classical.not_not.mp c2)
      refine exf_go 3 (show (¬ x = y → Go d true 212 90 [.int (nI c), .int x, .int y, mk_, mk_] [] h Q) ∧ (¬ (¬ x = y) → Go d true 212 86 [.int (nI c), .int x, .int y, mk_, mk_] [] h Q) from ⟨fun c18 => ?_, fun c18 => ?_⟩)
      · skip
        refine exf_go 5 (show ((0 : Int32) = 0 → Go d true 212 176 [.int (nI c), .int x, .int y, .int 0, mk_] [] h Q) ∧ (¬ ((0 : Int32) = 0) → Go d true 212 172 [.int (nI c), .int x, .int y, .int 0, mk_] [] h Q) from ⟨fun c19 => ?_, fun c19 => ?_⟩)
        · skip
          refine exf_go 2 (show Q (.int 0) h from ?_)
          have e9 : joinV c x y = 0 := by unfold joinV; rw [if_neg (by omega), if_neg (by omega), if_neg (by omega), if_pos (by omega), if_neg (by first | assumption | (refine Classical.not_not.mp ?_; assumption) | (refine Int32.not_le.mp ?_; assumption) | (refine Int32.not_lt.mpr ?_; assumption))]
          rw [e9] at k; exact k
        · skip
          exact absurd (by decide) c19
      · skip
        refine exf_go 5 (show ((1 : Int32) = 0 → Go d true 212 176 [.int (nI c), .int x, .int y, .int 1, mk_] [] h Q) ∧ (¬ ((1 : Int32) = 0) → Go d true 212 172 [.int (nI c), .int x, .int y, .int 1, mk_] [] h Q) from ⟨fun c20 => ?_, fun c20 => ?_⟩)
        · skip
          exact absurd c20 (by decide)
        · skip
          refine exf_go 3 (show Q (.int 1) h from ?_)
          have e9 : joinV c x y = 1 := by unfold joinV; rw [if_neg (by omega), if_neg (by omega), if_neg (by omega), if_pos (by omega), if_pos (by first | assumption | (refine Classical.not_not.mp ?_; assumption) | (refine Int32.not_le.mp ?_; assumption) | (refine Int32.not_lt.mpr ?_; assumption))]
          rw [e9] at k; exact k
  · skip
    have c1 : ¬ 3002 < c := fun q => c1 ((nI_ltI (a := 3002) (b := c) (by omega) (by omega)).mpr q)
    refine exf_go 3 (show (¬ (nI c) = 3000 → Go d true 212 22 [.int (nI c), .int x, .int y, mk_, mk_] [] h Q) ∧ (¬ (¬ (nI c) = 3000) → Go d true 212 14 [.int (nI c), .int x, .int y, mk_, mk_] [] h Q) from ⟨fun c21 => ?_, fun c21 => ?_⟩)
    · skip
      have c21 : ¬ c = 3000 := fun q => c21 ((nI_eq (a := c) (b := 3000) (by omega) (by omega)).mpr q)
      refine exf_go 3 (show (¬ (nI c) = 3001 → Go d true 212 37 [.int (nI c), .int x, .int y, mk_, mk_] [] h Q) ∧ (¬ (¬ (nI c) = 3001) → Go d true 212 29 [.int (nI c), .int x, .int y, mk_, mk_] [] h Q) from ⟨fun c22 => ?_, fun c22 => ?_⟩)
      · skip
        have c22 : ¬ c = 3001 := fun q => c22 ((nI_eq (a := c) (b := 3001) (by omega) (by omega)).mpr q)
        refine exf_go 10 (show ((lg_cmp (x.toInt64 * y.toInt64) 1000000) ≤ 0 → Go d true 212 57 [.int (nI c), .int x, .int y, .long (x.toInt64 * y.toInt64), mk_] [] h Q) ∧ (¬ ((lg_cmp (x.toInt64 * y.toInt64) 1000000) ≤ 0) → Go d true 212 51 [.int (nI c), .int x, .int y, .long (x.toInt64 * y.toInt64), mk_] [] h Q) from ⟨fun c23 => ?_, fun c23 => ?_⟩)
        · skip
          have c23 : (x.toInt64 * y.toInt64) ≤ 1000000 := (lg_cmp_le _ _).mp c23
          refine exf_go 4 (show (0 ≤ (lg_cmp (x.toInt64 * y.toInt64) (-1000000)) → Go d true 212 71 [.int (nI c), .int x, .int y, .long (x.toInt64 * y.toInt64), mk_] [] h Q) ∧ (¬ (0 ≤ (lg_cmp (x.toInt64 * y.toInt64) (-1000000))) → Go d true 212 65 [.int (nI c), .int x, .int y, .long (x.toInt64 * y.toInt64), mk_] [] h Q) from ⟨fun c24 => ?_, fun c24 => ?_⟩)
          · skip
            have c24 : ((-1000000) : Int64) ≤ (x.toInt64 * y.toInt64) := (lg_cmp_ge _ _).mp c24
            refine exf_go 3 (show Q (.int ((x.toInt64 * y.toInt64).toInt32)) h from ?_)
            have e9 : joinV c x y = kpt (x.toInt64 * y.toInt64) := by unfold joinV; rw [if_neg (by omega), if_neg (by omega), if_pos (by omega)]
            rw [e9] at k
            unfold kpt at k
            rw [if_neg (by first | assumption | (refine Int64.not_lt.mpr ?_; assumption) | (refine Int64.not_le.mp ?_; assumption)), if_neg (by first | assumption | (refine Int64.not_lt.mpr ?_; assumption) | (refine Int64.not_le.mp ?_; assumption))] at k; exact k
          · skip
            have c24 : ¬ (((-1000000) : Int64) ≤ (x.toInt64 * y.toInt64)) := fun q => c24 ((lg_cmp_ge _ _).mpr q)
            refine exf_go 3 (show Go d true 212 73 [.int (nI c), .int x, .int y, .long (x.toInt64 * y.toInt64), mk_] [.int (((-1000000) : Int64).toInt32)] h Q from ?_)
            rw [show (((-1000000) : Int64).toInt32 : Int32) = (-1000000) from by decide]
            refine exf_go 1 (show Q (.int (-1000000)) h from ?_)
            have e9 : joinV c x y = kpt (x.toInt64 * y.toInt64) := by unfold joinV; rw [if_neg (by omega), if_neg (by omega), if_pos (by omega)]
            rw [e9] at k
            unfold kpt at k
            rw [if_neg (by first | assumption | (refine Int64.not_lt.mpr ?_; assumption) | (refine Int64.not_le.mp ?_; assumption)), if_pos (by first | assumption | (refine Int64.not_lt.mpr ?_; assumption) | (refine Int64.not_le.mp ?_; assumption))] at k; exact k
        · skip
          have c23 : ¬ ((x.toInt64 * y.toInt64) ≤ 1000000) := fun q => c23 ((lg_cmp_le _ _).mpr q)
          refine exf_go 3 (show Go d true 212 73 [.int (nI c), .int x, .int y, .long (x.toInt64 * y.toInt64), mk_] [.int ((1000000 : Int64).toInt32)] h Q from ?_)
          rw [show ((1000000 : Int64).toInt32 : Int32) = 1000000 from by decide]
          refine exf_go 1 (show Q (.int 1000000) h from ?_)
          have e9 : joinV c x y = kpt (x.toInt64 * y.toInt64) := by unfold joinV; rw [if_neg (by omega), if_neg (by omega), if_pos (by omega)]
          rw [e9] at k
          unfold kpt at k
          rw [if_pos (by first | assumption | (refine Int64.not_lt.mpr ?_; assumption) | (refine Int64.not_le.mp ?_; assumption))] at k; exact k
      · skip
        have c22 : c = 3001 := (nI_eq (a := c) (b := 3001) (by omega) (by omega)).mp (Classical.not_not.mp c22)
        refine exf_go 11 (show ((lg_cmp (x.toInt64 - y.toInt64) 1000000) ≤ 0 → Go d true 212 57 [.int (nI c), .int x, .int y, .long (x.toInt64 - y.toInt64), mk_] [] h Q) ∧ (¬ ((lg_cmp (x.toInt64 - y.toInt64) 1000000) ≤ 0) → Go d true 212 51 [.int (nI c), .int x, .int y, .long (x.toInt64 - y.toInt64), mk_] [] h Q) from ⟨fun c25 => ?_, fun c25 => ?_⟩)
        · skip
          have c25 : (x.toInt64 - y.toInt64) ≤ 1000000 := (lg_cmp_le _ _).mp c25
          refine exf_go 4 (show (0 ≤ (lg_cmp (x.toInt64 - y.toInt64) (-1000000)) → Go d true 212 71 [.int (nI c), .int x, .int y, .long (x.toInt64 - y.toInt64), mk_] [] h Q) ∧ (¬ (0 ≤ (lg_cmp (x.toInt64 - y.toInt64) (-1000000))) → Go d true 212 65 [.int (nI c), .int x, .int y, .long (x.toInt64 - y.toInt64), mk_] [] h Q) from ⟨fun c26 => ?_, fun c26 => ?_⟩)
          · skip
            have c26 : ((-1000000) : Int64) ≤ (x.toInt64 - y.toInt64) := (lg_cmp_ge _ _).mp c26
            refine exf_go 3 (show Q (.int ((x.toInt64 - y.toInt64).toInt32)) h from ?_)
            have e9 : joinV c x y = kpt (x.toInt64 - y.toInt64) := by unfold joinV; rw [if_neg (by omega), if_pos (by omega)]
            rw [e9] at k
            unfold kpt at k
            rw [if_neg (by first | assumption | (refine Int64.not_lt.mpr ?_; assumption) | (refine Int64.not_le.mp ?_; assumption)), if_neg (by first | assumption | (refine Int64.not_lt.mpr ?_; assumption) | (refine Int64.not_le.mp ?_; assumption))] at k; exact k
          · skip
            have c26 : ¬ (((-1000000) : Int64) ≤ (x.toInt64 - y.toInt64)) := fun q => c26 ((lg_cmp_ge _ _).mpr q)
            refine exf_go 3 (show Go d true 212 73 [.int (nI c), .int x, .int y, .long (x.toInt64 - y.toInt64), mk_] [.int (((-1000000) : Int64).toInt32)] h Q from ?_)
            rw [show (((-1000000) : Int64).toInt32 : Int32) = (-1000000) from by decide]
            refine exf_go 1 (show Q (.int (-1000000)) h from ?_)
            have e9 : joinV c x y = kpt (x.toInt64 - y.toInt64) := by unfold joinV; rw [if_neg (by omega), if_pos (by omega)]
            rw [e9] at k
            unfold kpt at k
            rw [if_neg (by first | assumption | (refine Int64.not_lt.mpr ?_; assumption) | (refine Int64.not_le.mp ?_; assumption)), if_pos (by first | assumption | (refine Int64.not_lt.mpr ?_; assumption) | (refine Int64.not_le.mp ?_; assumption))] at k; exact k
        · skip
          have c25 : ¬ ((x.toInt64 - y.toInt64) ≤ 1000000) := fun q => c25 ((lg_cmp_le _ _).mpr q)
          refine exf_go 3 (show Go d true 212 73 [.int (nI c), .int x, .int y, .long (x.toInt64 - y.toInt64), mk_] [.int ((1000000 : Int64).toInt32)] h Q from ?_)
          rw [show ((1000000 : Int64).toInt32 : Int32) = 1000000 from by decide]
          refine exf_go 1 (show Q (.int 1000000) h from ?_)
          have e9 : joinV c x y = kpt (x.toInt64 - y.toInt64) := by unfold joinV; rw [if_neg (by omega), if_pos (by omega)]
          rw [e9] at k
          unfold kpt at k
          rw [if_pos (by first | assumption | (refine Int64.not_lt.mpr ?_; assumption) | (refine Int64.not_le.mp ?_; assumption))] at k; exact k
    · skip
      have c21 : c = 3000 := (nI_eq (a := c) (b := 3000) (by omega) (by omega)).mp (Classical.not_not.mp c21)
      refine exf_go 11 (show ((lg_cmp (x.toInt64 + y.toInt64) 1000000) ≤ 0 → Go d true 212 57 [.int (nI c), .int x, .int y, .long (x.toInt64 + y.toInt64), mk_] [] h Q) ∧ (¬ ((lg_cmp (x.toInt64 + y.toInt64) 1000000) ≤ 0) → Go d true 212 51 [.int (nI c), .int x, .int y, .long (x.toInt64 + y.toInt64), mk_] [] h Q) from ⟨fun c27 => ?_, fun c27 => ?_⟩)
      · skip
        have c27 : (x.toInt64 + y.toInt64) ≤ 1000000 := (lg_cmp_le _ _).mp c27
        refine exf_go 4 (show (0 ≤ (lg_cmp (x.toInt64 + y.toInt64) (-1000000)) → Go d true 212 71 [.int (nI c), .int x, .int y, .long (x.toInt64 + y.toInt64), mk_] [] h Q) ∧ (¬ (0 ≤ (lg_cmp (x.toInt64 + y.toInt64) (-1000000))) → Go d true 212 65 [.int (nI c), .int x, .int y, .long (x.toInt64 + y.toInt64), mk_] [] h Q) from ⟨fun c28 => ?_, fun c28 => ?_⟩)
        · skip
          have c28 : ((-1000000) : Int64) ≤ (x.toInt64 + y.toInt64) := (lg_cmp_ge _ _).mp c28
          refine exf_go 3 (show Q (.int ((x.toInt64 + y.toInt64).toInt32)) h from ?_)
          have e9 : joinV c x y = kpt (x.toInt64 + y.toInt64) := by unfold joinV; rw [if_pos (by omega)]
          rw [e9] at k
          unfold kpt at k
          rw [if_neg (by first | assumption | (refine Int64.not_lt.mpr ?_; assumption) | (refine Int64.not_le.mp ?_; assumption)), if_neg (by first | assumption | (refine Int64.not_lt.mpr ?_; assumption) | (refine Int64.not_le.mp ?_; assumption))] at k; exact k
        · skip
          have c28 : ¬ (((-1000000) : Int64) ≤ (x.toInt64 + y.toInt64)) := fun q => c28 ((lg_cmp_ge _ _).mpr q)
          refine exf_go 3 (show Go d true 212 73 [.int (nI c), .int x, .int y, .long (x.toInt64 + y.toInt64), mk_] [.int (((-1000000) : Int64).toInt32)] h Q from ?_)
          rw [show (((-1000000) : Int64).toInt32 : Int32) = (-1000000) from by decide]
          refine exf_go 1 (show Q (.int (-1000000)) h from ?_)
          have e9 : joinV c x y = kpt (x.toInt64 + y.toInt64) := by unfold joinV; rw [if_pos (by omega)]
          rw [e9] at k
          unfold kpt at k
          rw [if_neg (by first | assumption | (refine Int64.not_lt.mpr ?_; assumption) | (refine Int64.not_le.mp ?_; assumption)), if_pos (by first | assumption | (refine Int64.not_lt.mpr ?_; assumption) | (refine Int64.not_le.mp ?_; assumption))] at k; exact k
      · skip
        have c27 : ¬ ((x.toInt64 + y.toInt64) ≤ 1000000) := fun q => c27 ((lg_cmp_le _ _).mpr q)
        refine exf_go 3 (show Go d true 212 73 [.int (nI c), .int x, .int y, .long (x.toInt64 + y.toInt64), mk_] [.int ((1000000 : Int64).toInt32)] h Q from ?_)
        rw [show ((1000000 : Int64).toInt32 : Int32) = 1000000 from by decide]
        refine exf_go 1 (show Q (.int 1000000) h from ?_)
        have e9 : joinV c x y = kpt (x.toInt64 + y.toInt64) := by unfold joinV; rw [if_pos (by omega)]
        rw [e9] at k
        unfold kpt at k
        rw [if_pos (by first | assumption | (refine Int64.not_lt.mpr ?_; assumption) | (refine Int64.not_le.mp ?_; assumption))] at k; exact k

/-! Bars stay as they must be. -/
def SB2 (g : ShG) (e : DeG) : Prop := BarW g e.1 ∧ ∀ k, k < e.2.1 → BarW g (e.2.2 k)
theorem sb_keep {g : ShG} {e : DeG} {l : LkG} (b : SB2 g e) (b3 : BarW g l) : SB2 g (keepD e l) := ⟨b3, fun k hk => by
  have hk : k < min 8 (e.2.1 + 1) := hk
  cases k with
  | zero => exact b.1
  | succ k => exact b.2 k (by omega)⟩
theorem sb_tries {g : ShG} {e : DeG} (hg : ShW g) (b : SB2 g e) (x : Int32) : SB2 g (dTries g e x).1 := by
  unfold dTries
  split
  · exact b
  · split
    · exact b
    · exact sb_keep b (BarW_try hg b.1 _)
theorem sb_feel {g : ShG} {e : DeG} (b : SB2 g e) (x y : Int32) : SB2 g (dFeel g e x y).1 := by
  unfold dFeel
  split
  · exact b
  · split
    · exact b
    · split
      · exact b
      · exact sb_keep b b.1
theorem sb_undo {g : ShG} {e : DeG} (b : SB2 g e) (x : Int32) : SB2 g (dUndo e x).1 := by
  unfold dUndo
  split
  · exact b
  · rename_i j _
    split
    · rename_i hj
      obtain ⟨u1, u2, u3⟩ := und_at e (j + 1)
      refine ⟨?_, fun k hk => ?_⟩
      · show BarW g (undD e (j + 1)).1
        rw [u3]; exact b.2 j hj
      · have hk : k < (undD e (j + 1)).2.1 := hk
        rw [u1] at hk
        show BarW g ((undD e (j + 1)).2.2 k)
        rw [u2]; exact b.2 _ (by omega)
    · exact b
theorem sb_perf {g : ShG} {e : DeG} (hg : ShW g) (b : SB2 g e) (tr : Nat → TrG) (x : Int32) : SB2 g (dPerf g e tr x).1 := by
  unfold dPerf
  split
  · exact b
  · split
    · exact b
    · show SB2 g (if _ then _ else _)
      split
      · exact sb_keep b (BarW_ev hg b.1 _)
      · exact b
theorem sb_year {g : ShG} {e : DeG} (hg : ShW g) (b : SB2 g e) (x y : Int32) : SB2 g (dYear g e x y).1 := by
  unfold dYear
  split
  · exact b
  · show SB2 g (if _ then _ else _)
    split
    · exact sb_keep b (BarW_yr hg b.1 x _)
    · exact b
theorem sb_rest {g : ShG} {e : DeG} {m : Nat → ImG} (b : SB2 g e) (bm : ∀ i, i < 2 → ∀ g l, m i = some (g, l) → BarW g l) (x : Int32) : SB2 (dRest m x g e).1.1 (dRest m x g e).1.2 := by
  unfold dRest
  split
  · exact b
  · rename_i i hi
    have h2 := (ix_sm (by decide) hi).1
    split
    · exact b
    · rename_i g2 l2 he
      exact ⟨bm i h2 g2 l2 he, fun k hk => absurd (show k < 0 from hk) (Nat.not_lt_zero _)⟩
theorem sb_img {g : ShG} {l : LkG} {m : Nat → ImG} (b : BarW g l) (bm : ∀ i, i < 2 → ∀ g l, m i = some (g, l) → BarW g l) (x : Int32) : ∀ i, i < 2 → ∀ g2 l2, (dImage m x g l).1 i = some (g2, l2) → BarW g2 l2 := by
  unfold dImage
  split
  · exact bm
  · rename_i j _
    intro i hi g2 l2 he
    have he : va_up m j (some (g, l)) i = some (g2, l2) := he
    by_cases e : i = j
    · rw [e, va_up_s] at he
      cases he
      exact b
    · rw [va_up_n e] at he
      exact bm i hi g2 l2 he
def BSy (y : LnG) : Prop := 0 < sBA (yg y) → 1 ≤ sBS (yg y)
theorem bs_ln {b : Nat → Nat} {n : Nat} {y : LnG} (h : BSy y) : BSy (rLn b n y) := by
  unfold rLn
  split
  · unfold rWh; split
    · exact h
    · split <;> exact h
  split
  · unfold rCl; split
    · exact h
    · split <;> exact h
  split
  · unfold rPu; split <;> exact h
  split
  · unfold rBa
    split
    · rename_i z
      have q := tkn_e (show qe (tkn b n 1 1000 (tkn b n 1 10 (nx (ys y)))) = 0 from z)
      have q2 := tkn_e q.2.1
      have e9 : qi (tkn b n 1 10 (nx (ys y))) = qi (ys y) + 2 := by rw [q2.1]; rfl
      have v2 := q.2.2.2.1; rw [e9] at v2
      exact fun _ => v2
    · exact h
  split
  · unfold rSa; split <;> exact h
  split
  · unfold rMt; split
    · exact h
    · split <;> exact h
  split
  · unfold rSe; split <;> exact h
  split
  · unfold rAt; split <;> exact h
  · exact h
theorem bs_en {b : Nat → Nat} {n : Nat} {y : LnG} (h : BSy y) : BSy (rEn b n y) := by unfold rEn; split <;> exact h
theorem bs_tx {b : Nat → Nat} {n : Nat} : ∀ f y, BSy y → BSy (rTx b n f y)
  | 0, _, h => h
  | f + 1, y, h => by
    rw [rTx]
    split
    · exact bs_tx f _ (bs_en (bs_ln h))
    · exact h
theorem bs_00 : BSy y00 := fun h => absurd h (by show ¬ 0 < 0; decide)
theorem sb_shed {y : LnG} (h : BSy y) (hl : Nat → LkG) : SB2 (gH (yg y) (oY y)) (l0 (ya y), 0, hl) := ⟨fun h0 => ⟨h0, h h0⟩, fun k hk => absurd (show k < 0 from hk) (Nat.not_lt_zero _)⟩
theorem c_nearest {d : Nat} {h : Hp} {g : ShG} {l : LkG} {Q : Po} (cs : CS 31 g h) (cl : CL 39 g l h) (k : Q (.int (fNearest g l)) h) : wpC (d + 5) true 134 [.ref 10] h Q := by
  refine go_in rfl ?_
  refine exf_go 2 (show wpC (d + 4) true 177 [.ref 10] h (fun r h' => Go (d + 4) true 134 4 [.ref 10] [r] h' Q) from ?_)
  refine c_nearestLeft cs cl ?_
  show Go (d + 4) true 134 4 [.ref 10] [.int (fNearest g l)] h Q
  refine exf_go 1 (show Q (.int (fNearest g l)) h from ?_)
  exact k

/-! Codes are reckoned: as numbers, and by the model. -/
def evl (wv : Nat → Int32) (code : Nat → Nat) : Nat → Nat → List Int32 → List Int32
  | 0, _, l => l
  | k + 1, a, l => if code a < 3000 then evl wv code k (a + 1) (wv (code a) :: l) else if code a = 3008 then evl wv code k (a + 1) ((1 - l.headD 0) :: l.tail) else evl wv code k (a + 1) (joinV (code a) (l.tail.headD 0) (l.headD 0) :: l.tail.tail)
theorem rok_evl {W : Nat} {wv : Nat → Int32} {code : Nat → Nat} {M : Nat} {P : List Int32 → Prop} : ∀ k a l, rok W wv code M P k a l → rok W wv code M (fun l2 => P l2 ∧ l2 = evl wv code k a l) k a l
  | 0, _, _, h => ⟨h, rfl⟩
  | k + 1, a, l, h => by
    rw [rok] at h ⊢
    rw [evl]
    rcases h with ⟨h1, h2, h3, h4⟩ | ⟨h1, x, r, h2, h3, h4⟩ | ⟨h1, y, x, r, h2, h3, h4⟩
    · rw [if_pos h1]; exact Or.inl ⟨h1, h2, h3, rok_evl k (a + 1) _ h4⟩
    · subst h2
      rw [if_neg (by omega), if_pos h1]; exact Or.inr (Or.inl ⟨h1, x, r, rfl, h3, rok_evl k (a + 1) _ h4⟩)
    · subst h2
      rw [if_neg (by omega), if_neg (by omega)]; exact Or.inr (Or.inr ⟨h1, y, x, r, rfl, h3, rok_evl k (a + 1) _ h4⟩)
/-- the words' values for a number -/
def alk (f : Nat → Nat) (W : Nat) : Nat := sumN (fun w => cntN (fun v => f v == f w) w) W
def hsN (f : Nat → Nat) (x : Nat) : Nat → Nat
  | 0 => 0
  | w + 1 => if f w = x then 1 else hsN f x w
def wvN (W : Nat) (f : Nat → Nat) (nn c : Nat) : Nat := if c < 1000 then c else if c < 1010 then f (c - 1000) else if c = 1010 then sumN f W else if c = 1011 then alk f W else if c = 1012 then nn else hsN f (c - 2000) W
def wvI (W : Nat) (f : Nat → Nat) (nn c : Nat) : Int32 := nI (wvN W f nn c)
theorem hs_b (f : Nat → Nat) (x : Nat) : ∀ W, hsN f x W ≤ 1
  | 0 => Nat.zero_le _
  | w + 1 => by rw [hsN]; split; exact Nat.le_refl _; exact hs_b f x w
theorem alk_b (f : Nat → Nat) {W : Nat} (h : W ≤ 4) : alk f W ≤ 16 := by
  have h1 : alk f W ≤ W * 4 := sumN_le _ (fun k hk => Nat.le_trans (cntN_le _ _) (by omega))
  omega
/-- a stack that lies in the row a, its top last -/
def SK (a : Nat) : List Int32 → Hp → Prop
  | [], _ => True
  | x :: r, h => rI h a r.length = x ∧ SK a r h
theorem sk_up {a i : Nat} {v : Int32} {h : Hp} : ∀ l, l.length ≤ i → SK a l h → SK a l (uI h a i v)
  | [], _, _ => trivial
  | x :: r, hi, s => ⟨by have hi : r.length + 1 ≤ i := hi; rw [rI_uI_at (by omega)]; exact s.1, sk_up r (by have hi : r.length + 1 ≤ i := hi; omega) s.2⟩
theorem sk_fr {a : Nat} {h h1 : Hp} (e : ∀ i, rI h1 a i = rI h a i) : ∀ l, SK a l h → SK a l h1
  | [], _ => trivial
  | x :: r, s => ⟨(e r.length).trans s.1, sk_fr e r s.2⟩
/-- the model's row of figures -/
def FG (f : Nat → Nat) (W : Nat) (h : Hp) : Prop := (W ≤ 4 ∧ ∀ w, f w < 10) ∧ rI h 134 1 = nI W ∧ ∀ w, w < W → rI h 135 w = nI (f w)
theorem m_wordOf {d : Nat} {h : Hp} {f : Nat → Nat} {W c nn : Nat} {Q : Po} (fg : FG f W h) (hc : wok W c) (hnn : nn < 2 ^ 31) (k : Q (.int (nI (wvN W f nn c))) h) : wpC (d + 1) true 211 [.ref 130, .int (nI c), .int (nI nn)] h Q := by
  have hW4 := fg.1.1
  unfold wok at hc
  refine go_in rfl ?_
  refine exf_go 3 (show (1000 ≤ (nI c) → Go d true 211 9 [.ref 130, .int (nI c), .int (nI nn), mk_, mk_, mk_, mk_, mk_] [] h Q) ∧ (¬ (1000 ≤ (nI c)) → Go d true 211 7 [.ref 130, .int (nI c), .int (nI nn), mk_, mk_, mk_, mk_, mk_] [] h Q) from ⟨fun c1 => ?_, fun c1 => ?_⟩)
  · skip
    have c1 : 1000 ≤ c := (nI_leI (a := 1000) (b := c) (by omega) (by omega)).mp c1
    refine exf_go 3 (show (1010 ≤ (nI c) → Go d true 211 27 [.ref 130, .int (nI c), .int (nI nn), mk_, mk_, mk_, mk_, mk_] [] h Q) ∧ (¬ (1010 ≤ (nI c)) → Go d true 211 16 [.ref 130, .int (nI c), .int (nI nn), mk_, mk_, mk_, mk_, mk_] [] h Q) from ⟨fun c2 => ?_, fun c2 => ?_⟩)
    · skip
      have c2 : 1010 ≤ c := (nI_leI (a := 1010) (b := c) (by omega) (by omega)).mp c2
      refine exf_go 8 (show Go d true 211 38 [.ref 130, .int (nI c), .int (nI nn), .int 0, .int 0, .int 0, .int 0, mk_] [] h Q from ?_)
      have L38 : ∀ (k38 : Nat) (z7 : Value) (u : Int32) (w : Nat), (W - w) < k38 → (w ≤ W) → (sumN f w ≤ 40) → (alk f w ≤ 16) → (2000 ≤ c → u = nI (hsN f (c - 2000) w)) → Go d true 211 38 [.ref 130, .int (nI c), .int (nI nn), .int (nI (sumN f w)), .int (nI (alk f w)), .int u, .int (nI w), z7] [] h Q := by
        intro k38
        induction k38 with
        | zero => intro z7 u w hk; exact absurd hk (Nat.not_lt_zero _)
        | succ k38 ih38 =>
          intro z7 u w hk hw hsb hab hu
          have hhb := hs_b f (c - 2000) w
          refine exf_go 5 (show vp_in 1 13841 ∧ (Go d true 211 46 [.ref 130, .int (nI c), .int (nI nn), .int (nI (sumN f w)), .int (nI (alk f w)), .int u, .int (nI w), z7] [.int (rI h 134 1), .int (nI w)] h Q) from ⟨(vp_in_nI (n := 1) (by decide) (by decide)), ?_⟩)
          rw [show (rI h 134 1 : Int32) = nI W from fg.2.1]
          refine exf_go 1 (show ((nI W) ≤ (nI w) → Go d true 211 131 [.ref 130, .int (nI c), .int (nI nn), .int (nI (sumN f w)), .int (nI (alk f w)), .int u, .int (nI w), z7] [] h Q) ∧ (¬ ((nI W) ≤ (nI w)) → Go d true 211 49 [.ref 130, .int (nI c), .int (nI nn), .int (nI (sumN f w)), .int (nI (alk f w)), .int u, .int (nI w), z7] [] h Q) from ⟨fun c3 => ?_, fun c3 => ?_⟩)
          · skip
            have c3 : W ≤ w := (nI_leI (a := W) (b := w) (by omega) (by omega)).mp c3
            refine exf_go 3 (show (¬ (nI c) = 1010 → Go d true 211 142 [.ref 130, .int (nI c), .int (nI nn), .int (nI (sumN f w)), .int (nI (alk f w)), .int u, .int (nI w), z7] [] h Q) ∧ (¬ (¬ (nI c) = 1010) → Go d true 211 138 [.ref 130, .int (nI c), .int (nI nn), .int (nI (sumN f w)), .int (nI (alk f w)), .int u, .int (nI w), z7] [] h Q) from ⟨fun c4 => ?_, fun c4 => ?_⟩)
            · skip
              have c4 : ¬ c = 1010 := fun q => c4 ((nI_eq (a := c) (b := 1010) (by omega) (by omega)).mpr q)
              refine exf_go 3 (show (¬ (nI c) = 1011 → Go d true 211 154 [.ref 130, .int (nI c), .int (nI nn), .int (nI (sumN f w)), .int (nI (alk f w)), .int u, .int (nI w), z7] [] h Q) ∧ (¬ (¬ (nI c) = 1011) → Go d true 211 149 [.ref 130, .int (nI c), .int (nI nn), .int (nI (sumN f w)), .int (nI (alk f w)), .int u, .int (nI w), z7] [] h Q) from ⟨fun c5 => ?_, fun c5 => ?_⟩)
              · skip
                have c5 : ¬ c = 1011 := fun q => c5 ((nI_eq (a := c) (b := 1011) (by omega) (by omega)).mpr q)
                refine exf_go 3 (show (¬ (nI c) = 1012 → Go d true 211 165 [.ref 130, .int (nI c), .int (nI nn), .int (nI (sumN f w)), .int (nI (alk f w)), .int u, .int (nI w), z7] [] h Q) ∧ (¬ (¬ (nI c) = 1012) → Go d true 211 161 [.ref 130, .int (nI c), .int (nI nn), .int (nI (sumN f w)), .int (nI (alk f w)), .int u, .int (nI w), z7] [] h Q) from ⟨fun c6 => ?_, fun c6 => ?_⟩)
                · skip
                  have c6 : ¬ c = 1012 := fun q => c6 ((nI_eq (a := c) (b := 1012) (by omega) (by omega)).mpr q)
                  refine exf_go 2 (show Q (.int u) h from ?_)
                  rw [hu (by omega)]
                  have hww : w = W := by omega
                  subst hww
                  have e9 : wvN w f nn c = hsN f (c - 2000) w := by unfold wvN; rw [if_neg (by omega), if_neg (by omega), if_neg (by omega), if_neg (by omega), if_neg (by omega)]
                  rw [e9] at k; exact k
                · skip
                  have c6 : c = 1012 := (nI_eq (a := c) (b := 1012) (by omega) (by omega)).mp (Classical.not_not.mp c6)
                  refine exf_go 3 (show Q (.int (nI nn)) h from ?_)
                  have hww : w = W := by omega
                  subst hww
                  have e9 : wvN w f nn c = nn := by unfold wvN; rw [if_neg (by omega), if_neg (by omega), if_neg (by omega), if_neg (by omega), if_pos (by omega)]
                  rw [e9] at k; exact k
              · skip
                have c5 : c = 1011 := (nI_eq (a := c) (b := 1011) (by omega) (by omega)).mp (Classical.not_not.mp c5)
                refine exf_go 3 (show Q (.int (nI (alk f w))) h from ?_)
                have hww : w = W := by omega
                subst hww
                have e9 : wvN w f nn c = alk f w := by unfold wvN; rw [if_neg (by omega), if_neg (by omega), if_neg (by omega), if_pos (by omega)]
                rw [e9] at k; exact k
            · skip
              have c4 : c = 1010 := (nI_eq (a := c) (b := 1010) (by omega) (by omega)).mp (Classical.not_not.mp c4)
              refine exf_go 3 (show Q (.int (nI (sumN f w))) h from ?_)
              have hww : w = W := by omega
              subst hww
              have e9 : wvN w f nn c = sumN f w := by unfold wvN; rw [if_neg (by omega), if_neg (by omega), if_pos (by omega)]
              rw [e9] at k; exact k
          · skip
            have c3 : ¬ W ≤ w := fun q => c3 ((nI_leI (a := W) (b := w) (by omega) (by omega)).mpr q)
            refine exf_go 5 (show vp_in (nI w) 4 ∧ (Go d true 211 57 [.ref 130, .int (nI c), .int (nI nn), .int (nI (sumN f w)), .int (nI (alk f w)), .int u, .int (nI w), z7] [.int (rI h 135 ((nI w).toNatClampNeg)), .int (nI (sumN f w))] h Q) from ⟨(vp_in_nI (by omega) (by omega)), ?_⟩)
            rw [show (rI h 135 ((nI w).toNatClampNeg) : Int32) = nI (f w) from by rw [nI_clamp (by omega)]; exact fg.2.2 _ (by omega)]
            have hfb := fg.1.2 w
            refine exf_go 1 (show Go d true 211 58 [.ref 130, .int (nI c), .int (nI nn), .int (nI (sumN f w)), .int (nI (alk f w)), .int u, .int (nI w), z7] [.int ((nI (sumN f w)) + (nI (f w)))] h Q from ?_)
            rw [show ((nI (sumN f w)) + (nI (f w)) : Int32) = nI (sumN f (w + 1)) from nI_add _ _]
            refine exf_go 5 (show vp_in (nI w) 4 ∧ (Go d true 211 66 [.ref 130, .int (nI c), .int (nI nn), .int (nI (sumN f (w + 1))), .int (nI (alk f w)), .int u, .int (nI w), z7] [.int (rI h 135 ((nI w).toNatClampNeg))] h Q) from ⟨(vp_in_nI (by omega) (by omega)), ?_⟩)
            rw [show (rI h 135 ((nI w).toNatClampNeg) : Int32) = nI (f w) from by rw [nI_clamp (by omega)]; exact fg.2.2 _ (by omega)]
            have hfb := fg.1.2 w
            refine exf_go 4 (show (¬ (nI (f w)) = ((nI c) - 2000) → Go d true 211 78 [.ref 130, .int (nI c), .int (nI nn), .int (nI (sumN f (w + 1))), .int (nI (alk f w)), .int u, .int (nI w), z7] [] h Q) ∧ (¬ (¬ (nI (f w)) = ((nI c) - 2000)) → Go d true 211 74 [.ref 130, .int (nI c), .int (nI nn), .int (nI (sumN f (w + 1))), .int (nI (alk f w)), .int u, .int (nI w), z7] [] h Q) from ⟨fun c7 => ?_, fun c7 => ?_⟩)
            · skip
              have hh2 : 2000 ≤ c → u = nI (hsN f (c - 2000) (w + 1)) := fun h0 => by rw [hsN, if_neg (fun z => c7 (by rw [z]; exact (pk_sub (a := c) (b := 2000) h0).symm))]; exact hu h0
              refine exf_go 4 (show Go d true 211 85 [.ref 130, .int (nI c), .int (nI nn), .int (nI (sumN f (w + 1))), .int (nI (alk f w)), .int u, .int (nI w), .int 0] [] h Q from ?_)
              have L85 : ∀ (k85 : Nat) (u2 : Int32) (v : Nat), (w - v) < k85 → (v ≤ w) → (2000 ≤ c → u2 = nI (hsN f (c - 2000) (w + 1))) → Go d true 211 85 [.ref 130, .int (nI c), .int (nI nn), .int (nI (sumN f (w + 1))), .int (nI (alk f w + cntN (fun v => f v == f w) v)), .int u2, .int (nI w), .int (nI v)] [] h Q := by
                intro k85
                induction k85 with
                | zero => intro u2 v hk; exact absurd hk (Nat.not_lt_zero _)
                | succ k85 ih85 =>
                  intro u2 v hk hv hu2
                  have hcb := cntN_le (fun v => f v == f w) v
                  refine exf_go 3 (show ((nI w) ≤ (nI v) → Go d true 211 125 [.ref 130, .int (nI c), .int (nI nn), .int (nI (sumN f (w + 1))), .int (nI (alk f w + cntN (fun v => f v == f w) v)), .int u2, .int (nI w), .int (nI v)] [] h Q) ∧ (¬ ((nI w) ≤ (nI v)) → Go d true 211 92 [.ref 130, .int (nI c), .int (nI nn), .int (nI (sumN f (w + 1))), .int (nI (alk f w + cntN (fun v => f v == f w) v)), .int u2, .int (nI w), .int (nI v)] [] h Q) from ⟨fun c8 => ?_, fun c8 => ?_⟩)
                  · skip
                    have c8 : w ≤ v := (nI_leI (a := w) (b := v) (by omega) (by omega)).mp c8
                    refine exf_go 1 (show Go d true 211 128 [.ref 130, .int (nI c), .int (nI nn), .int (nI (sumN f (w + 1))), .int (nI (alk f w + cntN (fun v => f v == f w) v)), .int u2, .int ((nI w) + 1), .int (nI v)] [] h Q from ?_)
                    rw [show ((nI w) + 1 : Int32) = nI (w + 1) from nI_add w 1]
                    refine exf_go 1 (show Go d true 211 38 [.ref 130, .int (nI c), .int (nI nn), .int (nI (sumN f (w + 1))), .int (nI (alk f w + cntN (fun v => f v == f w) v)), .int u2, .int (nI (w + 1)), .int (nI v)] [] h Q from ?_)
                    have hs1 : sumN f (w + 1) ≤ 40 := by rw [sumN]; have : sumN f w ≤ w * 10 := sumN_le _ (fun k _ => Nat.le_of_lt (fg.1.2 k)); have := fg.1.2 w; omega
                    have ha1 := alk_b f (W := w + 1) (by omega)
                    rw [show alk f w + cntN (fun v => f v == f w) v = alk f (w + 1) from by rw [show v = w from by omega]; rfl]
                    exact ih38 (.int (nI v)) u2 (w + 1) (by omega) (by omega) hs1 ha1 hu2
                  · skip
                    have c8 : ¬ w ≤ v := fun q => c8 ((nI_leI (a := w) (b := v) (by omega) (by omega)).mpr q)
                    refine exf_go 5 (show vp_in (nI v) 4 ∧ (Go d true 211 101 [.ref 130, .int (nI c), .int (nI nn), .int (nI (sumN f (w + 1))), .int (nI (alk f w + cntN (fun v => f v == f w) v)), .int u2, .int (nI w), .int (nI v)] [.int (rI h 135 ((nI v).toNatClampNeg)), .int (nI (alk f w + cntN (fun v => f v == f w) v))] h Q) from ⟨(vp_in_nI (by omega) (by omega)), ?_⟩)
                    rw [show (rI h 135 ((nI v).toNatClampNeg) : Int32) = nI (f v) from by rw [nI_clamp (by omega)]; exact fg.2.2 _ (by omega)]
                    have hfb := fg.1.2 v
                    refine exf_go 4 (show vp_in (nI w) 4 ∧ (Go d true 211 108 [.ref 130, .int (nI c), .int (nI nn), .int (nI (sumN f (w + 1))), .int (nI (alk f w + cntN (fun v => f v == f w) v)), .int u2, .int (nI w), .int (nI v)] [.int (rI h 135 ((nI w).toNatClampNeg)), .int (nI (f v)), .int (nI (alk f w + cntN (fun v => f v == f w) v))] h Q) from ⟨(vp_in_nI (by omega) (by omega)), ?_⟩)
                    rw [show (rI h 135 ((nI w).toNatClampNeg) : Int32) = nI (f w) from by rw [nI_clamp (by omega)]; exact fg.2.2 _ (by omega)]
                    have hfb := fg.1.2 w
                    refine exf_go 1 (show (¬ (nI (f v)) = (nI (f w)) → Go d true 211 115 [.ref 130, .int (nI c), .int (nI nn), .int (nI (sumN f (w + 1))), .int (nI (alk f w + cntN (fun v => f v == f w) v)), .int u2, .int (nI w), .int (nI v)] [.int (nI (alk f w + cntN (fun v => f v == f w) v))] h Q) ∧ (¬ (¬ (nI (f v)) = (nI (f w))) → Go d true 211 111 [.ref 130, .int (nI c), .int (nI nn), .int (nI (sumN f (w + 1))), .int (nI (alk f w + cntN (fun v => f v == f w) v)), .int u2, .int (nI w), .int (nI v)] [.int (nI (alk f w + cntN (fun v => f v == f w) v))] h Q) from ⟨fun c9 => ?_, fun c9 => ?_⟩)
                    · skip
                      have c9 : ¬ (f v) = (f w) := fun q => c9 ((nI_eq (a := (f v)) (b := (f w)) (by omega) (by omega)).mpr q)
                      have hvw : ¬ f v = f w := by omega
                      refine exf_go 2 (show Go d true 211 117 [.ref 130, .int (nI c), .int (nI nn), .int (nI (sumN f (w + 1))), .int (nI (alk f w + cntN (fun v => f v == f w) v)), .int u2, .int (nI w), .int (nI v)] [.int ((nI (alk f w + cntN (fun v => f v == f w) v)) + 0)] h Q from ?_)
                      rw [show ((nI (alk f w + cntN (fun v => f v == f w) v)) + 0 : Int32) = nI (alk f w + cntN (fun v => f v == f w) (v + 1)) from by rw [cntN, if_neg (by simpa using hvw)]; exact nI_add _ 0]
                      refine exf_go 2 (show Go d true 211 122 [.ref 130, .int (nI c), .int (nI nn), .int (nI (sumN f (w + 1))), .int (nI (alk f w + cntN (fun v => f v == f w) (v + 1))), .int u2, .int (nI w), .int ((nI v) + 1)] [] h Q from ?_)
                      rw [show ((nI v) + 1 : Int32) = nI (v + 1) from nI_add v 1]
                      refine exf_go 1 (show Go d true 211 85 [.ref 130, .int (nI c), .int (nI nn), .int (nI (sumN f (w + 1))), .int (nI (alk f w + cntN (fun v => f v == f w) (v + 1))), .int u2, .int (nI w), .int (nI (v + 1))] [] h Q from ?_)
                      exact ih85 u2 (v + 1) (by omega) (by omega) hu2
                    · skip
                      have c9 : (f v) = (f w) := (nI_eq (a := (f v)) (b := (f w)) (by omega) (by omega)).mp (Classical.not_not.mp c9)
                      have hvw : f v = f w := by omega
                      refine exf_go 3 (show Go d true 211 117 [.ref 130, .int (nI c), .int (nI nn), .int (nI (sumN f (w + 1))), .int (nI (alk f w + cntN (fun v => f v == f w) v)), .int u2, .int (nI w), .int (nI v)] [.int ((nI (alk f w + cntN (fun v => f v == f w) v)) + 1)] h Q from ?_)
                      rw [show ((nI (alk f w + cntN (fun v => f v == f w) v)) + 1 : Int32) = nI (alk f w + cntN (fun v => f v == f w) (v + 1)) from by rw [cntN, if_pos (by simpa using hvw)]; exact nI_add _ 1]
                      refine exf_go 2 (show Go d true 211 122 [.ref 130, .int (nI c), .int (nI nn), .int (nI (sumN f (w + 1))), .int (nI (alk f w + cntN (fun v => f v == f w) (v + 1))), .int u2, .int (nI w), .int ((nI v) + 1)] [] h Q from ?_)
                      rw [show ((nI v) + 1 : Int32) = nI (v + 1) from nI_add v 1]
                      refine exf_go 1 (show Go d true 211 85 [.ref 130, .int (nI c), .int (nI nn), .int (nI (sumN f (w + 1))), .int (nI (alk f w + cntN (fun v => f v == f w) (v + 1))), .int u2, .int (nI w), .int (nI (v + 1))] [] h Q from ?_)
                      exact ih85 u2 (v + 1) (by omega) (by omega) hu2
              exact L85 (w + 1) u 0 (by omega) (by omega) hh2
            · skip
              have hh2 : 2000 ≤ c → (1 : Int32) = nI (hsN f (c - 2000) (w + 1)) := fun h0 => by
                have z := Classical.not_not.mp c7
                have e0 : nI c - 2000 = nI (c - 2000) := pk_sub (a := c) (b := 2000) h0
                rw [e0, nI_eq (by omega) (by omega)] at z
                rw [hsN, if_pos z]; rfl
              refine exf_go 5 (show Go d true 211 85 [.ref 130, .int (nI c), .int (nI nn), .int (nI (sumN f (w + 1))), .int (nI (alk f w)), .int 1, .int (nI w), .int 0] [] h Q from ?_)
              have L85 : ∀ (k85 : Nat) (u2 : Int32) (v : Nat), (w - v) < k85 → (v ≤ w) → (2000 ≤ c → u2 = nI (hsN f (c - 2000) (w + 1))) → Go d true 211 85 [.ref 130, .int (nI c), .int (nI nn), .int (nI (sumN f (w + 1))), .int (nI (alk f w + cntN (fun v => f v == f w) v)), .int u2, .int (nI w), .int (nI v)] [] h Q := by
                intro k85
                induction k85 with
                | zero => intro u2 v hk; exact absurd hk (Nat.not_lt_zero _)
                | succ k85 ih85 =>
                  intro u2 v hk hv hu2
                  have hcb := cntN_le (fun v => f v == f w) v
                  refine exf_go 3 (show ((nI w) ≤ (nI v) → Go d true 211 125 [.ref 130, .int (nI c), .int (nI nn), .int (nI (sumN f (w + 1))), .int (nI (alk f w + cntN (fun v => f v == f w) v)), .int u2, .int (nI w), .int (nI v)] [] h Q) ∧ (¬ ((nI w) ≤ (nI v)) → Go d true 211 92 [.ref 130, .int (nI c), .int (nI nn), .int (nI (sumN f (w + 1))), .int (nI (alk f w + cntN (fun v => f v == f w) v)), .int u2, .int (nI w), .int (nI v)] [] h Q) from ⟨fun c10 => ?_, fun c10 => ?_⟩)
                  · skip
                    have c10 : w ≤ v := (nI_leI (a := w) (b := v) (by omega) (by omega)).mp c10
                    refine exf_go 1 (show Go d true 211 128 [.ref 130, .int (nI c), .int (nI nn), .int (nI (sumN f (w + 1))), .int (nI (alk f w + cntN (fun v => f v == f w) v)), .int u2, .int ((nI w) + 1), .int (nI v)] [] h Q from ?_)
                    rw [show ((nI w) + 1 : Int32) = nI (w + 1) from nI_add w 1]
                    refine exf_go 1 (show Go d true 211 38 [.ref 130, .int (nI c), .int (nI nn), .int (nI (sumN f (w + 1))), .int (nI (alk f w + cntN (fun v => f v == f w) v)), .int u2, .int (nI (w + 1)), .int (nI v)] [] h Q from ?_)
                    have hs1 : sumN f (w + 1) ≤ 40 := by rw [sumN]; have : sumN f w ≤ w * 10 := sumN_le _ (fun k _ => Nat.le_of_lt (fg.1.2 k)); have := fg.1.2 w; omega
                    have ha1 := alk_b f (W := w + 1) (by omega)
                    rw [show alk f w + cntN (fun v => f v == f w) v = alk f (w + 1) from by rw [show v = w from by omega]; rfl]
                    exact ih38 (.int (nI v)) u2 (w + 1) (by omega) (by omega) hs1 ha1 hu2
                  · skip
                    have c10 : ¬ w ≤ v := fun q => c10 ((nI_leI (a := w) (b := v) (by omega) (by omega)).mpr q)
                    refine exf_go 5 (show vp_in (nI v) 4 ∧ (Go d true 211 101 [.ref 130, .int (nI c), .int (nI nn), .int (nI (sumN f (w + 1))), .int (nI (alk f w + cntN (fun v => f v == f w) v)), .int u2, .int (nI w), .int (nI v)] [.int (rI h 135 ((nI v).toNatClampNeg)), .int (nI (alk f w + cntN (fun v => f v == f w) v))] h Q) from ⟨(vp_in_nI (by omega) (by omega)), ?_⟩)
                    rw [show (rI h 135 ((nI v).toNatClampNeg) : Int32) = nI (f v) from by rw [nI_clamp (by omega)]; exact fg.2.2 _ (by omega)]
                    have hfb := fg.1.2 v
                    refine exf_go 4 (show vp_in (nI w) 4 ∧ (Go d true 211 108 [.ref 130, .int (nI c), .int (nI nn), .int (nI (sumN f (w + 1))), .int (nI (alk f w + cntN (fun v => f v == f w) v)), .int u2, .int (nI w), .int (nI v)] [.int (rI h 135 ((nI w).toNatClampNeg)), .int (nI (f v)), .int (nI (alk f w + cntN (fun v => f v == f w) v))] h Q) from ⟨(vp_in_nI (by omega) (by omega)), ?_⟩)
                    rw [show (rI h 135 ((nI w).toNatClampNeg) : Int32) = nI (f w) from by rw [nI_clamp (by omega)]; exact fg.2.2 _ (by omega)]
                    have hfb := fg.1.2 w
                    refine exf_go 1 (show (¬ (nI (f v)) = (nI (f w)) → Go d true 211 115 [.ref 130, .int (nI c), .int (nI nn), .int (nI (sumN f (w + 1))), .int (nI (alk f w + cntN (fun v => f v == f w) v)), .int u2, .int (nI w), .int (nI v)] [.int (nI (alk f w + cntN (fun v => f v == f w) v))] h Q) ∧ (¬ (¬ (nI (f v)) = (nI (f w))) → Go d true 211 111 [.ref 130, .int (nI c), .int (nI nn), .int (nI (sumN f (w + 1))), .int (nI (alk f w + cntN (fun v => f v == f w) v)), .int u2, .int (nI w), .int (nI v)] [.int (nI (alk f w + cntN (fun v => f v == f w) v))] h Q) from ⟨fun c11 => ?_, fun c11 => ?_⟩)
                    · skip
                      have c11 : ¬ (f v) = (f w) := fun q => c11 ((nI_eq (a := (f v)) (b := (f w)) (by omega) (by omega)).mpr q)
                      have hvw : ¬ f v = f w := by omega
                      refine exf_go 2 (show Go d true 211 117 [.ref 130, .int (nI c), .int (nI nn), .int (nI (sumN f (w + 1))), .int (nI (alk f w + cntN (fun v => f v == f w) v)), .int u2, .int (nI w), .int (nI v)] [.int ((nI (alk f w + cntN (fun v => f v == f w) v)) + 0)] h Q from ?_)
                      rw [show ((nI (alk f w + cntN (fun v => f v == f w) v)) + 0 : Int32) = nI (alk f w + cntN (fun v => f v == f w) (v + 1)) from by rw [cntN, if_neg (by simpa using hvw)]; exact nI_add _ 0]
                      refine exf_go 2 (show Go d true 211 122 [.ref 130, .int (nI c), .int (nI nn), .int (nI (sumN f (w + 1))), .int (nI (alk f w + cntN (fun v => f v == f w) (v + 1))), .int u2, .int (nI w), .int ((nI v) + 1)] [] h Q from ?_)
                      rw [show ((nI v) + 1 : Int32) = nI (v + 1) from nI_add v 1]
                      refine exf_go 1 (show Go d true 211 85 [.ref 130, .int (nI c), .int (nI nn), .int (nI (sumN f (w + 1))), .int (nI (alk f w + cntN (fun v => f v == f w) (v + 1))), .int u2, .int (nI w), .int (nI (v + 1))] [] h Q from ?_)
                      exact ih85 u2 (v + 1) (by omega) (by omega) hu2
                    · skip
                      have c11 : (f v) = (f w) := (nI_eq (a := (f v)) (b := (f w)) (by omega) (by omega)).mp (Classical.not_not.mp c11)
                      have hvw : f v = f w := by omega
                      refine exf_go 3 (show Go d true 211 117 [.ref 130, .int (nI c), .int (nI nn), .int (nI (sumN f (w + 1))), .int (nI (alk f w + cntN (fun v => f v == f w) v)), .int u2, .int (nI w), .int (nI v)] [.int ((nI (alk f w + cntN (fun v => f v == f w) v)) + 1)] h Q from ?_)
                      rw [show ((nI (alk f w + cntN (fun v => f v == f w) v)) + 1 : Int32) = nI (alk f w + cntN (fun v => f v == f w) (v + 1)) from by rw [cntN, if_pos (by simpa using hvw)]; exact nI_add _ 1]
                      refine exf_go 2 (show Go d true 211 122 [.ref 130, .int (nI c), .int (nI nn), .int (nI (sumN f (w + 1))), .int (nI (alk f w + cntN (fun v => f v == f w) (v + 1))), .int u2, .int (nI w), .int ((nI v) + 1)] [] h Q from ?_)
                      rw [show ((nI v) + 1 : Int32) = nI (v + 1) from nI_add v 1]
                      refine exf_go 1 (show Go d true 211 85 [.ref 130, .int (nI c), .int (nI nn), .int (nI (sumN f (w + 1))), .int (nI (alk f w + cntN (fun v => f v == f w) (v + 1))), .int u2, .int (nI w), .int (nI (v + 1))] [] h Q from ?_)
                      exact ih85 u2 (v + 1) (by omega) (by omega) hu2
              exact L85 (w + 1) 1 0 (by omega) (by omega) hh2
      exact L38 (W + 1) mk_ 0 0 (by omega) (by omega) (Nat.zero_le _) (Nat.zero_le _) (fun _ => rfl)
    · skip
      have c2 : ¬ 1010 ≤ c := fun q => c2 ((nI_leI (a := 1010) (b := c) (by omega) (by omega)).mpr q)
      refine exf_go 5 (show Go d true 211 25 [.ref 130, .int (nI c), .int (nI nn), mk_, mk_, mk_, mk_, mk_] [.int ((nI c) - 1000), .ref 135] h Q from ?_)
      rw [show ((nI c) - 1000 : Int32) = nI (c - 1000) from pk_sub (a := c) (b := 1000) (by omega)]
      refine exf_go 1 (show vp_in (nI (c - 1000)) 4 ∧ (Go d true 211 26 [.ref 130, .int (nI c), .int (nI nn), mk_, mk_, mk_, mk_, mk_] [.int (rI h 135 ((nI (c - 1000)).toNatClampNeg))] h Q) from ⟨(vp_in_nI (by omega) (by omega)), ?_⟩)
      rw [show (rI h 135 ((nI (c - 1000)).toNatClampNeg) : Int32) = nI (f (c - 1000)) from by rw [nI_clamp (by omega)]; exact fg.2.2 _ (by omega)]
      have hfb := fg.1.2 (c - 1000)
      refine exf_go 1 (show Q (.int (nI (f (c - 1000)))) h from ?_)
      have e9 : wvN W f nn c = f (c - 1000) := by unfold wvN; rw [if_neg (by omega), if_pos (by omega)]
      rw [e9] at k; exact k
  · skip
    have c1 : ¬ 1000 ≤ c := fun q => c1 ((nI_leI (a := 1000) (b := c) (by omega) (by omega)).mpr q)
    refine exf_go 2 (show Q (.int (nI c)) h from ?_)
    rw [show wvN W f nn c = c from if_pos (by omega)] at k; exact k

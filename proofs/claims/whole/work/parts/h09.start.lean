/-! The law's start. -/
theorem cnd_same (c : Bool) : (bif c then false else false) = false := by cases c <;> rfl
theorem n0_k {a k : Nat} (h : 40 ≤ k) : N0 a k = false := by
  have b0 : Nat.ble k 0 = false := ble_no (by omega)
  have b1 : Nat.ble k 1 = false := ble_no (by omega)
  have b2 : Nat.ble k 2 = false := ble_no (by omega)
  have b3 : Nat.ble k 3 = false := ble_no (by omega)
  have b4 : Nat.ble k 4 = false := ble_no (by omega)
  have b5 : Nat.ble k 5 = false := ble_no (by omega)
  have b6 : Nat.ble k 6 = false := ble_no (by omega)
  have b7 : Nat.ble k 7 = false := ble_no (by omega)
  have b8 : Nat.ble k 8 = false := ble_no (by omega)
  have b13 : Nat.ble k 13 = false := ble_no (by omega)
  have b14 : Nat.ble k 14 = false := ble_no (by omega)
  have b15 : Nat.ble k 15 = false := ble_no (by omega)
  have b16 : Nat.ble k 16 = false := ble_no (by omega)
  have b21 : Nat.ble k 21 = false := ble_no (by omega)
  have b22 : Nat.ble k 22 = false := ble_no (by omega)
  have b23 : Nat.ble k 23 = false := ble_no (by omega)
  have b24 : Nat.ble k 24 = false := ble_no (by omega)
  have b26 : Nat.ble k 26 = false := ble_no (by omega)
  have b28 : Nat.ble k 28 = false := ble_no (by omega)
  have b33 : Nat.ble k 33 = false := ble_no (by omega)
  have b34 : Nat.ble k 34 = false := ble_no (by omega)
  have b37 : Nat.ble k 37 = false := ble_no (by omega)
  simp only [N0, b0, b1, b2, b3, b4, b5, b6, b7, b8, b13, b14, b15, b16, b21, b22, b23, b24, b26, b28, b33, b34, b37, cond_false, cnd_same]
theorem n0_a {a k : Nat} (h : 152 ≤ a) : N0 a k = false := by
  have b9 : Nat.ble a 9 = false := ble_no (by omega)
  have b10 : Nat.ble a 10 = false := ble_no (by omega)
  have b11 : Nat.ble a 11 = false := ble_no (by omega)
  have b12 : Nat.ble a 12 = false := ble_no (by omega)
  have b16 : Nat.ble a 16 = false := ble_no (by omega)
  have b17 : Nat.ble a 17 = false := ble_no (by omega)
  have b22 : Nat.ble a 22 = false := ble_no (by omega)
  have b23 : Nat.ble a 23 = false := ble_no (by omega)
  have b30 : Nat.ble a 30 = false := ble_no (by omega)
  have b31 : Nat.ble a 31 = false := ble_no (by omega)
  have b38 : Nat.ble a 38 = false := ble_no (by omega)
  have b39 : Nat.ble a 39 = false := ble_no (by omega)
  have b41 : Nat.ble a 41 = false := ble_no (by omega)
  have b42 : Nat.ble a 42 = false := ble_no (by omega)
  have b43 : Nat.ble a 43 = false := ble_no (by omega)
  have b44 : Nat.ble a 44 = false := ble_no (by omega)
  have b46 : Nat.ble a 46 = false := ble_no (by omega)
  have b47 : Nat.ble a 47 = false := ble_no (by omega)
  have b49 : Nat.ble a 49 = false := ble_no (by omega)
  have b50 : Nat.ble a 50 = false := ble_no (by omega)
  have b52 : Nat.ble a 52 = false := ble_no (by omega)
  have b53 : Nat.ble a 53 = false := ble_no (by omega)
  have b55 : Nat.ble a 55 = false := ble_no (by omega)
  have b56 : Nat.ble a 56 = false := ble_no (by omega)
  have b58 : Nat.ble a 58 = false := ble_no (by omega)
  have b59 : Nat.ble a 59 = false := ble_no (by omega)
  have b61 : Nat.ble a 61 = false := ble_no (by omega)
  have b62 : Nat.ble a 62 = false := ble_no (by omega)
  have b64 : Nat.ble a 64 = false := ble_no (by omega)
  have b65 : Nat.ble a 65 = false := ble_no (by omega)
  have b67 : Nat.ble a 67 = false := ble_no (by omega)
  have b68 : Nat.ble a 68 = false := ble_no (by omega)
  have b70 : Nat.ble a 70 = false := ble_no (by omega)
  have b71 : Nat.ble a 71 = false := ble_no (by omega)
  have b77 : Nat.ble a 77 = false := ble_no (by omega)
  have b78 : Nat.ble a 78 = false := ble_no (by omega)
  have b84 : Nat.ble a 84 = false := ble_no (by omega)
  have b85 : Nat.ble a 85 = false := ble_no (by omega)
  have b86 : Nat.ble a 86 = false := ble_no (by omega)
  have b87 : Nat.ble a 87 = false := ble_no (by omega)
  have b88 : Nat.ble a 88 = false := ble_no (by omega)
  have b89 : Nat.ble a 89 = false := ble_no (by omega)
  have b90 : Nat.ble a 90 = false := ble_no (by omega)
  have b91 : Nat.ble a 91 = false := ble_no (by omega)
  have b92 : Nat.ble a 92 = false := ble_no (by omega)
  have b93 : Nat.ble a 93 = false := ble_no (by omega)
  have b94 : Nat.ble a 94 = false := ble_no (by omega)
  have b129 : Nat.ble a 129 = false := ble_no (by omega)
  have b130 : Nat.ble a 130 = false := ble_no (by omega)
  simp only [N0, b9, b10, b11, b12, b16, b17, b22, b23, b30, b31, b38, b39, b41, b42, b43, b44, b46, b47, b49, b50, b52, b53, b55, b56, b58, b59, b61, b62, b64, b65, b67, b68, b70, b71, b77, b78, b84, b85, b86, b87, b88, b89, b90, b91, b92, b93, b94, b129, b130, cond_false, cnd_same]
def HH (xs : Nat → Int32) (L : Nat) : Hp := hI130 (nwH (hI10 (nwH (h00 xs L) 10 18)) 130 38)
theorem n0_fin : ∀ a, a < 152 → ∀ k, k < 40 → N0 a k = true → (rD (HH (fun _ => 0) 0) a && rN (HH (fun _ => 0) 0) a k) = true := by decide +kernel
def H0 : Hp := HH (fun _ => 0) 0
theorem sm_HH (xs : Nat → Int32) (L : Nat) : Sm (HH xs L) H0 := shI130 (sm_nw (shI10 (sm_nw (show Sm (h00 xs L) (h00 (fun _ => 0) 0) from ⟨⟨fun a ha => (show va_up (fun _ _ => (0 : Int32)) 0 xs a = (fun _ => 0) from up_ne ha).trans (show va_up (fun _ _ => (0 : Int32)) 0 (fun _ => 0) a = (fun _ => 0) from up_ne ha).symm, fun a ha => (show va_up (fun _ => (0 : Nat)) 0 L a = 0 from up_ne ha).trans (show va_up (fun _ => (0 : Nat)) 0 0 a = 0 from up_ne ha).symm⟩, rfl, rfl⟩) 10 18)) 130 38)
theorem zr_HH (xs : Nat → Int32) (L : Nat) : rI (HH xs L) 0 = xs ∧ rL (HH xs L) 0 = L := by
  have z : Zr (h00 xs L) (HH xs L) := zhI130 (zr_nw (zhI10 (zr_nw (show Zr (h00 xs L) (h00 xs L) from ⟨rfl, rfl⟩) 10 18 (by decide))) 130 38 (by decide))
  exact ⟨z.1.trans (show va_up (fun _ _ => (0 : Int32)) 0 xs 0 = xs from up_eq), z.2.trans (show va_up (fun _ => (0 : Nat)) 0 L 0 = L from up_eq)⟩
theorem n0_all (xs : Nat → Int32) (L : Nat) : ∀ a k, N0 a k = true → rD (HH xs L) a = true ∧ rN (HH xs L) a k = true := by
  intro a k h
  have ha : a < 152 := by
    rcases Nat.lt_or_ge a 152 with z | z
    · exact z
    · rw [n0_a z] at h; exact absurd h (by decide)
  have hk : k < 40 := by
    rcases Nat.lt_or_ge k 40 with z | z
    · exact z
    · rw [n0_k z] at h; exact absurd h (by decide)
  have e := n0_fin a ha k hk h
  rw [Bool.and_eq_true] at e
  rw [(sm_HH xs L).2.1, (sm_HH xs L).2.2]
  exact e
theorem gr_b (n : Nat) : grC n ≤ 4 ∧ grS n ≤ 12320 := by unfold grC grS; repeat' split
                                                         all_goals omega
theorem wy_b (n : Nat) : wyC n ≤ 1 ∧ wyS n ≤ 26569 := by unfold wyC wyS; split <;> omega
theorem im_b (b : Bool) : imS b ≤ 1000 := by cases b <;> decide
theorem pt_b (h : Hp) : ptC h ≤ 2100 ∧ ptS h ≤ 100000 := by
  have h1 := gr_b (rL h 40); have h2 := gr_b (rL h 72); have h3 := gr_b (rL h 98); have h4 := gr_b (rL h 117); have h5 := gr_b (rL h 120); have h6 := wy_b (rL h 86); have h7 := im_b (rD h 100); have h8 := im_b (rD h 108)
  unfold ptC ptS
  omega
def s00 : LwG := (g00, (l0 0, 0, fun _ => l0 0), fun _ => none, (0, fun _ => 0), fun _ => none, 0, none)
theorem lb_00 {xs : Nat → Int32} {L : Nat} (hL : L ≤ 3072) : LB 0 0 (h00 xs L) := by
  refine ⟨fun z => ?_, fun _ _ _ => rfl, Nat.le_refl _, Nat.le_refl _⟩
  show va_up (fun _ => 0) 0 L z ≤ 50000
  by_cases e : z = 0
  · rw [e, up_eq]; omega
  · rw [up_ne e]; omega
theorem lb_HH {xs : Nat → Int32} {L : Nat} (hL : L ≤ 3072) : LB 111 128960 (HH xs L) := bhI130 (lb_nw (bhI10 (lb_nw (lb_00 hL) 10 18 (by decide) (by omega))) 130 38 (by decide) (by omega))
theorem cel_g0 : cel g00 (l0 0) 0 = 0 := by decide +kernel
theorem cnt_g0 : cntN (fun n => lT (l0 0) n == 1) (tot g00) = 0 := cnt_0 (p := fun _ => (0 : Nat) == 1) (fun _ => rfl) _
theorem wtA_g0 : wtA g00 0 = 1 := by decide +kernel
theorem tot_g0 : tot g00 = 1 := by decide +kernel
theorem h0_cs : CS 31 g00 H0 := by
  refine ⟨g00_w, by decide +kernel, by decide +kernel, by decide +kernel, by decide +kernel, by decide +kernel, by decide +kernel, by decide +kernel, by decide +kernel, by decide +kernel, by decide +kernel, by decide +kernel, fun c hc => absurd (show c < 0 from hc) (Nat.not_lt_zero _), fun m hm => ?_, fun c hc => absurd (show c < 0 from hc) (Nat.not_lt_zero _)⟩
  rw [show m = 0 from by have h9 : m < 1 := hm; omega]; decide +kernel
theorem h0_al : al H0 40 = 1 := by decide +kernel
theorem h0_cd : CD g00 (l0 0, 0, fun _ => l0 0) H0 := by
  refine ⟨⟨lk_0 (show 0 < tot g00 by rw [tot_g0]; decide), by decide +kernel, by decide +kernel, by decide +kernel, by decide +kernel, by decide +kernel, ?_, ?_, ?_, fun n hn => ?_, fun w hw => absurd (show w < 0 from hw) (Nat.not_lt_zero _)⟩, 0, by decide, Nat.zero_le _, by decide +kernel, by decide +kernel, fun k hk => absurd (show k < 0 from hk) (Nat.not_lt_zero _)⟩
  · show rI H0 39 6 = nI (cntN (fun n => lT (l0 0) n == 1) (tot g00)); rw [cnt_g0]; decide +kernel
  · show tot g00 ≤ al H0 40; rw [h0_al, tot_g0]; exact Nat.le_refl 1
  · show al H0 40 < 2 ^ 31; rw [h0_al]; decide
  · have hn : n < tot g00 := hn
    rw [tot_g0] at hn
    rw [show n = 0 from by omega]
    show rI H0 40 0 = nI (cel g00 (l0 0) 0)
    rw [cel_g0]; decide +kernel
theorem hh_ic {xs : Nat → Int32} {L : Nat} (hL : L ≤ 3072) {h1 : Hp} (q : Fq (sAt 131) (HH xs L) h1) : IC xs L s00 h1 := by
  have lb := lb_HH (xs := xs) hL
  have sm := sm_HH xs L
  have eL : rL h1 = rL (HH xs L) := congrArg (·.1) q.2
  have eN : rN h1 = rN (HH xs L) := congrArg (·.2.1) q.2
  have eD : rD h1 = rD (HH xs L) := congrArg (·.2.2.1) q.2
  have eC : rC h1 = rC (HH xs L) := congrArg (·.2.2.2.1) q.2
  have eS : rS h1 = rS (HH xs L) := congrArg (·.2.2.2.2) q.2
  have rd : ∀ a, a ≠ 0 → a ≠ 131 → rI h1 a = rI H0 a := fun a h0 h1 => (q.I (fun _ => beq_no h1)).trans (sm.1.1 a h0)
  have pb := pt_b h1
  refine ⟨⟨⟨by rw [eD]; exact lb.2.1 99 (by omega) (by omega), fun z => by rw [eL]; exact lb.1 z, fun a k e => by rw [eN]; exact (n0_all xs L a k e).2⟩, (q.I (fun _ => rfl)).trans (zr_HH xs L).1, by rw [eL]; exact (zr_HH xs L).2⟩, cs_same h0_cs (fun a u v => rd a (by omega) (by omega)), cd_same h0_cd (fun a u v => rd a (by omega) (by omega)) ?_, fun t ht => ?_, ⟨⟨Nat.zero_le _, fun _ => by show 0 < 256; decide⟩, ?_, fun i hi => absurd (show i < 0 from hi) (Nat.not_lt_zero _)⟩, fun i hi => ?_, ⟨?_, ?_⟩, by rw [eC]; have := lb.2.2.1; omega, by rw [eS]; have := lb.2.2.2; omega⟩
  · show rL h1 40 = rL H0 40; rw [eL]; exact sm.1.2 40 (by decide)
  · show rI h1 (88 + 2 * t) 2 = -1
    rw [rd _ (by omega) (by omega)]
    have h4 : ∀ t, t < 4 → rI H0 (88 + 2 * t) 2 = -1 := by decide +kernel
    exact h4 t ht
  · show rI h1 10 1 = nI 0; rw [rd 10 (by decide) (by decide)]; decide +kernel
  · have h2 : ∀ i, i < 2 → rN H0 96 i = false ∧ rN H0 97 i = false ∧ rL H0 (117 + 3 * i) = 0 := by decide +kernel
    have h3 := h2 i hi
    exact ⟨by rw [eN, sm.2.1]; exact h3.1, by rw [eN, sm.2.1]; exact h3.2.1, fun a u v => by rw [eD]; exact lb.2.1 a (by omega) (by omega), fun a u v => by rw [eD]; exact lb.2.1 a (by omega) (by omega), by rw [eL, sm.1.2 _ (by omega)]; exact h3.2.2⟩
  · show rI h1 16 0 = nI 0; rw [rd 16 (by decide) (by decide)]; decide +kernel
  · show rI h1 16 1 = -1; rw [rd 16 (by decide) (by decide)]; decide +kernel
theorem plv_0 {i : Nat} (h : 58 ≤ i) : plv i = 0 := by
  unfold plv
  rw [if_neg (by omega), if_neg (by omega), if_neg (by omega), if_neg (by omega)]
theorem hh_im {xs : Nat → Int32} {L : Nat} {h1 : Hp} (q : Fq (sAt 131) (HH xs L) h1) (pl : PL 131 h1) : IMo s00 h1 := by
  have sm := sm_HH xs L
  have rd : ∀ a, a ≠ 0 → a ≠ 131 → rI h1 a = rI H0 a := fun a h0 h1 => (q.I (fun _ => beq_no h1)).trans (sm.1.1 a h0)
  refine ⟨⟨⟨⟨g00_w, lk_0 (show 0 < tot g00 by rw [tot_g0]; decide)⟩, ⟨pl 0 (by omega), pl 1 (by omega), pl 2 (by omega), pl 3 (by omega), (pl 4 (by omega)).trans (show plv 4 = nI (tot g00) by rw [tot_g0]; rfl), pl 5 (by omega), pl 6 (by omega), pl 7 (by omega), pl 8 (by omega), pl 9 (by omega), pl 50 (by omega), pl 51 (by omega), pl 52 (by omega), pl 53 (by omega)⟩, ⟨fun w hw => absurd (show w < 0 from hw) (Nat.not_lt_zero _), fun w hw => absurd (show w < 0 from hw) (Nat.not_lt_zero _), fun w hw => absurd (show w < 0 from hw) (Nat.not_lt_zero _), fun w hw => absurd (show w < 0 from hw) (Nat.not_lt_zero _), fun w hw => absurd (show w < 0 from hw) (Nat.not_lt_zero _), fun w hw => ?_, fun n hn => ?_⟩, fun n hn => ?_⟩, pl 371 (by omega), Nat.zero_le _, fun k hk => absurd (show k < 0 from hk) (Nat.not_lt_zero _)⟩, fun t ht => ?_, ⟨⟨Nat.zero_le _, fun _ => by show 0 < 256; decide⟩, (show rI h1 130 5 = nI 0 by rw [rd 130 (by decide) (by decide)]; decide +kernel), fun i hi => absurd (show i < 0 from hi) (Nat.not_lt_zero _)⟩, fun i hi => ?_, (show rI h1 130 13 = nI 0 by rw [rd 130 (by decide) (by decide)]; decide +kernel), (show rI h1 130 14 = -1 by rw [rd 130 (by decide) (by decide)]; decide +kernel)⟩
  · rw [pl _ (by omega)]; unfold plv; rw [if_neg (by omega), if_neg (by omega), if_neg (by omega), if_pos (by omega)]; rfl
  · have hn : n < tot g00 := hn
    rw [tot_g0] at hn
    rw [pl _ (by omega), plv_0 (by omega)]; rfl
  · have hn : n < tot g00 := hn
    rw [tot_g0] at hn
    rw [pl _ (by omega), plv_0 (by omega), tbt0]; rfl
  · show rI h1 149 t = -1
    rw [rd 149 (by decide) (by decide)]
    have h4 : ∀ t, t < 4 → rI H0 149 t = -1 := by decide +kernel
    exact h4 t ht
  · show rI h1 132 i = 0
    rw [rd 132 (by decide) (by decide)]
    have h4 : ∀ i, i < 2 → rI H0 132 i = 0 := by decide +kernel
    exact h4 i hi
theorem hh_sb : SB s00 := ⟨fun h => absurd (show 0 < 0 from h) (by decide), fun k hk => absurd (show k < 0 from hk) (Nat.not_lt_zero _), fun i _ g l e => (by cases e)⟩

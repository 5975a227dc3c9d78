/-! The model: lines. -/
def MRw (g : ShG) (st en : Nat → Nat) (a ah : Nat) (h : Hp) : Prop := (rI h 134 0 = nI (sL g) ∧ rI h 134 1 = nI (sW g) ∧ rI h 134 2 = nI (sC g) ∧ rI h 134 3 = nI (sM g) ∧ rI h 134 4 = nI (tot g) ∧ rI h 134 5 = nI (sP g) ∧ rI h 134 6 = nI (sBA g) ∧ rI h 134 7 = nI (sBS g) ∧ rI h 134 8 = nI (sSw g) ∧ rI h 134 9 = oI (sO g) ∧ rI h 134 50 = nI a ∧ rI h 130 15 = nI ah) ∧ (∀ w, w < sW g → rI h 134 (10 + w) = nI (sF g w) ∧ rI h 134 (14 + w) = nI (sS g w) ∧ rI h 134 (18 + w) = nI (sR g w)) ∧ (∀ c, c < sC g → rI h 134 (22 + c) = nI (sT g c) ∧ rI h 134 (30 + c) = nI (st c) ∧ rI h 134 (38 + c) = nI (en c - st c)) ∧ (∀ m, m < sM g → rI h 134 (46 + m) = nI (sK g m)) ∧ ∀ i, 51 ≤ i → i < 2940 → rI h 134 i = if 54 ≤ i ∧ i < 58 then 1023 else 0
def MY (b : Nat → Nat) (n : Nat) (y : LnG) (h : Hp) : Prop := MP b n (ys y) h ∧ (qe (ys y) = 0 → MRw (yg y) (yb y) (ye y) (ya y) (yh y) h)
theorem sRd_lo {i : Nat} (h : i < 2940) : sRd 134 i = false := by
  unfold sRd
  rw [ble_no (x := 2940) (y := i) (by omega)]
  rfl
/-- a row that is as it was but at the places of p -/
theorem mr_cg {g : ShG} {st en : Nat → Nat} {a ah : Nat} {h h1 : Hp} (hg : ShW g) (mr : MRw g st en a ah h) (e : ∀ i, i < 2940 → rI h1 134 i = rI h 134 i) (e2 : rI h1 130 15 = rI h 130 15) : MRw g st en a ah h1 := by
  have h1' := hg.1; have h2' := hg.2.2.2.1; have h3' := hg.2.2.2.2.2.1
  obtain ⟨⟨m0, m1, m2, m3, m4, m5, m6, m7, m8, m9, m10, m11⟩, mw, mc, mm, mz⟩ := mr
  exact ⟨⟨(e 0 (by omega)).trans m0, (e 1 (by omega)).trans m1, (e 2 (by omega)).trans m2, (e 3 (by omega)).trans m3, (e 4 (by omega)).trans m4, (e 5 (by omega)).trans m5, (e 6 (by omega)).trans m6, (e 7 (by omega)).trans m7, (e 8 (by omega)).trans m8, (e 9 (by omega)).trans m9, (e 50 (by omega)).trans m10, e2.trans m11⟩, fun w hw => ⟨(e _ (by omega)).trans (mw w hw).1, (e _ (by omega)).trans (mw w hw).2.1, (e _ (by omega)).trans (mw w hw).2.2⟩, fun c hc => ⟨(e _ (by omega)).trans (mc c hc).1, (e _ (by omega)).trans (mc c hc).2.1, (e _ (by omega)).trans (mc c hc).2.2⟩, fun m hm => (e _ (by omega)).trans (mm m hm), fun i i1 i2 => (e i i2).trans (mz i i1 i2)⟩
theorem mr_rd {g : ShG} {st en : Nat → Nat} {a ah : Nat} {h h1 : Hp} (hg : ShW g) (mr : MRw g st en a ah h) (q : Fq sRd h h1) : MRw g st en a ah h1 := mr_cg hg mr (fun i hi => (q.1 134 i (sRd_lo hi)).1) (q.1 130 15 rfl).1
def sMl (a i : Nat) : Bool := (Nat.beq a 134 && Nat.ble i 2939) || (Nat.beq a 130 && Nat.beq i 15)
def sMn (a i : Nat) : Bool := sRd a i || sMl a i
theorem sRd_M (a i : Nat) (e : sMn a i = false) : sRd a i = false := (Bool.or_eq_false_iff.mp e).1
theorem sMl_M (a i : Nat) (e : sMn a i = false) : sMl a i = false := (Bool.or_eq_false_iff.mp e).2
theorem sMl_t {i : Nat} (h : i < 2940) : sMl 134 i = true := by
  unfold sMl
  rw [Nat.ble_eq.mpr (show i ≤ 2939 by omega)]
  rfl
theorem sMl_h {j : Nat} : sMl 134 (2941 + j) = false := by
  unfold sMl
  rw [ble_no (x := 2941 + j) (y := 2939) (by omega)]
  rfl
theorem mp_o {b : Nat → Nat} {n : Nat} {s : PsG} {h h1 : Hp} (mp : MP b n s h) (q : Fq sMl h h1) : MP b n s h1 := by
  obtain ⟨⟨⟨x1, x2, x3⟩, c2⟩, ⟨r1, r2, r3, r4⟩, ⟨r5, r6⟩, r7, r8⟩ := mp
  exact ⟨⟨⟨x1, (q.1 130 8 rfl).1.trans x2, fun i hi => (q.1 133 i rfl).1.trans (x3 i hi)⟩, c2⟩, ⟨(q.1 130 6 rfl).1.trans r1, (q.1 130 7 rfl).1.trans r2, (q.1 130 9 rfl).1.trans r3, fun e => (q.1 130 10 rfl).1.trans (r4 e)⟩, ⟨(q.1 130 11 rfl).1.trans r5, fun e => (q.1 130 12 rfl).1.trans (r6 e)⟩, (q.1 134 2940 rfl).1.trans r7, fun j hj => (q.1 134 (2941 + j) sMl_h).1.trans (r8 j hj)⟩
theorem rH_no {b : Nat → Nat} {n : Nat} {y : LnG} {s3 : PsG} (h4 : ¬ sW (yg y) = 4) (e : wh3 b n (ys y) = s3) (z : ¬ qe s3 = 0) : rWh b n y = (s3, y.2) := by
  subst e
  unfold rWh
  rw [if_neg h4, if_neg z]
theorem rH_ok {b : Nat → Nat} {n : Nat} {y : LnG} {s1 s2 s3 : PsG} {v r : Nat} (h4 : ¬ sW (yg y) = 4) (e1 : whA b n (ys y) = s1) (e2 : whB b n s1 = s2) (e3 : whC b n s2 = s3) (hv : whV b n s1 = v) (hr : whR b n s2 = r) (z : qe s3 = 0) : rWh b n y = (s3, gWh (yg y) (vl b n (qi (ys y) + 1)) v r, y.2.2) := by
  subst e1; subst e2; subst e3; subst hv; subst hr
  unfold rWh
  rw [if_neg h4, if_pos (show qe (wh3 b n (ys y)) = 0 from z)]
  rfl
theorem m_readWheel {d : Nat} {h : Hp} {b : Nat → Nat} {n : Nat} {s : PsG} {g : ShG} {st en : Nat → Nat} {a ah : Nat} {Q : Po} (hg : ShW g) (mp : MP b n s h) (iv : IV b n 0 s) (he : qe s = 0) (hk : kd b n (qi s) = 0) (mr : MRw g st en a ah h) (k : ∀ h1, Fq sMn h h1 → MY b n (rWh b n (s, g, st, en, a, ah)) h1 → Q mk_ h1) : wpC (d + 8) true 197 [.ref 130] h Q := by
  have hb0 := mp_b mp; have hW4 := hg.1; have hC8 := hg.2.2.2.1; have hM4 := hg.2.2.2.2.2.1; have hv0 := vl_c (n := n) (i := qi s) mp.1.1.1.2
  refine go_in rfl ?_
  refine exf_go 4 (show vp_in 1 13841 ∧ (Go (d + 7) true 197 6 [.ref 130, mk_, mk_, mk_, mk_] [.int (rI h 134 1)] h Q) from ⟨(vp_in_nI (n := 1) (by decide) (by decide)), ?_⟩)
  rw [show (rI h 134 1 : Int32) = nI (sW g) from mr.1.2.1]
  refine exf_go 4 (show (¬ (nI (sW g)) = 4 → Go (d + 7) true 197 17 [.ref 130, .int (nI (sW g)), mk_, mk_, mk_] [] h Q) ∧ (¬ (¬ (nI (sW g)) = 4) → Go (d + 7) true 197 12 [.ref 130, .int (nI (sW g)), mk_, mk_, mk_] [] h Q) from ⟨fun c1 => ?_, fun c1 => ?_⟩)
  · skip
    have c1 : ¬ (sW g) = 4 := fun q => c1 ((nI_eq (a := (sW g)) (b := 4) (by omega) (by omega)).mpr q)
    refine exf_go 2 (show Go (d + 7) true 197 21 [.ref 130, .int (nI (sW g)), mk_, mk_, mk_] [.int (rI h 130 11)] h Q from ?_)
    rw [show (rI h 130 11 : Int32) = nI (qe s) from mp.2.2.1.1]
    refine exf_go 1 (show ((nI (qe s)) = 0 → Go (d + 7) true 197 25 [.ref 130, .int (nI (sW g)), mk_, mk_, mk_] [] h Q) ∧ (¬ ((nI (qe s)) = 0) → Go (d + 7) true 197 24 [.ref 130, .int (nI (sW g)), mk_, mk_, mk_] [] h Q) from ⟨fun c2 => ?_, fun c2 => ?_⟩)
    · skip
      have c2 : (qe s) = 0 := (nI_eq (a := (qe s)) (b := 0) (by omega) (by omega)).mp c2
      refine exf_go 2 (show wpC (d + 7) true 191 [.ref 130] h (fun _ h' => Go (d + 7) true 197 29 [.ref 130, .int (nI (sW g)), mk_, mk_, mk_] [] h' Q) from ?_)
      refine m_nx mp (fun h1 q1 mp1 => ?_)
      have hb1 := mp_b mp1
      have hz1 := qe_nx s; have hi1 := qi_nx s
      have iv1 := iv_nx iv (by omega)
      show Go (d + 7) true 197 29 [.ref 130, .int (nI (sW g)), mk_, mk_, mk_] [] h1 Q
      refine exf_go 4 (show wpC (d + 7) true 195 [.ref 130, .int 2, .int 10] h1 (fun r h' => Go (d + 7) true 197 36 [.ref 130, .int (nI (sW g)), mk_, mk_, mk_] [r] h' Q) from ?_)
      refine m_takes (lo := 2) (hh := 11) mp1 (by omega) (by first | rfl | decide) (by omega) (fun h2 v2 q2 mp2 hv2 => ?_)
      have hb2 := mp_b mp2
      have iv2 := (iv_tkn (lo := 2) (hh := 11) iv1).1
      show Go (d + 7) true 197 36 [.ref 130, .int (nI (sW g)), mk_, mk_, mk_] [.int v2] h2 Q
      refine exf_go 4 (show wpC (d + 7) true 194 [.ref 130, .int 1] h2 (fun r h' => Go (d + 7) true 197 42 [.ref 130, .int (nI (sW g)), .int v2, mk_, mk_] [r] h' Q) from ?_)
      refine m_eats (k := 1) mp2 (by omega) (fun K42 h3 q3 mp3 => ?_) (fun K42 => ?_)
      · skip
        have K42e := isK_e K42
        have hb3 := mp_b mp3
        have hz3 := qe_nx (tkn b n 2 11 (nx s)); have hi3 := qi_nx (tkn b n 2 11 (nx s))
        have iv3 := iv_nx iv2 (by omega)
        have hlt3 := iv_lt iv2 (by omega)
        show Go (d + 7) true 197 42 [.ref 130, .int (nI (sW g)), .int v2, mk_, mk_] [.int 1] h3 Q
        refine exf_go 1 (show ((1 : Int32) = 0 → Go (d + 7) true 197 55 [.ref 130, .int (nI (sW g)), .int v2, mk_, mk_] [] h3 Q) ∧ (¬ ((1 : Int32) = 0) → Go (d + 7) true 197 45 [.ref 130, .int (nI (sW g)), .int v2, mk_, mk_] [] h3 Q) from ⟨fun c3 => ?_, fun c3 => ?_⟩)
        · skip
          exact absurd c3 (by decide)
        · skip
          refine exf_go 4 (show wpC (d + 7) true 195 [.ref 130, .int 1, .int 9] h3 (fun r h' => Go (d + 7) true 197 52 [.ref 130, .int (nI (sW g)), .int v2, mk_, mk_] [r] h' Q) from ?_)
          refine m_takes (lo := 1) (hh := 10) mp3 (by omega) (by first | rfl | decide) (by omega) (fun h4 v4 q4 mp4 hv4 => ?_)
          have hb4 := mp_b mp4
          have iv4 := (iv_tkn (lo := 1) (hh := 10) iv3).1
          show Go (d + 7) true 197 52 [.ref 130, .int (nI (sW g)), .int v2, mk_, mk_] [.int v4] h4 Q
          refine exf_go 5 (show wpC (d + 7) true 194 [.ref 130, .int 2] h4 (fun r h' => Go (d + 7) true 197 62 [.ref 130, .int (nI (sW g)), .int v2, .int v4, mk_] [r] h' Q) from ?_)
          refine m_eats (k := 2) mp4 (by omega) (fun K62 h5 q5 mp5 => ?_) (fun K62 => ?_)
          · skip
            have K62e := isK_e K62
            have hb5 := mp_b mp5
            have hz5 := qe_nx (tkn b n 1 10 (nx (tkn b n 2 11 (nx s)))); have hi5 := qi_nx (tkn b n 1 10 (nx (tkn b n 2 11 (nx s))))
            have iv5 := iv_nx iv4 (by omega)
            have hlt5 := iv_lt iv4 (by omega)
            show Go (d + 7) true 197 62 [.ref 130, .int (nI (sW g)), .int v2, .int v4, mk_] [.int 1] h5 Q
            refine exf_go 1 (show ((1 : Int32) = 0 → Go (d + 7) true 197 69 [.ref 130, .int (nI (sW g)), .int v2, .int v4, mk_] [] h5 Q) ∧ (¬ ((1 : Int32) = 0) → Go (d + 7) true 197 65 [.ref 130, .int (nI (sW g)), .int v2, .int v4, mk_] [] h5 Q) from ⟨fun c4 => ?_, fun c4 => ?_⟩)
            · skip
              exact absurd c4 (by decide)
            · skip
              refine exf_go 5 (show Go (d + 7) true 197 76 [.ref 130, .int (nI (sW g)), .int v2, .int v4, .int 1] [.int (rI h5 130 11)] h5 Q from ?_)
              rw [show (rI h5 130 11 : Int32) = nI (qe (nx (tkn b n 1 10 (nx (tkn b n 2 11 (nx s)))))) from mp5.2.2.1.1]
              refine exf_go 1 (show ((nI (qe (nx (tkn b n 1 10 (nx (tkn b n 2 11 (nx s))))))) = 0 → Go (d + 7) true 197 80 [.ref 130, .int (nI (sW g)), .int v2, .int v4, .int 1] [] h5 Q) ∧ (¬ ((nI (qe (nx (tkn b n 1 10 (nx (tkn b n 2 11 (nx s))))))) = 0) → Go (d + 7) true 197 79 [.ref 130, .int (nI (sW g)), .int v2, .int v4, .int 1] [] h5 Q) from ⟨fun c5 => ?_, fun c5 => ?_⟩)
              · skip
                have c5 : (qe (nx (tkn b n 1 10 (nx (tkn b n 2 11 (nx s)))))) = 0 := (nI_eq (a := (qe (nx (tkn b n 1 10 (nx (tkn b n 2 11 (nx s))))))) (b := 0) (by omega) (by omega)).mp c5
                refine exf_go 5 (show Go (d + 7) true 197 88 [.ref 130, .int (nI (sW g)), .int v2, .int v4, .int 1] [.int (10 + (nI (sW g))), .ref 134] h5 Q from ?_)
                rw [show (10 + (nI (sW g)) : Int32) = nI (10 + (sW g)) from nI_add 10 (sW g)]
                refine exf_go 7 (show vp_in (nI (10 + (sW g))) 13841 ∧ (Go (d + 7) true 197 98 [.ref 130, .int (nI (sW g)), .int v2, .int v4, .int 1] [.int (14 + (nI (sW g))), .ref 134] (uI h5 134 ((nI (10 + (sW g))).toNatClampNeg) v2) Q) from ⟨(vp_in_nI (by omega) (by omega)), ?_⟩)
                rw [show (14 + (nI (sW g)) : Int32) = nI (14 + (sW g)) from nI_add 14 (sW g)]
                refine exf_go 7 (show vp_in (nI (14 + (sW g))) 13841 ∧ (Go (d + 7) true 197 108 [.ref 130, .int (nI (sW g)), .int v2, .int v4, .int 1] [.int (18 + (nI (sW g))), .ref 134] (uI (uI h5 134 ((nI (10 + (sW g))).toNatClampNeg) v2) 134 ((nI (14 + (sW g))).toNatClampNeg) v4) Q) from ⟨(vp_in_nI (by omega) (by omega)), ?_⟩)
                rw [show (18 + (nI (sW g)) : Int32) = nI (18 + (sW g)) from nI_add 18 (sW g)]
                refine exf_go 2 (show vp_in (nI (18 + (sW g))) 13841 ∧ (Go (d + 7) true 197 111 [.ref 130, .int (nI (sW g)), .int v2, .int v4, .int 1] [] (uI (uI (uI h5 134 ((nI (10 + (sW g))).toNatClampNeg) v2) 134 ((nI (14 + (sW g))).toNatClampNeg) v4) 134 ((nI (18 + (sW g))).toNatClampNeg) 1) Q) from ⟨(vp_in_nI (by omega) (by omega)), ?_⟩)
                rw [nI_clamp (n := 10 + (sW g)) (by omega), nI_clamp (n := 14 + (sW g)) (by omega), nI_clamp (n := 18 + (sW g)) (by omega)]
                have qC : Fq sMl h5 (uI (uI (uI h5 134 (10 + (sW g)) v2) 134 (14 + (sW g)) v4) 134 (18 + (sW g)) 1) := (((Fq.rfl'.uI' _ _ _ (sMl_t (by omega))).uI' _ _ _ (sMl_t (by omega))).uI' _ _ _ (sMl_t (by omega)))
                have rdC : ∀ i, i ≠ 10 + (sW g) → i ≠ 14 + (sW g) → i ≠ 18 + (sW g) → rI (uI (uI (uI h5 134 (10 + (sW g)) v2) 134 (14 + (sW g)) v4) 134 (18 + (sW g)) 1) 134 i = rI h5 134 i := fun i i0 i1 i2 => by rw [rI_uI_at i2, rI_uI_at i1, rI_uI_at i0]
                have eC0 : rI (uI (uI (uI h5 134 (10 + (sW g)) v2) 134 (14 + (sW g)) v4) 134 (18 + (sW g)) 1) 134 (10 + (sW g)) = v2 := by rw [rI_uI_at (by omega), rI_uI_at (by omega)]; exact rI_uI_eq
                have eC1 : rI (uI (uI (uI h5 134 (10 + (sW g)) v2) 134 (14 + (sW g)) v4) 134 (18 + (sW g)) 1) 134 (14 + (sW g)) = v4 := by rw [rI_uI_at (by omega)]; exact rI_uI_eq
                have eC2 : rI (uI (uI (uI h5 134 (10 + (sW g)) v2) 134 (14 + (sW g)) v4) 134 (18 + (sW g)) 1) 134 (18 + (sW g)) = 1 := by exact rI_uI_eq
                have fC : ∀ i, rI (uI (uI (uI h5 134 (10 + (sW g)) v2) 134 (14 + (sW g)) v4) 134 (18 + (sW g)) 1) 130 i = rI h5 130 i := fun _ => rfl
                generalize hgC : uI (uI (uI h5 134 (10 + (sW g)) v2) 134 (14 + (sW g)) v4) 134 (18 + (sW g)) 1 = hC at qC rdC fC eC0 eC1 eC2 ⊢
                refine exf_go 5 (show vp_in 4 13841 ∧ (Go (d + 7) true 197 118 [.ref 130, .int (nI (sW g)), .int v2, .int v4, .int 1] [.int (rI hC 134 4), .int 4, .ref 134] hC Q) from ⟨(vp_in_nI (n := 4) (by decide) (by decide)), ?_⟩)
                rw [show (rI hC 134 4 : Int32) = nI (tot g) from (rdC 4 (by omega) (by omega) (by omega)).trans (mr_rd hg mr (Fq.tr (Fq.tr (Fq.tr (Fq.tr q1 q2) q3) q4) q5)).1.2.2.2.2.1]
                refine exf_go 8 (show vp_in 4 13841 ∧ vp_in 1 13841 ∧ (Go (d + 7) true 197 128 [.ref 130, .int (nI (sW g)), .int v2, .int v4, .int 1] [.int (rI hC 134 1), .int 1, .ref 134] (uI hC 134 4 ((nI (tot g)) * v2)) Q) from ⟨(vp_in_nI (n := 4) (by decide) (by decide)), (vp_in_nI (n := 1) (by decide) (by decide)), ?_⟩)
                rw [show (rI hC 134 1 : Int32) = nI (sW g) from (rdC 1 (by omega) (by omega) (by omega)).trans (mr_rd hg mr (Fq.tr (Fq.tr (Fq.tr (Fq.tr q1 q2) q3) q4) q5)).1.2.1]
                refine exf_go 2 (show Go (d + 7) true 197 130 [.ref 130, .int (nI (sW g)), .int v2, .int v4, .int 1] [.int ((nI (sW g)) + 1), .int 1, .ref 134] (uI hC 134 4 ((nI (tot g)) * v2)) Q from ?_)
                rw [show ((nI (sW g)) + 1 : Int32) = nI ((sW g) + 1) from nI_add (sW g) 1]
                refine exf_go 2 (show vp_in 1 13841 ∧ Q (mk_) (uI (uI hC 134 4 ((nI (tot g)) * v2)) 134 1 (nI ((sW g) + 1))) from ⟨(vp_in_nI (n := 1) (by decide) (by decide)), ?_⟩)
                have eB : whB b n (tkn b n 2 11 (nx s)) = (tkn b n 1 10 (nx (tkn b n 2 11 (nx s)))) := (if_pos K42)
                have eC : whC b n (tkn b n 1 10 (nx (tkn b n 2 11 (nx s)))) = (nx (tkn b n 1 10 (nx (tkn b n 2 11 (nx s))))) := (if_pos K62)
                have z1 : qe (tkn b n 1 10 (nx (tkn b n 2 11 (nx s)))) = 0 := by have := qe_nx (tkn b n 1 10 (nx (tkn b n 2 11 (nx s)))); omega
                have z0 : qe (tkn b n 2 11 (nx s)) = 0 := (tkn_e z1).2.1
                have hw1 := hv2 z0; rw [qi_nx] at hw1
                have hw2 := hv4 z1; rw [qi_nx] at hw2
                have ea : rWh b n (s, g, st, en, a, ah) = ((nx (tkn b n 1 10 (nx (tkn b n 2 11 (nx s))))), gWh g (vl b n (qi s + 1)) (vl b n (qi (tkn b n 2 11 (nx s)) + 1)) 1, st, en, a, ah) := rH_ok (show ¬ sW g = 4 by omega) (show whA b n s = (tkn b n 2 11 (nx s)) from rfl) eB eC (if_pos K42) (if_pos K62) (by omega)
                have mX := (mr_rd hg mr (Fq.tr (Fq.tr (Fq.tr (Fq.tr q1 q2) q3) q4) q5))
                rw [hw1, pk_mul]; rw [hw1] at eC0; rw [hw2] at eC1
                have qF : Fq sMl hC (uI (uI hC 134 4 (nI (tot g * vl b n (qi s + 1)))) 134 1 (nI (sW g + 1))) := (Fq.rfl'.uI' _ _ _ rfl).uI' _ _ _ rfl
                have rd : ∀ i, i ≠ 10 + sW g → i ≠ 14 + sW g → i ≠ 18 + sW g → i ≠ 4 → i ≠ 1 → rI (uI (uI hC 134 4 (nI (tot g * vl b n (qi s + 1)))) 134 1 (nI (sW g + 1))) 134 i = rI h5 134 i := fun i i1 i2 i3 i4 i5 => by rw [rI_uI_at i5, rI_uI_at i4, rdC i i1 i2 i3]
                rw [ea] at k; refine k _ (Fq.tr ((Fq.tr (Fq.tr (Fq.tr (Fq.tr q1 q2) q3) q4) q5).mono sRd_M) ((qC.tr qF).mono sMl_M)) ⟨mp_o mp5 (qC.tr qF), fun _ => ?_⟩
                obtain ⟨⟨m0, m1, m2, m3, m4, m5, m6, m7, m8, m9, m10, m11⟩, mw, mc, mm, mz⟩ := mX
                refine ⟨⟨(rd 0 (by omega) (by omega) (by omega) (by omega) (by omega)).trans m0, rfl, (rd 2 (by omega) (by omega) (by omega) (by omega) (by omega)).trans m2, (rd 3 (by omega) (by omega) (by omega) (by omega) (by omega)).trans m3, ?_, (rd 5 (by omega) (by omega) (by omega) (by omega) (by omega)).trans m5, (rd 6 (by omega) (by omega) (by omega) (by omega) (by omega)).trans m6, (rd 7 (by omega) (by omega) (by omega) (by omega) (by omega)).trans m7, (rd 8 (by omega) (by omega) (by omega) (by omega) (by omega)).trans m8, (rd 9 (by omega) (by omega) (by omega) (by omega) (by omega)).trans m9, (rd 50 (by omega) (by omega) (by omega) (by omega) (by omega)).trans m10, (fC 15).trans m11⟩, fun w hw => ?_, fun c hc => ?_, fun m hm => ?_, fun i i1 i2 => (rd i (by omega) (by omega) (by omega) (by omega) (by omega)).trans (mz i i1 i2)⟩
                · show nI (tot g * vl b n (qi s + 1)) = nI (tot (gWh g (vl b n (qi s + 1)) _ _)); rw [tot_wh hg (by omega)]
                · have hw : w < sW g + 1 := hw
                  show _ = nI (va_up (sF g) (sW g) _ w) ∧ _ = nI (va_up (sS g) (sW g) _ w) ∧ _ = nI (va_up (sR g) (sW g) _ w)
                  by_cases e : w = sW g
                  · rw [e, va_up_s, va_up_s, va_up_s]
                    refine ⟨?_, ?_, ?_⟩
                    · rw [rI_uI_at (by omega), rI_uI_at (by omega)]; exact eC0
                    · rw [rI_uI_at (by omega), rI_uI_at (by omega)]; exact eC1
                    · rw [rI_uI_at (by omega), rI_uI_at (by omega)]; exact eC2
                  · rw [va_up_n e, va_up_n e, va_up_n e, rd _ (by omega) (by omega) (by omega) (by omega) (by omega), rd _ (by omega) (by omega) (by omega) (by omega) (by omega), rd _ (by omega) (by omega) (by omega) (by omega) (by omega)]; exact mw w (by omega)
                · have hc : c < sC g := hc
                  rw [rd _ (by omega) (by omega) (by omega) (by omega) (by omega), rd _ (by omega) (by omega) (by omega) (by omega) (by omega), rd _ (by omega) (by omega) (by omega) (by omega) (by omega)]; exact mc c hc
                · have hm : m < sM g := hm
                  rw [rd _ (by omega) (by omega) (by omega) (by omega) (by omega)]; exact mm m hm
              · skip
                have c5 : ¬ (qe (nx (tkn b n 1 10 (nx (tkn b n 2 11 (nx s)))))) = 0 := fun q => c5 ((nI_eq (a := (qe (nx (tkn b n 1 10 (nx (tkn b n 2 11 (nx s))))))) (b := 0) (by omega) (by omega)).mpr q)
                exfalso; omega
          · skip
            have K62n := isK_x K62
            show Go (d + 7) true 197 62 [.ref 130, .int (nI (sW g)), .int v2, .int v4, mk_] [.int 0] h4 Q
            refine exf_go 1 (show ((0 : Int32) = 0 → Go (d + 7) true 197 69 [.ref 130, .int (nI (sW g)), .int v2, .int v4, mk_] [] h4 Q) ∧ (¬ ((0 : Int32) = 0) → Go (d + 7) true 197 65 [.ref 130, .int (nI (sW g)), .int v2, .int v4, mk_] [] h4 Q) from ⟨fun c6 => ?_, fun c6 => ?_⟩)
            · skip
              refine exf_go 4 (show Go (d + 7) true 197 76 [.ref 130, .int (nI (sW g)), .int v2, .int v4, .int 0] [.int (rI h4 130 11)] h4 Q from ?_)
              rw [show (rI h4 130 11 : Int32) = nI (qe (tkn b n 1 10 (nx (tkn b n 2 11 (nx s))))) from mp4.2.2.1.1]
              refine exf_go 1 (show ((nI (qe (tkn b n 1 10 (nx (tkn b n 2 11 (nx s)))))) = 0 → Go (d + 7) true 197 80 [.ref 130, .int (nI (sW g)), .int v2, .int v4, .int 0] [] h4 Q) ∧ (¬ ((nI (qe (tkn b n 1 10 (nx (tkn b n 2 11 (nx s)))))) = 0) → Go (d + 7) true 197 79 [.ref 130, .int (nI (sW g)), .int v2, .int v4, .int 0] [] h4 Q) from ⟨fun c7 => ?_, fun c7 => ?_⟩)
              · skip
                have c7 : (qe (tkn b n 1 10 (nx (tkn b n 2 11 (nx s))))) = 0 := (nI_eq (a := (qe (tkn b n 1 10 (nx (tkn b n 2 11 (nx s)))))) (b := 0) (by omega) (by omega)).mp c7
                refine exf_go 5 (show Go (d + 7) true 197 88 [.ref 130, .int (nI (sW g)), .int v2, .int v4, .int 0] [.int (10 + (nI (sW g))), .ref 134] h4 Q from ?_)
                rw [show (10 + (nI (sW g)) : Int32) = nI (10 + (sW g)) from nI_add 10 (sW g)]
                refine exf_go 7 (show vp_in (nI (10 + (sW g))) 13841 ∧ (Go (d + 7) true 197 98 [.ref 130, .int (nI (sW g)), .int v2, .int v4, .int 0] [.int (14 + (nI (sW g))), .ref 134] (uI h4 134 ((nI (10 + (sW g))).toNatClampNeg) v2) Q) from ⟨(vp_in_nI (by omega) (by omega)), ?_⟩)
                rw [show (14 + (nI (sW g)) : Int32) = nI (14 + (sW g)) from nI_add 14 (sW g)]
                refine exf_go 7 (show vp_in (nI (14 + (sW g))) 13841 ∧ (Go (d + 7) true 197 108 [.ref 130, .int (nI (sW g)), .int v2, .int v4, .int 0] [.int (18 + (nI (sW g))), .ref 134] (uI (uI h4 134 ((nI (10 + (sW g))).toNatClampNeg) v2) 134 ((nI (14 + (sW g))).toNatClampNeg) v4) Q) from ⟨(vp_in_nI (by omega) (by omega)), ?_⟩)
                rw [show (18 + (nI (sW g)) : Int32) = nI (18 + (sW g)) from nI_add 18 (sW g)]
                refine exf_go 2 (show vp_in (nI (18 + (sW g))) 13841 ∧ (Go (d + 7) true 197 111 [.ref 130, .int (nI (sW g)), .int v2, .int v4, .int 0] [] (uI (uI (uI h4 134 ((nI (10 + (sW g))).toNatClampNeg) v2) 134 ((nI (14 + (sW g))).toNatClampNeg) v4) 134 ((nI (18 + (sW g))).toNatClampNeg) 0) Q) from ⟨(vp_in_nI (by omega) (by omega)), ?_⟩)
                rw [nI_clamp (n := 10 + (sW g)) (by omega), nI_clamp (n := 14 + (sW g)) (by omega), nI_clamp (n := 18 + (sW g)) (by omega)]
                have qC : Fq sMl h4 (uI (uI (uI h4 134 (10 + (sW g)) v2) 134 (14 + (sW g)) v4) 134 (18 + (sW g)) 0) := (((Fq.rfl'.uI' _ _ _ (sMl_t (by omega))).uI' _ _ _ (sMl_t (by omega))).uI' _ _ _ (sMl_t (by omega)))
                have rdC : ∀ i, i ≠ 10 + (sW g) → i ≠ 14 + (sW g) → i ≠ 18 + (sW g) → rI (uI (uI (uI h4 134 (10 + (sW g)) v2) 134 (14 + (sW g)) v4) 134 (18 + (sW g)) 0) 134 i = rI h4 134 i := fun i i0 i1 i2 => by rw [rI_uI_at i2, rI_uI_at i1, rI_uI_at i0]
                have eC0 : rI (uI (uI (uI h4 134 (10 + (sW g)) v2) 134 (14 + (sW g)) v4) 134 (18 + (sW g)) 0) 134 (10 + (sW g)) = v2 := by rw [rI_uI_at (by omega), rI_uI_at (by omega)]; exact rI_uI_eq
                have eC1 : rI (uI (uI (uI h4 134 (10 + (sW g)) v2) 134 (14 + (sW g)) v4) 134 (18 + (sW g)) 0) 134 (14 + (sW g)) = v4 := by rw [rI_uI_at (by omega)]; exact rI_uI_eq
                have eC2 : rI (uI (uI (uI h4 134 (10 + (sW g)) v2) 134 (14 + (sW g)) v4) 134 (18 + (sW g)) 0) 134 (18 + (sW g)) = 0 := by exact rI_uI_eq
                have fC : ∀ i, rI (uI (uI (uI h4 134 (10 + (sW g)) v2) 134 (14 + (sW g)) v4) 134 (18 + (sW g)) 0) 130 i = rI h4 130 i := fun _ => rfl
                generalize hgC : uI (uI (uI h4 134 (10 + (sW g)) v2) 134 (14 + (sW g)) v4) 134 (18 + (sW g)) 0 = hC at qC rdC fC eC0 eC1 eC2 ⊢
                refine exf_go 5 (show vp_in 4 13841 ∧ (Go (d + 7) true 197 118 [.ref 130, .int (nI (sW g)), .int v2, .int v4, .int 0] [.int (rI hC 134 4), .int 4, .ref 134] hC Q) from ⟨(vp_in_nI (n := 4) (by decide) (by decide)), ?_⟩)
                rw [show (rI hC 134 4 : Int32) = nI (tot g) from (rdC 4 (by omega) (by omega) (by omega)).trans (mr_rd hg mr (Fq.tr (Fq.tr (Fq.tr q1 q2) q3) q4)).1.2.2.2.2.1]
                refine exf_go 8 (show vp_in 4 13841 ∧ vp_in 1 13841 ∧ (Go (d + 7) true 197 128 [.ref 130, .int (nI (sW g)), .int v2, .int v4, .int 0] [.int (rI hC 134 1), .int 1, .ref 134] (uI hC 134 4 ((nI (tot g)) * v2)) Q) from ⟨(vp_in_nI (n := 4) (by decide) (by decide)), (vp_in_nI (n := 1) (by decide) (by decide)), ?_⟩)
                rw [show (rI hC 134 1 : Int32) = nI (sW g) from (rdC 1 (by omega) (by omega) (by omega)).trans (mr_rd hg mr (Fq.tr (Fq.tr (Fq.tr q1 q2) q3) q4)).1.2.1]
                refine exf_go 2 (show Go (d + 7) true 197 130 [.ref 130, .int (nI (sW g)), .int v2, .int v4, .int 0] [.int ((nI (sW g)) + 1), .int 1, .ref 134] (uI hC 134 4 ((nI (tot g)) * v2)) Q from ?_)
                rw [show ((nI (sW g)) + 1 : Int32) = nI ((sW g) + 1) from nI_add (sW g) 1]
                refine exf_go 2 (show vp_in 1 13841 ∧ Q (mk_) (uI (uI hC 134 4 ((nI (tot g)) * v2)) 134 1 (nI ((sW g) + 1))) from ⟨(vp_in_nI (n := 1) (by decide) (by decide)), ?_⟩)
                have eB : whB b n (tkn b n 2 11 (nx s)) = (tkn b n 1 10 (nx (tkn b n 2 11 (nx s)))) := (if_pos K42)
                have eC : whC b n (tkn b n 1 10 (nx (tkn b n 2 11 (nx s)))) = (tkn b n 1 10 (nx (tkn b n 2 11 (nx s)))) := (if_neg (by rw [K62]; decide))
                have z1 : qe (tkn b n 1 10 (nx (tkn b n 2 11 (nx s)))) = 0 := by omega
                have z0 : qe (tkn b n 2 11 (nx s)) = 0 := (tkn_e z1).2.1
                have hw1 := hv2 z0; rw [qi_nx] at hw1
                have hw2 := hv4 z1; rw [qi_nx] at hw2
                have ea : rWh b n (s, g, st, en, a, ah) = ((tkn b n 1 10 (nx (tkn b n 2 11 (nx s)))), gWh g (vl b n (qi s + 1)) (vl b n (qi (tkn b n 2 11 (nx s)) + 1)) 0, st, en, a, ah) := rH_ok (show ¬ sW g = 4 by omega) (show whA b n s = (tkn b n 2 11 (nx s)) from rfl) eB eC (if_pos K42) (if_neg (by rw [K62]; decide)) (by omega)
                have mX := (mr_rd hg mr (Fq.tr (Fq.tr (Fq.tr q1 q2) q3) q4))
                rw [hw1, pk_mul]; rw [hw1] at eC0; rw [hw2] at eC1
                have qF : Fq sMl hC (uI (uI hC 134 4 (nI (tot g * vl b n (qi s + 1)))) 134 1 (nI (sW g + 1))) := (Fq.rfl'.uI' _ _ _ rfl).uI' _ _ _ rfl
                have rd : ∀ i, i ≠ 10 + sW g → i ≠ 14 + sW g → i ≠ 18 + sW g → i ≠ 4 → i ≠ 1 → rI (uI (uI hC 134 4 (nI (tot g * vl b n (qi s + 1)))) 134 1 (nI (sW g + 1))) 134 i = rI h4 134 i := fun i i1 i2 i3 i4 i5 => by rw [rI_uI_at i5, rI_uI_at i4, rdC i i1 i2 i3]
                rw [ea] at k; refine k _ (Fq.tr ((Fq.tr (Fq.tr (Fq.tr q1 q2) q3) q4).mono sRd_M) ((qC.tr qF).mono sMl_M)) ⟨mp_o mp4 (qC.tr qF), fun _ => ?_⟩
                obtain ⟨⟨m0, m1, m2, m3, m4, m5, m6, m7, m8, m9, m10, m11⟩, mw, mc, mm, mz⟩ := mX
                refine ⟨⟨(rd 0 (by omega) (by omega) (by omega) (by omega) (by omega)).trans m0, rfl, (rd 2 (by omega) (by omega) (by omega) (by omega) (by omega)).trans m2, (rd 3 (by omega) (by omega) (by omega) (by omega) (by omega)).trans m3, ?_, (rd 5 (by omega) (by omega) (by omega) (by omega) (by omega)).trans m5, (rd 6 (by omega) (by omega) (by omega) (by omega) (by omega)).trans m6, (rd 7 (by omega) (by omega) (by omega) (by omega) (by omega)).trans m7, (rd 8 (by omega) (by omega) (by omega) (by omega) (by omega)).trans m8, (rd 9 (by omega) (by omega) (by omega) (by omega) (by omega)).trans m9, (rd 50 (by omega) (by omega) (by omega) (by omega) (by omega)).trans m10, (fC 15).trans m11⟩, fun w hw => ?_, fun c hc => ?_, fun m hm => ?_, fun i i1 i2 => (rd i (by omega) (by omega) (by omega) (by omega) (by omega)).trans (mz i i1 i2)⟩
                · show nI (tot g * vl b n (qi s + 1)) = nI (tot (gWh g (vl b n (qi s + 1)) _ _)); rw [tot_wh hg (by omega)]
                · have hw : w < sW g + 1 := hw
                  show _ = nI (va_up (sF g) (sW g) _ w) ∧ _ = nI (va_up (sS g) (sW g) _ w) ∧ _ = nI (va_up (sR g) (sW g) _ w)
                  by_cases e : w = sW g
                  · rw [e, va_up_s, va_up_s, va_up_s]
                    refine ⟨?_, ?_, ?_⟩
                    · rw [rI_uI_at (by omega), rI_uI_at (by omega)]; exact eC0
                    · rw [rI_uI_at (by omega), rI_uI_at (by omega)]; exact eC1
                    · rw [rI_uI_at (by omega), rI_uI_at (by omega)]; exact eC2
                  · rw [va_up_n e, va_up_n e, va_up_n e, rd _ (by omega) (by omega) (by omega) (by omega) (by omega), rd _ (by omega) (by omega) (by omega) (by omega) (by omega), rd _ (by omega) (by omega) (by omega) (by omega) (by omega)]; exact mw w (by omega)
                · have hc : c < sC g := hc
                  rw [rd _ (by omega) (by omega) (by omega) (by omega) (by omega), rd _ (by omega) (by omega) (by omega) (by omega) (by omega), rd _ (by omega) (by omega) (by omega) (by omega) (by omega)]; exact mc c hc
                · have hm : m < sM g := hm
                  rw [rd _ (by omega) (by omega) (by omega) (by omega) (by omega)]; exact mm m hm
              · skip
                have c7 : ¬ (qe (tkn b n 1 10 (nx (tkn b n 2 11 (nx s))))) = 0 := fun q => c7 ((nI_eq (a := (qe (tkn b n 1 10 (nx (tkn b n 2 11 (nx s)))))) (b := 0) (by omega) (by omega)).mpr q)
                refine exf_go 1 (show Q (mk_) h4 from ?_)
                have eB : whB b n (tkn b n 2 11 (nx s)) = (tkn b n 1 10 (nx (tkn b n 2 11 (nx s)))) := (if_pos K42)
                have eC : whC b n (tkn b n 1 10 (nx (tkn b n 2 11 (nx s)))) = (tkn b n 1 10 (nx (tkn b n 2 11 (nx s)))) := (if_neg (by rw [K62]; decide))
                have eW : wh3 b n s = (tkn b n 1 10 (nx (tkn b n 2 11 (nx s)))) := by unfold wh3; rw [show whA b n s = (tkn b n 2 11 (nx s)) from rfl, eB, eC]
                have ea : rWh b n (s, g, st, en, a, ah) = ((tkn b n 1 10 (nx (tkn b n 2 11 (nx s)))), g, st, en, a, ah) := rH_no (show ¬ sW g = 4 by omega) eW (by omega)
                rw [ea] at k; exact k _ ((Fq.tr (Fq.tr (Fq.tr q1 q2) q3) q4).mono sRd_M) ⟨mp4, fun z => absurd z (show ¬ qe (tkn b n 1 10 (nx (tkn b n 2 11 (nx s)))) = 0 by omega)⟩
            · skip
              exact absurd (by decide) c6
      · skip
        have K42n := isK_x K42
        show Go (d + 7) true 197 42 [.ref 130, .int (nI (sW g)), .int v2, mk_, mk_] [.int 0] h2 Q
        refine exf_go 1 (show ((0 : Int32) = 0 → Go (d + 7) true 197 55 [.ref 130, .int (nI (sW g)), .int v2, mk_, mk_] [] h2 Q) ∧ (¬ ((0 : Int32) = 0) → Go (d + 7) true 197 45 [.ref 130, .int (nI (sW g)), .int v2, mk_, mk_] [] h2 Q) from ⟨fun c8 => ?_, fun c8 => ?_⟩)
        · skip
          refine exf_go 5 (show wpC (d + 7) true 194 [.ref 130, .int 2] h2 (fun r h' => Go (d + 7) true 197 62 [.ref 130, .int (nI (sW g)), .int v2, .int 1, mk_] [r] h' Q) from ?_)
          refine m_eats (k := 2) mp2 (by omega) (fun K62 h6 q6 mp6 => ?_) (fun K62 => ?_)
          · skip
            have K62e := isK_e K62
            have hb6 := mp_b mp6
            have hz6 := qe_nx (tkn b n 2 11 (nx s)); have hi6 := qi_nx (tkn b n 2 11 (nx s))
            have iv6 := iv_nx iv2 (by omega)
            have hlt6 := iv_lt iv2 (by omega)
            show Go (d + 7) true 197 62 [.ref 130, .int (nI (sW g)), .int v2, .int 1, mk_] [.int 1] h6 Q
            refine exf_go 1 (show ((1 : Int32) = 0 → Go (d + 7) true 197 69 [.ref 130, .int (nI (sW g)), .int v2, .int 1, mk_] [] h6 Q) ∧ (¬ ((1 : Int32) = 0) → Go (d + 7) true 197 65 [.ref 130, .int (nI (sW g)), .int v2, .int 1, mk_] [] h6 Q) from ⟨fun c9 => ?_, fun c9 => ?_⟩)
            · skip
              exact absurd c9 (by decide)
            · skip
              refine exf_go 5 (show Go (d + 7) true 197 76 [.ref 130, .int (nI (sW g)), .int v2, .int 1, .int 1] [.int (rI h6 130 11)] h6 Q from ?_)
              rw [show (rI h6 130 11 : Int32) = nI (qe (nx (tkn b n 2 11 (nx s)))) from mp6.2.2.1.1]
              refine exf_go 1 (show ((nI (qe (nx (tkn b n 2 11 (nx s))))) = 0 → Go (d + 7) true 197 80 [.ref 130, .int (nI (sW g)), .int v2, .int 1, .int 1] [] h6 Q) ∧ (¬ ((nI (qe (nx (tkn b n 2 11 (nx s))))) = 0) → Go (d + 7) true 197 79 [.ref 130, .int (nI (sW g)), .int v2, .int 1, .int 1] [] h6 Q) from ⟨fun c10 => ?_, fun c10 => ?_⟩)
              · skip
                have c10 : (qe (nx (tkn b n 2 11 (nx s)))) = 0 := (nI_eq (a := (qe (nx (tkn b n 2 11 (nx s))))) (b := 0) (by omega) (by omega)).mp c10
                refine exf_go 5 (show Go (d + 7) true 197 88 [.ref 130, .int (nI (sW g)), .int v2, .int 1, .int 1] [.int (10 + (nI (sW g))), .ref 134] h6 Q from ?_)
                rw [show (10 + (nI (sW g)) : Int32) = nI (10 + (sW g)) from nI_add 10 (sW g)]
                refine exf_go 7 (show vp_in (nI (10 + (sW g))) 13841 ∧ (Go (d + 7) true 197 98 [.ref 130, .int (nI (sW g)), .int v2, .int 1, .int 1] [.int (14 + (nI (sW g))), .ref 134] (uI h6 134 ((nI (10 + (sW g))).toNatClampNeg) v2) Q) from ⟨(vp_in_nI (by omega) (by omega)), ?_⟩)
                rw [show (14 + (nI (sW g)) : Int32) = nI (14 + (sW g)) from nI_add 14 (sW g)]
                refine exf_go 7 (show vp_in (nI (14 + (sW g))) 13841 ∧ (Go (d + 7) true 197 108 [.ref 130, .int (nI (sW g)), .int v2, .int 1, .int 1] [.int (18 + (nI (sW g))), .ref 134] (uI (uI h6 134 ((nI (10 + (sW g))).toNatClampNeg) v2) 134 ((nI (14 + (sW g))).toNatClampNeg) 1) Q) from ⟨(vp_in_nI (by omega) (by omega)), ?_⟩)
                rw [show (18 + (nI (sW g)) : Int32) = nI (18 + (sW g)) from nI_add 18 (sW g)]
                refine exf_go 2 (show vp_in (nI (18 + (sW g))) 13841 ∧ (Go (d + 7) true 197 111 [.ref 130, .int (nI (sW g)), .int v2, .int 1, .int 1] [] (uI (uI (uI h6 134 ((nI (10 + (sW g))).toNatClampNeg) v2) 134 ((nI (14 + (sW g))).toNatClampNeg) 1) 134 ((nI (18 + (sW g))).toNatClampNeg) 1) Q) from ⟨(vp_in_nI (by omega) (by omega)), ?_⟩)
                rw [nI_clamp (n := 10 + (sW g)) (by omega), nI_clamp (n := 14 + (sW g)) (by omega), nI_clamp (n := 18 + (sW g)) (by omega)]
                have qC : Fq sMl h6 (uI (uI (uI h6 134 (10 + (sW g)) v2) 134 (14 + (sW g)) 1) 134 (18 + (sW g)) 1) := (((Fq.rfl'.uI' _ _ _ (sMl_t (by omega))).uI' _ _ _ (sMl_t (by omega))).uI' _ _ _ (sMl_t (by omega)))
                have rdC : ∀ i, i ≠ 10 + (sW g) → i ≠ 14 + (sW g) → i ≠ 18 + (sW g) → rI (uI (uI (uI h6 134 (10 + (sW g)) v2) 134 (14 + (sW g)) 1) 134 (18 + (sW g)) 1) 134 i = rI h6 134 i := fun i i0 i1 i2 => by rw [rI_uI_at i2, rI_uI_at i1, rI_uI_at i0]
                have eC0 : rI (uI (uI (uI h6 134 (10 + (sW g)) v2) 134 (14 + (sW g)) 1) 134 (18 + (sW g)) 1) 134 (10 + (sW g)) = v2 := by rw [rI_uI_at (by omega), rI_uI_at (by omega)]; exact rI_uI_eq
                have eC1 : rI (uI (uI (uI h6 134 (10 + (sW g)) v2) 134 (14 + (sW g)) 1) 134 (18 + (sW g)) 1) 134 (14 + (sW g)) = 1 := by rw [rI_uI_at (by omega)]; exact rI_uI_eq
                have eC2 : rI (uI (uI (uI h6 134 (10 + (sW g)) v2) 134 (14 + (sW g)) 1) 134 (18 + (sW g)) 1) 134 (18 + (sW g)) = 1 := by exact rI_uI_eq
                have fC : ∀ i, rI (uI (uI (uI h6 134 (10 + (sW g)) v2) 134 (14 + (sW g)) 1) 134 (18 + (sW g)) 1) 130 i = rI h6 130 i := fun _ => rfl
                generalize hgC : uI (uI (uI h6 134 (10 + (sW g)) v2) 134 (14 + (sW g)) 1) 134 (18 + (sW g)) 1 = hC at qC rdC fC eC0 eC1 eC2 ⊢
                refine exf_go 5 (show vp_in 4 13841 ∧ (Go (d + 7) true 197 118 [.ref 130, .int (nI (sW g)), .int v2, .int 1, .int 1] [.int (rI hC 134 4), .int 4, .ref 134] hC Q) from ⟨(vp_in_nI (n := 4) (by decide) (by decide)), ?_⟩)
                rw [show (rI hC 134 4 : Int32) = nI (tot g) from (rdC 4 (by omega) (by omega) (by omega)).trans (mr_rd hg mr (Fq.tr (Fq.tr q1 q2) q6)).1.2.2.2.2.1]
                refine exf_go 8 (show vp_in 4 13841 ∧ vp_in 1 13841 ∧ (Go (d + 7) true 197 128 [.ref 130, .int (nI (sW g)), .int v2, .int 1, .int 1] [.int (rI hC 134 1), .int 1, .ref 134] (uI hC 134 4 ((nI (tot g)) * v2)) Q) from ⟨(vp_in_nI (n := 4) (by decide) (by decide)), (vp_in_nI (n := 1) (by decide) (by decide)), ?_⟩)
                rw [show (rI hC 134 1 : Int32) = nI (sW g) from (rdC 1 (by omega) (by omega) (by omega)).trans (mr_rd hg mr (Fq.tr (Fq.tr q1 q2) q6)).1.2.1]
                refine exf_go 2 (show Go (d + 7) true 197 130 [.ref 130, .int (nI (sW g)), .int v2, .int 1, .int 1] [.int ((nI (sW g)) + 1), .int 1, .ref 134] (uI hC 134 4 ((nI (tot g)) * v2)) Q from ?_)
                rw [show ((nI (sW g)) + 1 : Int32) = nI ((sW g) + 1) from nI_add (sW g) 1]
                refine exf_go 2 (show vp_in 1 13841 ∧ Q (mk_) (uI (uI hC 134 4 ((nI (tot g)) * v2)) 134 1 (nI ((sW g) + 1))) from ⟨(vp_in_nI (n := 1) (by decide) (by decide)), ?_⟩)
                have eB : whB b n (tkn b n 2 11 (nx s)) = (tkn b n 2 11 (nx s)) := (if_neg (by rw [K42]; decide))
                have eC : whC b n (tkn b n 2 11 (nx s)) = (nx (tkn b n 2 11 (nx s))) := (if_pos K62)
                have z1 : qe (tkn b n 2 11 (nx s)) = 0 := by have := qe_nx (tkn b n 2 11 (nx s)); omega
                have z0 : qe (tkn b n 2 11 (nx s)) = 0 := z1
                have hw1 := hv2 z0; rw [qi_nx] at hw1
                have ea : rWh b n (s, g, st, en, a, ah) = ((nx (tkn b n 2 11 (nx s))), gWh g (vl b n (qi s + 1)) (1) 1, st, en, a, ah) := rH_ok (show ¬ sW g = 4 by omega) (show whA b n s = (tkn b n 2 11 (nx s)) from rfl) eB eC (if_neg (by rw [K42]; decide)) (if_pos K62) (by omega)
                have mX := (mr_rd hg mr (Fq.tr (Fq.tr q1 q2) q6))
                rw [hw1, pk_mul]; rw [hw1] at eC0
                have qF : Fq sMl hC (uI (uI hC 134 4 (nI (tot g * vl b n (qi s + 1)))) 134 1 (nI (sW g + 1))) := (Fq.rfl'.uI' _ _ _ rfl).uI' _ _ _ rfl
                have rd : ∀ i, i ≠ 10 + sW g → i ≠ 14 + sW g → i ≠ 18 + sW g → i ≠ 4 → i ≠ 1 → rI (uI (uI hC 134 4 (nI (tot g * vl b n (qi s + 1)))) 134 1 (nI (sW g + 1))) 134 i = rI h6 134 i := fun i i1 i2 i3 i4 i5 => by rw [rI_uI_at i5, rI_uI_at i4, rdC i i1 i2 i3]
                rw [ea] at k; refine k _ (Fq.tr ((Fq.tr (Fq.tr q1 q2) q6).mono sRd_M) ((qC.tr qF).mono sMl_M)) ⟨mp_o mp6 (qC.tr qF), fun _ => ?_⟩
                obtain ⟨⟨m0, m1, m2, m3, m4, m5, m6, m7, m8, m9, m10, m11⟩, mw, mc, mm, mz⟩ := mX
                refine ⟨⟨(rd 0 (by omega) (by omega) (by omega) (by omega) (by omega)).trans m0, rfl, (rd 2 (by omega) (by omega) (by omega) (by omega) (by omega)).trans m2, (rd 3 (by omega) (by omega) (by omega) (by omega) (by omega)).trans m3, ?_, (rd 5 (by omega) (by omega) (by omega) (by omega) (by omega)).trans m5, (rd 6 (by omega) (by omega) (by omega) (by omega) (by omega)).trans m6, (rd 7 (by omega) (by omega) (by omega) (by omega) (by omega)).trans m7, (rd 8 (by omega) (by omega) (by omega) (by omega) (by omega)).trans m8, (rd 9 (by omega) (by omega) (by omega) (by omega) (by omega)).trans m9, (rd 50 (by omega) (by omega) (by omega) (by omega) (by omega)).trans m10, (fC 15).trans m11⟩, fun w hw => ?_, fun c hc => ?_, fun m hm => ?_, fun i i1 i2 => (rd i (by omega) (by omega) (by omega) (by omega) (by omega)).trans (mz i i1 i2)⟩
                · show nI (tot g * vl b n (qi s + 1)) = nI (tot (gWh g (vl b n (qi s + 1)) _ _)); rw [tot_wh hg (by omega)]
                · have hw : w < sW g + 1 := hw
                  show _ = nI (va_up (sF g) (sW g) _ w) ∧ _ = nI (va_up (sS g) (sW g) _ w) ∧ _ = nI (va_up (sR g) (sW g) _ w)
                  by_cases e : w = sW g
                  · rw [e, va_up_s, va_up_s, va_up_s]
                    refine ⟨?_, ?_, ?_⟩
                    · rw [rI_uI_at (by omega), rI_uI_at (by omega)]; exact eC0
                    · rw [rI_uI_at (by omega), rI_uI_at (by omega)]; exact eC1
                    · rw [rI_uI_at (by omega), rI_uI_at (by omega)]; exact eC2
                  · rw [va_up_n e, va_up_n e, va_up_n e, rd _ (by omega) (by omega) (by omega) (by omega) (by omega), rd _ (by omega) (by omega) (by omega) (by omega) (by omega), rd _ (by omega) (by omega) (by omega) (by omega) (by omega)]; exact mw w (by omega)
                · have hc : c < sC g := hc
                  rw [rd _ (by omega) (by omega) (by omega) (by omega) (by omega), rd _ (by omega) (by omega) (by omega) (by omega) (by omega), rd _ (by omega) (by omega) (by omega) (by omega) (by omega)]; exact mc c hc
                · have hm : m < sM g := hm
                  rw [rd _ (by omega) (by omega) (by omega) (by omega) (by omega)]; exact mm m hm
              · skip
                have c10 : ¬ (qe (nx (tkn b n 2 11 (nx s)))) = 0 := fun q => c10 ((nI_eq (a := (qe (nx (tkn b n 2 11 (nx s))))) (b := 0) (by omega) (by omega)).mpr q)
                exfalso; omega
          · skip
            have K62n := isK_x K62
            show Go (d + 7) true 197 62 [.ref 130, .int (nI (sW g)), .int v2, .int 1, mk_] [.int 0] h2 Q
            refine exf_go 1 (show ((0 : Int32) = 0 → Go (d + 7) true 197 69 [.ref 130, .int (nI (sW g)), .int v2, .int 1, mk_] [] h2 Q) ∧ (¬ ((0 : Int32) = 0) → Go (d + 7) true 197 65 [.ref 130, .int (nI (sW g)), .int v2, .int 1, mk_] [] h2 Q) from ⟨fun c11 => ?_, fun c11 => ?_⟩)
            · skip
              refine exf_go 4 (show Go (d + 7) true 197 76 [.ref 130, .int (nI (sW g)), .int v2, .int 1, .int 0] [.int (rI h2 130 11)] h2 Q from ?_)
              rw [show (rI h2 130 11 : Int32) = nI (qe (tkn b n 2 11 (nx s))) from mp2.2.2.1.1]
              refine exf_go 1 (show ((nI (qe (tkn b n 2 11 (nx s)))) = 0 → Go (d + 7) true 197 80 [.ref 130, .int (nI (sW g)), .int v2, .int 1, .int 0] [] h2 Q) ∧ (¬ ((nI (qe (tkn b n 2 11 (nx s)))) = 0) → Go (d + 7) true 197 79 [.ref 130, .int (nI (sW g)), .int v2, .int 1, .int 0] [] h2 Q) from ⟨fun c12 => ?_, fun c12 => ?_⟩)
              · skip
                have c12 : (qe (tkn b n 2 11 (nx s))) = 0 := (nI_eq (a := (qe (tkn b n 2 11 (nx s)))) (b := 0) (by omega) (by omega)).mp c12
                refine exf_go 5 (show Go (d + 7) true 197 88 [.ref 130, .int (nI (sW g)), .int v2, .int 1, .int 0] [.int (10 + (nI (sW g))), .ref 134] h2 Q from ?_)
                rw [show (10 + (nI (sW g)) : Int32) = nI (10 + (sW g)) from nI_add 10 (sW g)]
                refine exf_go 7 (show vp_in (nI (10 + (sW g))) 13841 ∧ (Go (d + 7) true 197 98 [.ref 130, .int (nI (sW g)), .int v2, .int 1, .int 0] [.int (14 + (nI (sW g))), .ref 134] (uI h2 134 ((nI (10 + (sW g))).toNatClampNeg) v2) Q) from ⟨(vp_in_nI (by omega) (by omega)), ?_⟩)
                rw [show (14 + (nI (sW g)) : Int32) = nI (14 + (sW g)) from nI_add 14 (sW g)]
                refine exf_go 7 (show vp_in (nI (14 + (sW g))) 13841 ∧ (Go (d + 7) true 197 108 [.ref 130, .int (nI (sW g)), .int v2, .int 1, .int 0] [.int (18 + (nI (sW g))), .ref 134] (uI (uI h2 134 ((nI (10 + (sW g))).toNatClampNeg) v2) 134 ((nI (14 + (sW g))).toNatClampNeg) 1) Q) from ⟨(vp_in_nI (by omega) (by omega)), ?_⟩)
                rw [show (18 + (nI (sW g)) : Int32) = nI (18 + (sW g)) from nI_add 18 (sW g)]
                refine exf_go 2 (show vp_in (nI (18 + (sW g))) 13841 ∧ (Go (d + 7) true 197 111 [.ref 130, .int (nI (sW g)), .int v2, .int 1, .int 0] [] (uI (uI (uI h2 134 ((nI (10 + (sW g))).toNatClampNeg) v2) 134 ((nI (14 + (sW g))).toNatClampNeg) 1) 134 ((nI (18 + (sW g))).toNatClampNeg) 0) Q) from ⟨(vp_in_nI (by omega) (by omega)), ?_⟩)
                rw [nI_clamp (n := 10 + (sW g)) (by omega), nI_clamp (n := 14 + (sW g)) (by omega), nI_clamp (n := 18 + (sW g)) (by omega)]
                have qC : Fq sMl h2 (uI (uI (uI h2 134 (10 + (sW g)) v2) 134 (14 + (sW g)) 1) 134 (18 + (sW g)) 0) := (((Fq.rfl'.uI' _ _ _ (sMl_t (by omega))).uI' _ _ _ (sMl_t (by omega))).uI' _ _ _ (sMl_t (by omega)))
                have rdC : ∀ i, i ≠ 10 + (sW g) → i ≠ 14 + (sW g) → i ≠ 18 + (sW g) → rI (uI (uI (uI h2 134 (10 + (sW g)) v2) 134 (14 + (sW g)) 1) 134 (18 + (sW g)) 0) 134 i = rI h2 134 i := fun i i0 i1 i2 => by rw [rI_uI_at i2, rI_uI_at i1, rI_uI_at i0]
                have eC0 : rI (uI (uI (uI h2 134 (10 + (sW g)) v2) 134 (14 + (sW g)) 1) 134 (18 + (sW g)) 0) 134 (10 + (sW g)) = v2 := by rw [rI_uI_at (by omega), rI_uI_at (by omega)]; exact rI_uI_eq
                have eC1 : rI (uI (uI (uI h2 134 (10 + (sW g)) v2) 134 (14 + (sW g)) 1) 134 (18 + (sW g)) 0) 134 (14 + (sW g)) = 1 := by rw [rI_uI_at (by omega)]; exact rI_uI_eq
                have eC2 : rI (uI (uI (uI h2 134 (10 + (sW g)) v2) 134 (14 + (sW g)) 1) 134 (18 + (sW g)) 0) 134 (18 + (sW g)) = 0 := by exact rI_uI_eq
                have fC : ∀ i, rI (uI (uI (uI h2 134 (10 + (sW g)) v2) 134 (14 + (sW g)) 1) 134 (18 + (sW g)) 0) 130 i = rI h2 130 i := fun _ => rfl
                generalize hgC : uI (uI (uI h2 134 (10 + (sW g)) v2) 134 (14 + (sW g)) 1) 134 (18 + (sW g)) 0 = hC at qC rdC fC eC0 eC1 eC2 ⊢
                refine exf_go 5 (show vp_in 4 13841 ∧ (Go (d + 7) true 197 118 [.ref 130, .int (nI (sW g)), .int v2, .int 1, .int 0] [.int (rI hC 134 4), .int 4, .ref 134] hC Q) from ⟨(vp_in_nI (n := 4) (by decide) (by decide)), ?_⟩)
                rw [show (rI hC 134 4 : Int32) = nI (tot g) from (rdC 4 (by omega) (by omega) (by omega)).trans (mr_rd hg mr (Fq.tr q1 q2)).1.2.2.2.2.1]
                refine exf_go 8 (show vp_in 4 13841 ∧ vp_in 1 13841 ∧ (Go (d + 7) true 197 128 [.ref 130, .int (nI (sW g)), .int v2, .int 1, .int 0] [.int (rI hC 134 1), .int 1, .ref 134] (uI hC 134 4 ((nI (tot g)) * v2)) Q) from ⟨(vp_in_nI (n := 4) (by decide) (by decide)), (vp_in_nI (n := 1) (by decide) (by decide)), ?_⟩)
                rw [show (rI hC 134 1 : Int32) = nI (sW g) from (rdC 1 (by omega) (by omega) (by omega)).trans (mr_rd hg mr (Fq.tr q1 q2)).1.2.1]
                refine exf_go 2 (show Go (d + 7) true 197 130 [.ref 130, .int (nI (sW g)), .int v2, .int 1, .int 0] [.int ((nI (sW g)) + 1), .int 1, .ref 134] (uI hC 134 4 ((nI (tot g)) * v2)) Q from ?_)
                rw [show ((nI (sW g)) + 1 : Int32) = nI ((sW g) + 1) from nI_add (sW g) 1]
                refine exf_go 2 (show vp_in 1 13841 ∧ Q (mk_) (uI (uI hC 134 4 ((nI (tot g)) * v2)) 134 1 (nI ((sW g) + 1))) from ⟨(vp_in_nI (n := 1) (by decide) (by decide)), ?_⟩)
                have eB : whB b n (tkn b n 2 11 (nx s)) = (tkn b n 2 11 (nx s)) := (if_neg (by rw [K42]; decide))
                have eC : whC b n (tkn b n 2 11 (nx s)) = (tkn b n 2 11 (nx s)) := (if_neg (by rw [K62]; decide))
                have z1 : qe (tkn b n 2 11 (nx s)) = 0 := by omega
                have z0 : qe (tkn b n 2 11 (nx s)) = 0 := z1
                have hw1 := hv2 z0; rw [qi_nx] at hw1
                have ea : rWh b n (s, g, st, en, a, ah) = ((tkn b n 2 11 (nx s)), gWh g (vl b n (qi s + 1)) (1) 0, st, en, a, ah) := rH_ok (show ¬ sW g = 4 by omega) (show whA b n s = (tkn b n 2 11 (nx s)) from rfl) eB eC (if_neg (by rw [K42]; decide)) (if_neg (by rw [K62]; decide)) (by omega)
                have mX := (mr_rd hg mr (Fq.tr q1 q2))
                rw [hw1, pk_mul]; rw [hw1] at eC0
                have qF : Fq sMl hC (uI (uI hC 134 4 (nI (tot g * vl b n (qi s + 1)))) 134 1 (nI (sW g + 1))) := (Fq.rfl'.uI' _ _ _ rfl).uI' _ _ _ rfl
                have rd : ∀ i, i ≠ 10 + sW g → i ≠ 14 + sW g → i ≠ 18 + sW g → i ≠ 4 → i ≠ 1 → rI (uI (uI hC 134 4 (nI (tot g * vl b n (qi s + 1)))) 134 1 (nI (sW g + 1))) 134 i = rI h2 134 i := fun i i1 i2 i3 i4 i5 => by rw [rI_uI_at i5, rI_uI_at i4, rdC i i1 i2 i3]
                rw [ea] at k; refine k _ (Fq.tr ((Fq.tr q1 q2).mono sRd_M) ((qC.tr qF).mono sMl_M)) ⟨mp_o mp2 (qC.tr qF), fun _ => ?_⟩
                obtain ⟨⟨m0, m1, m2, m3, m4, m5, m6, m7, m8, m9, m10, m11⟩, mw, mc, mm, mz⟩ := mX
                refine ⟨⟨(rd 0 (by omega) (by omega) (by omega) (by omega) (by omega)).trans m0, rfl, (rd 2 (by omega) (by omega) (by omega) (by omega) (by omega)).trans m2, (rd 3 (by omega) (by omega) (by omega) (by omega) (by omega)).trans m3, ?_, (rd 5 (by omega) (by omega) (by omega) (by omega) (by omega)).trans m5, (rd 6 (by omega) (by omega) (by omega) (by omega) (by omega)).trans m6, (rd 7 (by omega) (by omega) (by omega) (by omega) (by omega)).trans m7, (rd 8 (by omega) (by omega) (by omega) (by omega) (by omega)).trans m8, (rd 9 (by omega) (by omega) (by omega) (by omega) (by omega)).trans m9, (rd 50 (by omega) (by omega) (by omega) (by omega) (by omega)).trans m10, (fC 15).trans m11⟩, fun w hw => ?_, fun c hc => ?_, fun m hm => ?_, fun i i1 i2 => (rd i (by omega) (by omega) (by omega) (by omega) (by omega)).trans (mz i i1 i2)⟩
                · show nI (tot g * vl b n (qi s + 1)) = nI (tot (gWh g (vl b n (qi s + 1)) _ _)); rw [tot_wh hg (by omega)]
                · have hw : w < sW g + 1 := hw
                  show _ = nI (va_up (sF g) (sW g) _ w) ∧ _ = nI (va_up (sS g) (sW g) _ w) ∧ _ = nI (va_up (sR g) (sW g) _ w)
                  by_cases e : w = sW g
                  · rw [e, va_up_s, va_up_s, va_up_s]
                    refine ⟨?_, ?_, ?_⟩
                    · rw [rI_uI_at (by omega), rI_uI_at (by omega)]; exact eC0
                    · rw [rI_uI_at (by omega), rI_uI_at (by omega)]; exact eC1
                    · rw [rI_uI_at (by omega), rI_uI_at (by omega)]; exact eC2
                  · rw [va_up_n e, va_up_n e, va_up_n e, rd _ (by omega) (by omega) (by omega) (by omega) (by omega), rd _ (by omega) (by omega) (by omega) (by omega) (by omega), rd _ (by omega) (by omega) (by omega) (by omega) (by omega)]; exact mw w (by omega)
                · have hc : c < sC g := hc
                  rw [rd _ (by omega) (by omega) (by omega) (by omega) (by omega), rd _ (by omega) (by omega) (by omega) (by omega) (by omega), rd _ (by omega) (by omega) (by omega) (by omega) (by omega)]; exact mc c hc
                · have hm : m < sM g := hm
                  rw [rd _ (by omega) (by omega) (by omega) (by omega) (by omega)]; exact mm m hm
              · skip
                have c12 : ¬ (qe (tkn b n 2 11 (nx s))) = 0 := fun q => c12 ((nI_eq (a := (qe (tkn b n 2 11 (nx s)))) (b := 0) (by omega) (by omega)).mpr q)
                refine exf_go 1 (show Q (mk_) h2 from ?_)
                have eB : whB b n (tkn b n 2 11 (nx s)) = (tkn b n 2 11 (nx s)) := (if_neg (by rw [K42]; decide))
                have eC : whC b n (tkn b n 2 11 (nx s)) = (tkn b n 2 11 (nx s)) := (if_neg (by rw [K62]; decide))
                have eW : wh3 b n s = (tkn b n 2 11 (nx s)) := by unfold wh3; rw [show whA b n s = (tkn b n 2 11 (nx s)) from rfl, eB, eC]
                have ea : rWh b n (s, g, st, en, a, ah) = ((tkn b n 2 11 (nx s)), g, st, en, a, ah) := rH_no (show ¬ sW g = 4 by omega) eW (by omega)
                rw [ea] at k; exact k _ ((Fq.tr q1 q2).mono sRd_M) ⟨mp2, fun z => absurd z (show ¬ qe (tkn b n 2 11 (nx s)) = 0 by omega)⟩
            · skip
              exact absurd (by decide) c11
        · skip
          exact absurd (by decide) c8
    · skip
      have c2 : ¬ (qe s) = 0 := fun q => c2 ((nI_eq (a := (qe s)) (b := 0) (by omega) (by omega)).mpr q)
      exfalso; omega
  · skip
    have c1 : (sW g) = 4 := (nI_eq (a := (sW g)) (b := 4) (by omega) (by omega)).mp (Classical.not_not.mp c1)
    refine exf_go 3 (show wpC (d + 7) true 192 [.ref 130, .int 4] h (fun _ h' => Go (d + 7) true 197 17 [.ref 130, .int (nI (sW g)), mk_, mk_, mk_] [] h' Q) from ?_)
    refine m_fails (w := 4) mp (by omega) (fun h7 q7 mp7 => ?_)
    have hb7 := mp_b mp7
    have hz7 : ¬ qe (fl b n 4 s) = 0 := fl_ne (by omega)
    have iv7 : IV b n 0 (fl b n 4 s) := iv_fl2 iv (by decide)
    show Go (d + 7) true 197 17 [.ref 130, .int (nI (sW g)), mk_, mk_, mk_] [] h7 Q
    refine exf_go 2 (show Go (d + 7) true 197 21 [.ref 130, .int (nI (sW g)), mk_, mk_, mk_] [.int (rI h7 130 11)] h7 Q from ?_)
    rw [show (rI h7 130 11 : Int32) = nI (qe (fl b n 4 s)) from mp7.2.2.1.1]
    refine exf_go 1 (show ((nI (qe (fl b n 4 s))) = 0 → Go (d + 7) true 197 25 [.ref 130, .int (nI (sW g)), mk_, mk_, mk_] [] h7 Q) ∧ (¬ ((nI (qe (fl b n 4 s))) = 0) → Go (d + 7) true 197 24 [.ref 130, .int (nI (sW g)), mk_, mk_, mk_] [] h7 Q) from ⟨fun c13 => ?_, fun c13 => ?_⟩)
    · skip
      have c13 : (qe (fl b n 4 s)) = 0 := (nI_eq (a := (qe (fl b n 4 s))) (b := 0) (by omega) (by omega)).mp c13
      exfalso; omega
    · skip
      have c13 : ¬ (qe (fl b n 4 s)) = 0 := fun q => c13 ((nI_eq (a := (qe (fl b n 4 s))) (b := 0) (by omega) (by omega)).mpr q)
      refine exf_go 1 (show Q (mk_) h7 from ?_)
      have ea : rWh b n (s, g, st, en, a, ah) = ((fl b n 4 s), g, st, en, a, ah) := if_pos (show sW g = 4 by omega)
      rw [ea] at k; exact k _ (q7.mono sRd_M) ⟨mp7, fun z => absurd z (show ¬ qe (fl b n 4 s) = 0 by omega)⟩

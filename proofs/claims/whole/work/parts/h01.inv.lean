/-! What holds ahead of every call. -/
abbrev LwG : Type := ShG × DeG × (Nat → TrG) × TpG × (Nat → ImG) × Nat × Option Nat
def zg (s : LwG) : ShG := s.1
def ze (s : LwG) : DeG := s.2.1
def zr (s : LwG) : Nat → TrG := s.2.2.1
def zt (s : LwG) : TpG := s.2.2.2.1
def zm (s : LwG) : Nat → ImG := s.2.2.2.2.1
def zf (s : LwG) : Nat := s.2.2.2.2.2.1
def zp (s : LwG) : Option Nat := s.2.2.2.2.2.2
def IC (xs : Nat → Int32) (L : Nat) (s : LwG) (h : Hp) : Prop := (WF h ∧ rI h 0 = xs ∧ rL h 0 = L) ∧ CS 31 (zg s) h ∧ CD (zg s) (ze s) h ∧ CTA (zr s) h ∧ CTP (zt s) h ∧ (∀ i, i < 2 → CIM i (zm s i) h) ∧ (rI h 16 0 = nI (zf s) ∧ rI h 16 1 = oI (zp s)) ∧ rC h + ptC h ≤ 600000 ∧ rS h + ptS h ≤ 7302250
def IMo (s : LwG) (h : Hp) : Prop := MD (zg s) (ze s) h ∧ MTA (zr s) h ∧ MTP (zt s) h ∧ (∀ i, i < 2 → MIM i (zm s i) h) ∧ rI h 130 13 = nI (zf s) ∧ rI h 130 14 = oI (zp s)
/-- bars are as they must be, now, before, in images -/
def SB (s : LwG) : Prop := BarW (zg s) (ze s).1 ∧ (∀ k, k < (ze s).2.1 → BarW (zg s) ((ze s).2.2 k)) ∧ ∀ i, i < 2 → ∀ g l, zm s i = some (g, l) → BarW g l
def ModQ (h h1 : Hp) : Prop := ∀ a, 130 ≤ a → rI h1 a = rI h a ∧ rJ h1 a = rJ h a
def ClsQ (h h1 : Hp) : Prop := (∀ a, a < 130 → rI h1 a = rI h a ∧ rJ h1 a = rJ h a) ∧ h1.2.2 = h.2.2
theorem mq_g {s : Nat → Nat → Bool} {h h1 : Hp} (q : Gq s h h1) (hs : ∀ a i, 130 ≤ a → s a i = false) : ModQ h h1 := fun a ha => ⟨q.I (fun i => hs a i ha), q.J (fun i => hs a i ha)⟩
theorem cq_f {s : Nat → Nat → Bool} {h h1 : Hp} (q : Fq s h h1) (hs : ∀ a i, a < 130 → s a i = false) : ClsQ h h1 := ⟨fun a ha => ⟨q.I (fun i => hs a i ha), q.J (fun i => hs a i ha)⟩, q.2⟩
theorem cd_same {g : ShG} {e : DeG} {h h1 : Hp} (cd : CD g e h) (e1 : ∀ a, 39 ≤ a → a ≤ 70 → rI h1 a = rI h a) (ea : al h1 40 = al h 40) : CD g e h1 := by
  obtain ⟨cl, i, c1, c2, c3, c4, c5⟩ := cd
  refine ⟨cl_same cl (e1 39 (by omega) (by omega)) (e1 40 (by omega) (by omega)) (e1 41 (by omega) (by omega)) ea, i, c1, c2, by rw [e1 42 (by omega) (by omega)]; exact c3, by rw [e1 42 (by omega) (by omega)]; exact c4, fun k hk => ?_⟩
  obtain ⟨c, mk⟩ := c5 k hk
  have hm : (i + 8 - k) % 9 < 9 := Nat.mod_lt _ (by decide)
  exact ⟨c, mk_fq mk (e1 _ (by omega) (by omega)) (e1 _ (by omega) (by omega)) (e1 _ (by omega) (by omega))⟩
theorem ctp_same {t : TpG} {h h1 : Hp} (ct : CTP t h) (e1 : rI h1 10 1 = rI h 10 1) (e2 : rI h1 11 = rI h 11) : CTP t h1 := ⟨ct.1, e1.trans ct.2.1, fun i hi => by rw [e2]; exact ct.2.2 i hi⟩
theorem cim_same {j : Nat} {m : ImG} {h h1 : Hp} (hj : j < 2) (c : CIM j m h) (hz : ∀ a, 96 ≤ a → a ≤ 121 → a ≠ 98 → a ≠ 99 → rI h1 a = rI h a ∧ rL h1 a = rL h a ∧ rD h1 a = rD h a ∧ ∀ k, rN h1 a k = rN h a k) : CIM j m h1 := by
  have ho : ∀ a, ((100 + 8 * j ≤ a ∧ a ≤ 107 + 8 * j) ∨ (116 + 3 * j ≤ a ∧ a ≤ 118 + 3 * j)) → rI h1 a = rI h a ∧ rL h1 a = rL h a ∧ rD h1 a = rD h a ∧ ∀ k, rN h1 a k = rN h a k := fun a ha => hz a (by omega) (by omega) (by omega) (by omega)
  have n6 : rN h1 96 j = rN h 96 j := (hz 96 (by omega) (by omega) (by omega) (by omega)).2.2.2 j
  have n7 : rN h1 97 j = rN h 97 j := (hz 97 (by omega) (by omega) (by omega) (by omega)).2.2.2 j
  match m, c with
  | none, c => exact ⟨n6.trans c.1, n7.trans c.2.1, fun a u v => ((ho a (Or.inl ⟨u, v⟩)).2.2.1).trans (c.2.2.1 a u v), fun a u v => ((ho a (Or.inr ⟨u, v⟩)).2.2.1).trans (c.2.2.2.1 a u v), ((ho (117 + 3 * j) (by omega)).2.1).trans c.2.2.2.2⟩
  | some (g, l), c =>
    have s0 := ho (100 + 8 * j) (by omega)
    have b0 := ho (116 + 3 * j) (by omega)
    obtain ⟨c1, c2, c3, c4, c5, c6⟩ := c
    refine ⟨n6.trans c1, n7.trans c2, ?_, ?_, ?_, ?_⟩
    · unfold IMs at *
      simp only [s0.2.2.2]
      exact c3
    · unfold IMl at *
      simp only [b0.2.2.2]
      exact c4
    · unfold CS at *
      rw [s0.1, (ho (100 + 8 * j + 1) (by omega)).1, (ho (100 + 8 * j + 2) (by omega)).1, (ho (100 + 8 * j + 3) (by omega)).1, (ho (100 + 8 * j + 4) (by omega)).1, (ho (100 + 8 * j + 5) (by omega)).1, (ho (100 + 8 * j + 6) (by omega)).1, (ho (100 + 8 * j + 7) (by omega)).1]
      exact c5
    · unfold CL at *
      have e1 := ho (116 + 3 * j + 1) (by omega)
      have ea : al h1 (116 + 3 * j + 1) = al h (116 + 3 * j + 1) := by unfold al; rw [e1.2.1]
      rw [b0.1, e1.1, (ho (116 + 3 * j + 2) (by omega)).1, ea]
      exact c6
theorem md_same {g : ShG} {e : DeG} {h h1 : Hp} (md : MD g e h) (hq : ∀ i, i < 13841 → rI h1 131 i = rI h 131 i) : MD g e h1 := ⟨ma_cg md.1 (fun k hk _ => hq k hk), mh_D md.1.1.1 md.2 (fun i _ u => hq i (by omega))⟩
theorem mtp_same {t : TpG} {h h1 : Hp} (mt : MTP t h) (e1 : rI h1 130 5 = rI h 130 5) (e2 : ∀ i, rI h1 133 i = rI h 133 i) : MTP t h1 := ⟨mt.1, e1.trans mt.2.1, fun i hi => (e2 i).trans (mt.2.2 i hi)⟩
/-- what the class's asking leaves -/
theorem fz_C {a i : Nat} (h : (a < 71 ∨ 86 < a) ∧ a ≠ 98 ∧ a ≠ 99 ∧ a ≠ 10) : scC a i = false := by
  unfold scC
  rw [rng_o (lo := 71) (hi := 86) h.1, beq_no h.2.1, beq_no h.2.2.1, beq_no h.2.2.2]
  rfl
theorem fz_T {a i : Nat} (h : a < 88 ∨ 95 < a) : sTr a i = false := by
  unfold sTr
  exact rng_o h
theorem fz_P {a i : Nat} (h : a ≠ 10 ∧ a ≠ 11) : sTp a i = false := by
  unfold sTp
  rw [beq_no h.1, beq_no h.2]
  rfl
theorem fz_Y {a i : Nat} (h : (a < 39 ∨ 70 < a) ∧ a ≠ 10) : sYr a i = false := by
  unfold sYr
  rw [scH_n h.1, s17_f h.2]
  rfl
theorem fz_cp {a i : Nat} (h : (a < 71 ∨ 86 < a) ∧ a ≠ 98 ∧ a ≠ 99 ∧ a ≠ 10) (h2 : a < 88 ∨ 95 < a) : sCp a i = false := by
  unfold sCp
  rw [fz_C h, fz_T h2]
  rfl
theorem fz_Rs {a i : Nat} (h : a < 31 ∨ 42 < a) (h2 : a ≠ 99) : sRs a i = false := by
  unfold sRs
  rw [rng_o (lo := 31) (hi := 42) h, beq_no h2]
  rfl
theorem fz_Sf {a i : Nat} (h : a < 12 ∨ 30 < a) (h2 : a ≠ 10) : sSf a i = false := by
  unfold sSf
  rw [rng_o (lo := 12) (hi := 30) h, beq_no h2]
  rfl
theorem fz_Sd {a i : Nat} (h : a < 12 ∨ 42 < a) (h2 : a ≠ 99) (h3 : a ≠ 10) : sSd a i = false := by
  unfold sSd
  rw [rng_o (lo := 12) (hi := 42) h, beq_no h2, beq_no h3]
  rfl
theorem fz_M {a i : Nat} (h : a < 130) : scM a i = false := by
  unfold scM
  rw [rng_o (lo := 135) (hi := 148) (by omega), beq_no (by omega)]
  rfl
theorem fz_Tm {a i : Nat} (h : a < 130) : sTm a i = false := by
  unfold sTm
  rw [beq_no (y := 133) (by omega), beq_no (y := 130) (by omega)]
  rfl
theorem fz_De {a i : Nat} (h : a < 130) : sDe a i = false := by
  unfold sDe
  rw [fz_M h, beq_no (y := 131) (by omega)]
  rfl
theorem fz_Mt {a i : Nat} (h : a < 130) : sMt a i = false := by
  unfold sMt
  rw [fz_M h, rng_o (lo := 149) (hi := 151) (by omega)]
  rfl
theorem fz_Im {a i : Nat} (h : a < 130) : sIm a i = false := by
  unfold sIm
  rw [fz_M h, beq_no (y := 132) (by omega), beq_no (y := 131) (by omega)]
  rfl
theorem fz_Rm {a i : Nat} (h : a < 130) : sRm a i = false := by
  unfold sRm
  rw [fz_M h, beq_no (y := 131) (by omega)]
  rfl
theorem fz_S1 {a i : Nat} (h : a < 130) : sSm1 a i = false := by
  unfold sSm1
  rw [beq_no (y := 130) (by omega), rng_o (lo := 134) (hi := 148) (by omega)]
  rfl
theorem fz_Sm {a i : Nat} (h : a < 130) : sSm a i = false := by
  unfold sSm
  rw [fz_S1 h, beq_no (y := 131) (by omega)]
  rfl
theorem cim_g {w : Nat → Nat → Bool} {j : Nat} {m : ImG} {h h1 : Hp} (hj : j < 2) (c : CIM j m h) (q : Gq w h h1) (hw : ∀ a i, 96 ≤ a → a ≤ 121 → a ≠ 98 → a ≠ 99 → w a i = false) : CIM j m h1 := cim_same hj c (fun a u v x y => ⟨q.I (fun i => hw a i u v x y), q.2.2.1 a (hw a 0 u v x y), by rw [q.2.1.2], fun k => q.2.1.1 a k y⟩)
/-- the class's side goes on: what is kept by a frame, what is new is told -/
theorem ic_g {w : Nat → Nat → Bool} {xs : Nat → Int32} {L : Nat} {s s2 : LwG} {h h1 : Hp} (ic : IC xs L s h) (q : Gq w h h1) (h0 : ∀ i, w 0 i = false) (cs : CS 31 (zg s2) h1) (cd : CD (zg s2) (ze s2) h1) (ct : CTA (zr s2) h1) (cp : CTP (zt s2) h1) (ci : ∀ i, i < 2 → CIM i (zm s2 i) h1) (cf : rI h1 16 0 = nI (zf s2) ∧ rI h1 16 1 = oI (zp s2)) : IC xs L s2 h1 := ⟨⟨q.2.2.2.1 ic.1.1, (q.I h0).trans ic.1.2.1, (q.2.2.1 0 (h0 0)).trans ic.1.2.2⟩, cs, cd, ct, cp, ci, cf, Nat.le_trans q.2.2.2.2.1 ic.2.2.2.2.2.2.2.1, Nat.le_trans q.2.2.2.2.2 ic.2.2.2.2.2.2.2.2⟩
theorem ic_C {xs : Nat → Int32} {L : Nat} {s : LwG} {h h1 : Hp} (ic : IC xs L s h) (q : Gq scC h h1) : IC xs L s h1 := ic_g ic q (fun _ => rfl) (cs_gq ic.2.1 q) (cd_same ic.2.2.1 (fun a u v => q.I (fun _ => fz_C (by omega))) (q.A rfl)) (cta_gq ic.2.2.2.1 q (fun a x u v => fz_C (by omega))) (ctp_same ic.2.2.2.2.1 (q.1 10 1 rfl).1 (q.I (fun _ => rfl))) (fun i hi => cim_g hi (ic.2.2.2.2.2.1 i hi) q (fun a x u v y z => fz_C (by omega))) ⟨(q.1 16 0 rfl).1.trans ic.2.2.2.2.2.2.1.1, (q.1 16 1 rfl).1.trans ic.2.2.2.2.2.2.1.2⟩
theorem ic_cq {xs : Nat → Int32} {L : Nat} {s : LwG} {h h1 : Hp} (ic : IC xs L s h) (q : ClsQ h h1) : IC xs L s h1 := by
  have f : Fq (fun a _ => Nat.ble 130 a) h h1 := ⟨fun a i e => by
    have ha : a < 130 := by
      rcases Nat.lt_or_ge a 130 with z | z
      · exact z
      · have e : Nat.ble 130 a = false := e
        rw [Nat.ble_eq.mpr z] at e; exact absurd e (by decide)
    exact ⟨congrFun (q.1 a ha).1 i, congrFun (q.1 a ha).2 i⟩, q.2⟩
  have g := f.gq
  have hw : ∀ a i : Nat, a < 130 → (fun a (_ : Nat) => Nat.ble 130 a) a i = false := fun a i ha => ble_no (by omega)
  exact ic_g ic g (fun i => hw 0 i (by omega)) (cs_same ic.2.1 (fun a u v => (q.1 a (by omega)).1)) (cd_same ic.2.2.1 (fun a u v => (q.1 a (by omega)).1) (g.A rfl)) (cta_gq ic.2.2.2.1 g (fun a x u v => hw a x (by omega))) (ctp_same ic.2.2.2.2.1 (congrFun (q.1 10 (by omega)).1 1) (q.1 11 (by omega)).1) (fun i hi => cim_g hi (ic.2.2.2.2.2.1 i hi) g (fun a x u v y z => hw a x (by omega))) ⟨(congrFun (q.1 16 (by omega)).1 0).trans ic.2.2.2.2.2.2.1.1, (congrFun (q.1 16 (by omega)).1 1).trans ic.2.2.2.2.2.2.1.2⟩
theorem im_mq {s : LwG} {h h1 : Hp} (im : IMo s h) (q : ModQ h h1) : IMo s h1 := ⟨md_same im.1 (fun i _ => congrFun (q 131 (by omega)).1 i), fun t ht => mt_same (im.2.1 t ht) (congrFun (q 149 (by omega)).1 t) (congrFun (q 150 (by omega)).1 t) (fun i _ => congrFun (q 151 (by omega)).2 _), mtp_same im.2.2.1 (congrFun (q 130 (by omega)).1 5) (fun i => congrFun (q 133 (by omega)).1 i), fun i hi => mim_cg (im.2.2.2.1 i hi) (congrFun (q 132 (by omega)).1 i) (fun j _ _ => congrFun (q 131 (by omega)).1 j), (congrFun (q 130 (by omega)).1 13).trans im.2.2.2.2.1, (congrFun (q 130 (by omega)).1 14).trans im.2.2.2.2.2⟩
theorem im_M {s : LwG} {h h1 : Hp} (im : IMo s h) (q : Fq scM h h1) : IMo s h1 := ⟨md_same im.1 (fun i _ => (q.1 131 i rfl).1), mta_fq im.2.1 q (fun _ => rfl) (fun _ => rfl) (fun _ => rfl), mtp_same im.2.2.1 (q.1 130 5 rfl).1 (fun i => (q.1 133 i rfl).1), fun i hi => mim_cg (im.2.2.2.1 i hi) (q.1 132 i rfl).1 (fun j _ _ => (q.1 131 j rfl).1), (q.1 130 13 rfl).1.trans im.2.2.2.2.1, (q.1 130 14 rfl).1.trans im.2.2.2.2.2⟩
theorem De_hi {i : Nat} (h : 2940 ≤ i) : sDe 131 i = false := by
  unfold sDe
  rw [show scM 131 i = false from rfl, ble_no (x := i) (y := 2939) (by omega), Bool.and_false, Bool.and_false]
  rfl
theorem im_De {s : LwG} {e2 : DeG} {h h1 : Hp} (im : IMo s h) (q : Fq sDe h h1) (md : MD (zg s) e2 h1) : IMo (zg s, e2, s.2.2) h1 := ⟨md, mta_fq im.2.1 q (fun _ => rfl) (fun _ => rfl) (fun _ => rfl), mtp_same im.2.2.1 (q.1 130 5 rfl).1 (fun i => (q.1 133 i rfl).1), fun i hi => mim_cg (im.2.2.2.1 i hi) (q.1 132 i rfl).1 (fun j u _ => (q.1 131 j (De_hi (by omega))).1), (q.1 130 13 rfl).1.trans im.2.2.2.2.1, (q.1 130 14 rfl).1.trans im.2.2.2.2.2⟩
theorem im_Mt {s : LwG} {tr2 : Nat → TrG} {h h1 : Hp} (im : IMo s h) (q : Fq sMt h h1) (ma : MTA tr2 h1) : IMo (zg s, ze s, tr2, s.2.2.2) h1 := ⟨md_same im.1 (fun i _ => (q.1 131 i rfl).1), ma, mtp_same im.2.2.1 (q.1 130 5 rfl).1 (fun i => (q.1 133 i rfl).1), fun i hi => mim_cg (im.2.2.2.1 i hi) (q.1 132 i rfl).1 (fun j _ _ => (q.1 131 j rfl).1), (q.1 130 13 rfl).1.trans im.2.2.2.2.1, (q.1 130 14 rfl).1.trans im.2.2.2.2.2⟩
theorem im_Tm {s : LwG} {t2 : TpG} {h h1 : Hp} (im : IMo s h) (q : Fq sTm h h1) (mt : MTP t2 h1) : IMo (zg s, ze s, zr s, t2, s.2.2.2.2) h1 := ⟨md_same im.1 (fun i _ => (q.1 131 i rfl).1), mta_fq im.2.1 q (fun _ => rfl) (fun _ => rfl) (fun _ => rfl), mt, fun i hi => mim_cg (im.2.2.2.1 i hi) (q.1 132 i rfl).1 (fun j _ _ => (q.1 131 j rfl).1), (q.1 130 13 rfl).1.trans im.2.2.2.2.1, (q.1 130 14 rfl).1.trans im.2.2.2.2.2⟩
theorem im_Im {s : LwG} {m2 : Nat → ImG} {h h1 : Hp} (im : IMo s h) (q : Fq sIm h h1) (md : MD (zg s) (ze s) h1) (mi : ∀ i, i < 2 → MIM i (m2 i) h1) : IMo (zg s, ze s, zr s, zt s, m2, s.2.2.2.2.2) h1 := ⟨md, mta_fq im.2.1 q (fun _ => rfl) (fun _ => rfl) (fun _ => rfl), mtp_same im.2.2.1 (q.1 130 5 rfl).1 (fun i => (q.1 133 i rfl).1), mi, (q.1 130 13 rfl).1.trans im.2.2.2.2.1, (q.1 130 14 rfl).1.trans im.2.2.2.2.2⟩
theorem Rm_hi {i : Nat} (h : 13841 ≤ i) : sRm 131 i = false := by
  unfold sRm
  rw [show scM 131 i = false from rfl, ble_no (x := i) (y := 13840) (by omega), Bool.and_false]
  rfl
theorem Sm_hi {i : Nat} (h : 13841 ≤ i) : sSm 131 i = false := by
  unfold sSm
  rw [show sSm1 131 i = false from rfl, ble_no (x := i) (y := 13840) (by omega), Bool.and_false]
  rfl
theorem im_Rm {s : LwG} {g2 : ShG} {e2 : DeG} {h h1 : Hp} (im : IMo s h) (q : Fq sRm h h1) (md : MD g2 e2 h1) : IMo (g2, e2, s.2.2) h1 := ⟨md, mta_fq im.2.1 q (fun _ => rfl) (fun _ => rfl) (fun _ => rfl), mtp_same im.2.2.1 (q.1 130 5 rfl).1 (fun i => (q.1 133 i rfl).1), fun i hi => mim_cg (im.2.2.2.1 i hi) (q.1 132 i rfl).1 (fun j u _ => (q.1 131 j (Rm_hi (by omega))).1), (q.1 130 13 rfl).1.trans im.2.2.2.2.1, (q.1 130 14 rfl).1.trans im.2.2.2.2.2⟩
theorem ic_H {xs : Nat → Int32} {L : Nat} {s : LwG} {e2 : DeG} {h h1 : Hp} (ic : IC xs L s h) (q : Fq sYr h h1) (cd : CD (zg s) e2 h1) : IC xs L (zg s, e2, s.2.2) h1 := ic_g ic q.gq (fun _ => rfl) (cs_yr ic.2.1 q) cd (cta_gq ic.2.2.2.1 q.gq (fun a x u v => fz_Y (by omega))) (ctp_same ic.2.2.2.2.1 (q.1 10 1 rfl).1 (q.I (fun _ => rfl))) (fun i hi => cim_g hi (ic.2.2.2.2.2.1 i hi) q.gq (fun a x u v y z => fz_Y (by omega))) ⟨(q.1 16 0 rfl).1.trans ic.2.2.2.2.2.2.1.1, (q.1 16 1 rfl).1.trans ic.2.2.2.2.2.2.1.2⟩
theorem H_Y {h h1 : Hp} (q : Fq scH h h1) : Fq sYr h h1 := q.mono (fun a i e => (Bool.or_eq_false_iff.mp e).1)
theorem ic_T {xs : Nat → Int32} {L : Nat} {s : LwG} {tr2 : Nat → TrG} {h h1 : Hp} (ic : IC xs L s h) (q : Gq sCp h h1) (ct : CTA tr2 h1) : IC xs L (zg s, ze s, tr2, s.2.2.2) h1 := ic_g ic q (fun _ => rfl) (cs_same ic.2.1 (fun a u v => q.I (fun _ => fz_cp (by omega) (by omega)))) (cd_same ic.2.2.1 (fun a u v => q.I (fun _ => fz_cp (by omega) (by omega))) (q.A rfl)) ct (ctp_same ic.2.2.2.2.1 (q.1 10 1 rfl).1 (q.I (fun _ => rfl))) (fun i hi => cim_g hi (ic.2.2.2.2.2.1 i hi) q (fun a x u v y z => fz_cp (by omega) (by omega))) ⟨(q.1 16 0 rfl).1.trans ic.2.2.2.2.2.2.1.1, (q.1 16 1 rfl).1.trans ic.2.2.2.2.2.2.1.2⟩
theorem ic_P {xs : Nat → Int32} {L : Nat} {s : LwG} {t2 : TpG} {h h1 : Hp} (ic : IC xs L s h) (q : Fq sTp h h1) (cp : CTP t2 h1) : IC xs L (zg s, ze s, zr s, t2, s.2.2.2.2) h1 := ic_g ic q.gq (fun _ => rfl) (cs_same ic.2.1 (fun a u v => q.I (fun _ => fz_P (by omega)))) (cd_same ic.2.2.1 (fun a u v => q.I (fun _ => fz_P (by omega))) (q.L 40)) (cta_gq ic.2.2.2.1 q.gq (fun a x u v => fz_P (by omega))) cp (fun i hi => cim_g hi (ic.2.2.2.2.2.1 i hi) q.gq (fun a x u v y z => fz_P (by omega))) ⟨(q.1 16 0 rfl).1.trans ic.2.2.2.2.2.2.1.1, (q.1 16 1 rfl).1.trans ic.2.2.2.2.2.2.1.2⟩
theorem ic_Rs {xs : Nat → Int32} {L : Nat} {s : LwG} {g2 : ShG} {e2 : DeG} {h h1 : Hp} (ic : IC xs L s h) (q : Gq sRs h h1) (cs : CS 31 g2 h1) (cd : CD g2 e2 h1) : IC xs L (g2, e2, s.2.2) h1 := ic_g ic q (fun _ => rfl) cs cd (cta_gq ic.2.2.2.1 q (fun a x u v => fz_Rs (by omega) (by omega))) (ctp_same ic.2.2.2.2.1 (q.1 10 1 rfl).1 (q.I (fun _ => rfl))) (fun i hi => cim_g hi (ic.2.2.2.2.2.1 i hi) q (fun a x u v y z => fz_Rs (by omega) (by omega))) ⟨(q.1 16 0 rfl).1.trans ic.2.2.2.2.2.2.1.1, (q.1 16 1 rfl).1.trans ic.2.2.2.2.2.2.1.2⟩
theorem ic_N3 {xs : Nat → Int32} {L : Nat} {s : LwG} {h : Hp} (ic : IC xs L s h) : IC xs L s (hN3 h) := by
  obtain ⟨⟨w1, w2, w3⟩, c1, c2, c3, c4, c5, c6, c7⟩ := ic
  have hn : ∀ a k, a ≠ 16 → rN (hN3 h) a k = rN h a k := fun a k ha => (uN_ne (Or.inl ha)).trans ((uN_ne (Or.inl ha)).trans (uN_ne (Or.inl ha)))
  exact ⟨⟨wf_N3 w1, w2, w3⟩, c1, c2, c3, c4, fun i hi => cim_same hi (c5 i hi) (fun a u v y z => ⟨rfl, rfl, rfl, fun k => hn a k (by omega)⟩), c6, c7⟩
theorem ic_Sf {xs : Nat → Int32} {L : Nat} {s : LwG} {f2 : Nat} {p2 : Option Nat} {h h1 : Hp} (ic : IC xs L s h) (q : Gq sSf (hN3 h) h1) (ht : rI h1 10 1 = nI 0) (h0 : rI h1 16 0 = nI f2) (h1' : rI h1 16 1 = oI p2) : IC xs L (zg s, ze s, zr s, (0, (zt s).2), zm s, f2, p2) h1 := by
  have ic := ic_N3 ic
  exact ic_g ic q (fun _ => rfl) (cs_same ic.2.1 (fun a u v => q.I (fun _ => fz_Sf (by omega) (by omega)))) (cd_same ic.2.2.1 (fun a u v => q.I (fun _ => fz_Sf (by omega) (by omega))) (q.A rfl)) (cta_gq ic.2.2.2.1 q (fun a x u v => fz_Sf (by omega) (by omega))) ⟨⟨Nat.zero_le _, ic.2.2.2.2.1.1.2⟩, ht, fun i hi => absurd hi (Nat.not_lt_zero _)⟩ (fun i hi => cim_g hi (ic.2.2.2.2.2.1 i hi) q (fun a x u v y z => fz_Sf (by omega) (by omega))) ⟨h0, h1'⟩
theorem ic_Sd {xs : Nat → Int32} {L : Nat} {s : LwG} {g2 : ShG} {e2 : DeG} {h h1 : Hp} (ic : IC xs L s h) (q : Gq sSd (hN3 h) h1) (ht : rI h1 10 1 = nI 0) (cs : CS 31 g2 h1) (cd : CD g2 e2 h1) (h0 : rI h1 16 0 = nI 0) (h1' : rI h1 16 1 = -1) : IC xs L (g2, e2, zr s, (0, (zt s).2), zm s, 0, none) h1 := by
  have ic := ic_N3 ic
  exact ic_g ic q (fun _ => rfl) cs cd (cta_gq ic.2.2.2.1 q (fun a x u v => fz_Sd (by omega) (by omega) (by omega))) ⟨⟨Nat.zero_le _, ic.2.2.2.2.1.1.2⟩, ht, fun i hi => absurd hi (Nat.not_lt_zero _)⟩ (fun i hi => cim_g hi (ic.2.2.2.2.2.1 i hi) q (fun a x u v y z => fz_Sd (by omega) (by omega) (by omega))) ⟨h0, h1'⟩
theorem im_S1 {s : LwG} {f2 : Nat} {p2 : Option Nat} {h h1 : Hp} (im : IMo s h) (q : Fq sSm1 h h1) (ht : rI h1 130 5 = nI 0) (h0 : rI h1 130 13 = nI f2) (h1' : rI h1 130 14 = oI p2) : IMo (zg s, ze s, zr s, (0, (zt s).2), zm s, f2, p2) h1 := ⟨md_same im.1 (fun i _ => (q.1 131 i rfl).1), mta_fq im.2.1 q (fun _ => rfl) (fun _ => rfl) (fun _ => rfl), ⟨⟨Nat.zero_le _, im.2.2.1.1.2⟩, ht, fun i hi => absurd hi (Nat.not_lt_zero _)⟩, fun i hi => mim_cg (im.2.2.2.1 i hi) (q.1 132 i rfl).1 (fun j _ _ => (q.1 131 j rfl).1), h0, h1'⟩
theorem im_Sm {s : LwG} {g2 : ShG} {e2 : DeG} {h h1 : Hp} (im : IMo s h) (q : Fq sSm h h1) (ht : rI h1 130 5 = nI 0) (h0 : rI h1 130 13 = nI 0) (h1' : rI h1 130 14 = -1) (md : MD g2 e2 h1) : IMo (g2, e2, zr s, (0, (zt s).2), zm s, 0, none) h1 := ⟨md, mta_fq im.2.1 q (fun _ => rfl) (fun _ => rfl) (fun _ => rfl), ⟨⟨Nat.zero_le _, im.2.2.1.1.2⟩, ht, fun i hi => absurd hi (Nat.not_lt_zero _)⟩, fun i hi => mim_cg (im.2.2.2.1 i hi) (q.1 132 i rfl).1 (fun j u _ => (q.1 131 j (Sm_hi (by omega))).1), h0, h1'⟩
theorem ic_Iq {xs : Nat → Int32} {L : Nat} {s : LwG} {i : Nat} {m2 : Nat → ImG} {h h1 : Hp} (ic : IC xs L s h) (hi : i < 2) (q : Iq i h h1) (ci : ∀ j, j < 2 → CIM j (m2 j) h1) : IC xs L (zg s, ze s, zr s, zt s, m2, s.2.2.2.2.2) h1 := by
  have e : ∀ a, a < 99 → rI h1 a = rI h a := fun a ha => (q.1 a (iq_lo ha)).1
  have ej : ∀ a, a < 99 → rJ h1 a = rJ h a := fun a ha => (q.1 a (iq_lo ha)).2.1
  have el : ∀ a, a < 99 → rL h1 a = rL h a := fun a ha => (q.1 a (iq_lo ha)).2.2.1
  exact ⟨⟨q.2.1 ic.1.1, (e 0 (by omega)).trans ic.1.2.1, (el 0 (by omega)).trans ic.1.2.2⟩, cs_iq ic.2.1 q, cd_same ic.2.2.1 (fun a u v => e a (by omega)) (by unfold al; rw [el 40 (by omega)]), fun t ht => ct_same (ic.2.2.2.1 t ht) (e _ (by omega)) (ej _ (by omega)), ctp_same ic.2.2.2.2.1 (congrFun (e 10 (by omega)) 1) (e 11 (by omega)), ci, ⟨(congrFun (e 16 (by omega)) 0).trans ic.2.2.2.2.2.2.1.1, (congrFun (e 16 (by omega)) 1).trans ic.2.2.2.2.2.2.1.2⟩, Nat.le_trans q.2.2.1 ic.2.2.2.2.2.2.2.1, Nat.le_trans q.2.2.2 ic.2.2.2.2.2.2.2.2⟩
theorem mq_I {i : Nat} {h h1 : Hp} (hi : i < 2) (q : Iq i h h1) : ModQ h h1 := fun a ha => by
  have hf : sIc i a = false := by unfold sIc; rw [rng_o (lo := 100 + 8 * i) (hi := 107 + 8 * i) (by omega), rng_o (lo := 116 + 3 * i) (hi := 118 + 3 * i) (by omega), beq_no (y := 99) (by omega)]; rfl
  exact ⟨(q.1 a hf).1, (q.1 a hf).2.1⟩

/-! The law: a call on both sides. -/
theorem lw_feed {d : Nat} {h : Hp} {xs : Nat → Int32} {L i : Nat} {s : LwG} {Q : Po} (hL : L ≤ 3072) (hi : i + 6 ≤ L) (ic : IC xs L s h) (im : IMo s h) (sb : SB s) (k : ∀ s2 h2, IC xs L s2 h2 → IMo s2 h2 → SB s2 → Go (d + 150) true 0 1429 [.ref 0, .ref 10, .ref 130, .int (nI i)] [] h2 Q) : Go (d + 150) true 0 220 [.ref 0, .ref 10, .ref 130, .int (nI i)] [] h Q := by
  refine exf_go 5 (show Go (d + 150) true 0 225 [.ref 0, .ref 10, .ref 130, .int (nI i)] [.int ((nI i) + 1), .ref 0, .ref 10] h Q from ?_)
  rw [show ((nI i) + 1 : Int32) = nI (i + 1) from nI_add i 1]
  refine exf_go 1 (show vp_in (nI (i + 1)) (al h 0) ∧ (Go (d + 150) true 0 226 [.ref 0, .ref 10, .ref 130, .int (nI i)] [.int (rI h 0 ((nI (i + 1)).toNatClampNeg)), .ref 10] h Q) from ⟨(show vp_in (nI (i + 1)) (rL h 0) from by rw [ic.1.2.2]; exact vp_in_nI (by omega) (by omega)), ?_⟩)
  rw [show (rI h 0 ((nI (i + 1)).toNatClampNeg) : Int32) = xs (i + 1) from by rw [nI_clamp (by omega), ic.1.2.1]]
  refine exf_go 4 (show Go (d + 150) true 0 230 [.ref 0, .ref 10, .ref 130, .int (nI i)] [.int ((nI i) + 2), .ref 0, .int (xs (i + 1)), .ref 10] h Q from ?_)
  rw [show ((nI i) + 2 : Int32) = nI (i + 2) from nI_add i 2]
  refine exf_go 1 (show vp_in (nI (i + 2)) (al h 0) ∧ (Go (d + 150) true 0 231 [.ref 0, .ref 10, .ref 130, .int (nI i)] [.int (rI h 0 ((nI (i + 2)).toNatClampNeg)), .int (xs (i + 1)), .ref 10] h Q) from ⟨(show vp_in (nI (i + 2)) (rL h 0) from by rw [ic.1.2.2]; exact vp_in_nI (by omega) (by omega)), ?_⟩)
  rw [show (rI h 0 ((nI (i + 2)).toNatClampNeg) : Int32) = xs (i + 2) from by rw [nI_clamp (by omega), ic.1.2.1]]
  refine exf_go 4 (show Go (d + 150) true 0 235 [.ref 0, .ref 10, .ref 130, .int (nI i)] [.int ((nI i) + 3), .ref 0, .int (xs (i + 2)), .int (xs (i + 1)), .ref 10] h Q from ?_)
  rw [show ((nI i) + 3 : Int32) = nI (i + 3) from nI_add i 3]
  refine exf_go 1 (show vp_in (nI (i + 3)) (al h 0) ∧ (Go (d + 150) true 0 236 [.ref 0, .ref 10, .ref 130, .int (nI i)] [.int (rI h 0 ((nI (i + 3)).toNatClampNeg)), .int (xs (i + 2)), .int (xs (i + 1)), .ref 10] h Q) from ⟨(show vp_in (nI (i + 3)) (rL h 0) from by rw [ic.1.2.2]; exact vp_in_nI (by omega) (by omega)), ?_⟩)
  rw [show (rI h 0 ((nI (i + 3)).toNatClampNeg) : Int32) = xs (i + 3) from by rw [nI_clamp (by omega), ic.1.2.1]]
  refine exf_go 4 (show Go (d + 150) true 0 240 [.ref 0, .ref 10, .ref 130, .int (nI i)] [.int ((nI i) + 4), .ref 0, .int (xs (i + 3)), .int (xs (i + 2)), .int (xs (i + 1)), .ref 10] h Q from ?_)
  rw [show ((nI i) + 4 : Int32) = nI (i + 4) from nI_add i 4]
  refine exf_go 1 (show vp_in (nI (i + 4)) (al h 0) ∧ (Go (d + 150) true 0 241 [.ref 0, .ref 10, .ref 130, .int (nI i)] [.int (rI h 0 ((nI (i + 4)).toNatClampNeg)), .int (xs (i + 3)), .int (xs (i + 2)), .int (xs (i + 1)), .ref 10] h Q) from ⟨(show vp_in (nI (i + 4)) (rL h 0) from by rw [ic.1.2.2]; exact vp_in_nI (by omega) (by omega)), ?_⟩)
  rw [show (rI h 0 ((nI (i + 4)).toNatClampNeg) : Int32) = xs (i + 4) from by rw [nI_clamp (by omega), ic.1.2.1]]
  refine exf_go 4 (show Go (d + 150) true 0 245 [.ref 0, .ref 10, .ref 130, .int (nI i)] [.int ((nI i) + 5), .ref 0, .int (xs (i + 4)), .int (xs (i + 3)), .int (xs (i + 2)), .int (xs (i + 1)), .ref 10] h Q from ?_)
  rw [show ((nI i) + 5 : Int32) = nI (i + 5) from nI_add i 5]
  refine exf_go 1 (show vp_in (nI (i + 5)) (al h 0) ∧ (Go (d + 150) true 0 246 [.ref 0, .ref 10, .ref 130, .int (nI i)] [.int (rI h 0 ((nI (i + 5)).toNatClampNeg)), .int (xs (i + 4)), .int (xs (i + 3)), .int (xs (i + 2)), .int (xs (i + 1)), .ref 10] h Q) from ⟨(show vp_in (nI (i + 5)) (rL h 0) from by rw [ic.1.2.2]; exact vp_in_nI (by omega) (by omega)), ?_⟩)
  rw [show (rI h 0 ((nI (i + 5)).toNatClampNeg) : Int32) = xs (i + 5) from by rw [nI_clamp (by omega), ic.1.2.1]]
  refine exf_go 1 (show wpC (d + 150) true 112 [.ref 10, .int (xs (i + 1)), .int (xs (i + 2)), .int (xs (i + 3)), .int (xs (i + 4)), .int (xs (i + 5))] h (fun r h' => Go (d + 150) true 0 249 [.ref 0, .ref 10, .ref 130, .int (nI i)] [r] h' Q) from ?_)
  refine c_feed ic.2.2.2.2.1 (fun h1 q1 ct1 => ?_)
  have ic1 := ic_P ic q1 ct1; have im1 := im_mq im (mq_g q1.gq (fun a i ha => fz_P (by omega)))
  show Go (d + 150) true 0 249 [.ref 0, .ref 10, .ref 130, .int (nI i)] [.int ((dFeed (zt s) (xs (i + 1)) (xs (i + 2)) (xs (i + 3)) (xs (i + 4)) (xs (i + 5))).2)] h1 Q
  refine exf_go 5 (show Go (d + 150) true 0 254 [.ref 0, .ref 10, .ref 130, .int (nI i)] [.int ((nI i) + 1), .ref 0, .ref 130, .int ((dFeed (zt s) (xs (i + 1)) (xs (i + 2)) (xs (i + 3)) (xs (i + 4)) (xs (i + 5))).2)] h1 Q from ?_)
  rw [show ((nI i) + 1 : Int32) = nI (i + 1) from nI_add i 1]
  refine exf_go 1 (show vp_in (nI (i + 1)) (al h1 0) ∧ (Go (d + 150) true 0 255 [.ref 0, .ref 10, .ref 130, .int (nI i)] [.int (rI h1 0 ((nI (i + 1)).toNatClampNeg)), .ref 130, .int ((dFeed (zt s) (xs (i + 1)) (xs (i + 2)) (xs (i + 3)) (xs (i + 4)) (xs (i + 5))).2)] h1 Q) from ⟨(show vp_in (nI (i + 1)) (rL h1 0) from by rw [ic1.1.2.2]; exact vp_in_nI (by omega) (by omega)), ?_⟩)
  rw [show (rI h1 0 ((nI (i + 1)).toNatClampNeg) : Int32) = xs (i + 1) from by rw [nI_clamp (by omega), ic1.1.2.1]]
  refine exf_go 4 (show Go (d + 150) true 0 259 [.ref 0, .ref 10, .ref 130, .int (nI i)] [.int ((nI i) + 2), .ref 0, .int (xs (i + 1)), .ref 130, .int ((dFeed (zt s) (xs (i + 1)) (xs (i + 2)) (xs (i + 3)) (xs (i + 4)) (xs (i + 5))).2)] h1 Q from ?_)
  rw [show ((nI i) + 2 : Int32) = nI (i + 2) from nI_add i 2]
  refine exf_go 1 (show vp_in (nI (i + 2)) (al h1 0) ∧ (Go (d + 150) true 0 260 [.ref 0, .ref 10, .ref 130, .int (nI i)] [.int (rI h1 0 ((nI (i + 2)).toNatClampNeg)), .int (xs (i + 1)), .ref 130, .int ((dFeed (zt s) (xs (i + 1)) (xs (i + 2)) (xs (i + 3)) (xs (i + 4)) (xs (i + 5))).2)] h1 Q) from ⟨(show vp_in (nI (i + 2)) (rL h1 0) from by rw [ic1.1.2.2]; exact vp_in_nI (by omega) (by omega)), ?_⟩)
  rw [show (rI h1 0 ((nI (i + 2)).toNatClampNeg) : Int32) = xs (i + 2) from by rw [nI_clamp (by omega), ic1.1.2.1]]
  refine exf_go 4 (show Go (d + 150) true 0 264 [.ref 0, .ref 10, .ref 130, .int (nI i)] [.int ((nI i) + 3), .ref 0, .int (xs (i + 2)), .int (xs (i + 1)), .ref 130, .int ((dFeed (zt s) (xs (i + 1)) (xs (i + 2)) (xs (i + 3)) (xs (i + 4)) (xs (i + 5))).2)] h1 Q from ?_)
  rw [show ((nI i) + 3 : Int32) = nI (i + 3) from nI_add i 3]
  refine exf_go 1 (show vp_in (nI (i + 3)) (al h1 0) ∧ (Go (d + 150) true 0 265 [.ref 0, .ref 10, .ref 130, .int (nI i)] [.int (rI h1 0 ((nI (i + 3)).toNatClampNeg)), .int (xs (i + 2)), .int (xs (i + 1)), .ref 130, .int ((dFeed (zt s) (xs (i + 1)) (xs (i + 2)) (xs (i + 3)) (xs (i + 4)) (xs (i + 5))).2)] h1 Q) from ⟨(show vp_in (nI (i + 3)) (rL h1 0) from by rw [ic1.1.2.2]; exact vp_in_nI (by omega) (by omega)), ?_⟩)
  rw [show (rI h1 0 ((nI (i + 3)).toNatClampNeg) : Int32) = xs (i + 3) from by rw [nI_clamp (by omega), ic1.1.2.1]]
  refine exf_go 4 (show Go (d + 150) true 0 269 [.ref 0, .ref 10, .ref 130, .int (nI i)] [.int ((nI i) + 4), .ref 0, .int (xs (i + 3)), .int (xs (i + 2)), .int (xs (i + 1)), .ref 130, .int ((dFeed (zt s) (xs (i + 1)) (xs (i + 2)) (xs (i + 3)) (xs (i + 4)) (xs (i + 5))).2)] h1 Q from ?_)
  rw [show ((nI i) + 4 : Int32) = nI (i + 4) from nI_add i 4]
  refine exf_go 1 (show vp_in (nI (i + 4)) (al h1 0) ∧ (Go (d + 150) true 0 270 [.ref 0, .ref 10, .ref 130, .int (nI i)] [.int (rI h1 0 ((nI (i + 4)).toNatClampNeg)), .int (xs (i + 3)), .int (xs (i + 2)), .int (xs (i + 1)), .ref 130, .int ((dFeed (zt s) (xs (i + 1)) (xs (i + 2)) (xs (i + 3)) (xs (i + 4)) (xs (i + 5))).2)] h1 Q) from ⟨(show vp_in (nI (i + 4)) (rL h1 0) from by rw [ic1.1.2.2]; exact vp_in_nI (by omega) (by omega)), ?_⟩)
  rw [show (rI h1 0 ((nI (i + 4)).toNatClampNeg) : Int32) = xs (i + 4) from by rw [nI_clamp (by omega), ic1.1.2.1]]
  refine exf_go 4 (show Go (d + 150) true 0 274 [.ref 0, .ref 10, .ref 130, .int (nI i)] [.int ((nI i) + 5), .ref 0, .int (xs (i + 4)), .int (xs (i + 3)), .int (xs (i + 2)), .int (xs (i + 1)), .ref 130, .int ((dFeed (zt s) (xs (i + 1)) (xs (i + 2)) (xs (i + 3)) (xs (i + 4)) (xs (i + 5))).2)] h1 Q from ?_)
  rw [show ((nI i) + 5 : Int32) = nI (i + 5) from nI_add i 5]
  refine exf_go 1 (show vp_in (nI (i + 5)) (al h1 0) ∧ (Go (d + 150) true 0 275 [.ref 0, .ref 10, .ref 130, .int (nI i)] [.int (rI h1 0 ((nI (i + 5)).toNatClampNeg)), .int (xs (i + 4)), .int (xs (i + 3)), .int (xs (i + 2)), .int (xs (i + 1)), .ref 130, .int ((dFeed (zt s) (xs (i + 1)) (xs (i + 2)) (xs (i + 3)) (xs (i + 4)) (xs (i + 5))).2)] h1 Q) from ⟨(show vp_in (nI (i + 5)) (rL h1 0) from by rw [ic1.1.2.2]; exact vp_in_nI (by omega) (by omega)), ?_⟩)
  rw [show (rI h1 0 ((nI (i + 5)).toNatClampNeg) : Int32) = xs (i + 5) from by rw [nI_clamp (by omega), ic1.1.2.1]]
  refine exf_go 1 (show wpC (d + 150) true 186 [.ref 130, .int (xs (i + 1)), .int (xs (i + 2)), .int (xs (i + 3)), .int (xs (i + 4)), .int (xs (i + 5))] h1 (fun r h' => Go (d + 150) true 0 278 [.ref 0, .ref 10, .ref 130, .int (nI i)] [r, .int ((dFeed (zt s) (xs (i + 1)) (xs (i + 2)) (xs (i + 3)) (xs (i + 4)) (xs (i + 5))).2)] h' Q) from ?_)
  refine m_feed (t := zt s) im1.2.2.1 (fun h2 q2 mt2 => ?_)
  have im2 := im_Tm im1 q2 mt2; have ic2 := ic_cq ic1 (cq_f q2 (fun a i ha => fz_Tm ha)); have sb2 : SB (zg s, ze s, zr s, (dFeed (zt s) (xs (i + 1)) (xs (i + 2)) (xs (i + 3)) (xs (i + 4)) (xs (i + 5))).1, s.2.2.2.2) := ⟨sb.1, sb.2⟩
  show Go (d + 150) true 0 278 [.ref 0, .ref 10, .ref 130, .int (nI i)] [.int ((dFeed (zt s) (xs (i + 1)) (xs (i + 2)) (xs (i + 3)) (xs (i + 4)) (xs (i + 5))).2), .int ((dFeed (zt s) (xs (i + 1)) (xs (i + 2)) (xs (i + 3)) (xs (i + 4)) (xs (i + 5))).2)] h2 Q
  refine exf_go 1 (show (((dFeed (zt s) (xs (i + 1)) (xs (i + 2)) (xs (i + 3)) (xs (i + 4)) (xs (i + 5))).2) = ((dFeed (zt s) (xs (i + 1)) (xs (i + 2)) (xs (i + 3)) (xs (i + 4)) (xs (i + 5))).2) → Go (d + 150) true 0 1429 [.ref 0, .ref 10, .ref 130, .int (nI i)] [] h2 Q) ∧ (¬ (((dFeed (zt s) (xs (i + 1)) (xs (i + 2)) (xs (i + 3)) (xs (i + 4)) (xs (i + 5))).2) = ((dFeed (zt s) (xs (i + 1)) (xs (i + 2)) (xs (i + 3)) (xs (i + 4)) (xs (i + 5))).2)) → Go (d + 150) true 0 281 [.ref 0, .ref 10, .ref 130, .int (nI i)] [] h2 Q) from ⟨fun c1 => ?_, fun c1 => ?_⟩)
  · skip
    exact k _ h2 ic2 im2 sb2
  · skip
    exact absurd rfl c1
theorem lw_fault {d : Nat} {h : Hp} {xs : Nat → Int32} {L i : Nat} {s : LwG} {Q : Po} (hL : L ≤ 3072) (hi : i + 6 ≤ L) (ic : IC xs L s h) (im : IMo s h) (sb : SB s) (k : ∀ s2 h2, IC xs L s2 h2 → IMo s2 h2 → SB s2 → Go (d + 150) true 0 1429 [.ref 0, .ref 10, .ref 130, .int (nI i)] [] h2 Q) : Go (d + 150) true 0 306 [.ref 0, .ref 10, .ref 130, .int (nI i)] [] h Q := by
  refine exf_go 5 (show Go (d + 150) true 0 311 [.ref 0, .ref 10, .ref 130, .int (nI i)] [.int ((nI i) + 1), .ref 0, .ref 10] h Q from ?_)
  rw [show ((nI i) + 1 : Int32) = nI (i + 1) from nI_add i 1]
  refine exf_go 1 (show vp_in (nI (i + 1)) (al h 0) ∧ (Go (d + 150) true 0 312 [.ref 0, .ref 10, .ref 130, .int (nI i)] [.int (rI h 0 ((nI (i + 1)).toNatClampNeg)), .ref 10] h Q) from ⟨(show vp_in (nI (i + 1)) (rL h 0) from by rw [ic.1.2.2]; exact vp_in_nI (by omega) (by omega)), ?_⟩)
  rw [show (rI h 0 ((nI (i + 1)).toNatClampNeg) : Int32) = xs (i + 1) from by rw [nI_clamp (by omega), ic.1.2.1]]
  refine exf_go 1 (show wpC (d + 150) true 114 [.ref 10, .int (xs (i + 1))] h (fun r h' => Go (d + 150) true 0 315 [.ref 0, .ref 10, .ref 130, .int (nI i)] [r] h' Q) from ?_)
  refine c_fault ic.2.2.2.2.2.2.1.1 ic.2.2.2.2.2.2.1.2 ?_
  have ic1 := ic; have im1 := im
  show Go (d + 150) true 0 315 [.ref 0, .ref 10, .ref 130, .int (nI i)] [.int (fFault (zf s) (zp s) (xs (i + 1)))] h Q
  refine exf_go 5 (show Go (d + 150) true 0 320 [.ref 0, .ref 10, .ref 130, .int (nI i)] [.int ((nI i) + 1), .ref 0, .ref 130, .int (fFault (zf s) (zp s) (xs (i + 1)))] h Q from ?_)
  rw [show ((nI i) + 1 : Int32) = nI (i + 1) from nI_add i 1]
  refine exf_go 1 (show vp_in (nI (i + 1)) (al h 0) ∧ (Go (d + 150) true 0 321 [.ref 0, .ref 10, .ref 130, .int (nI i)] [.int (rI h 0 ((nI (i + 1)).toNatClampNeg)), .ref 130, .int (fFault (zf s) (zp s) (xs (i + 1)))] h Q) from ⟨(show vp_in (nI (i + 1)) (rL h 0) from by rw [ic.1.2.2]; exact vp_in_nI (by omega) (by omega)), ?_⟩)
  rw [show (rI h 0 ((nI (i + 1)).toNatClampNeg) : Int32) = xs (i + 1) from by rw [nI_clamp (by omega), ic.1.2.1]]
  refine exf_go 1 (show wpC (d + 150) true 217 [.ref 130, .int (xs (i + 1))] h (fun r h' => Go (d + 150) true 0 324 [.ref 0, .ref 10, .ref 130, .int (nI i)] [r, .int (fFault (zf s) (zp s) (xs (i + 1)))] h' Q) from ?_)
  refine m_fault im1.2.2.2.2.1 im1.2.2.2.2.2 (fun h2 q2 => ?_)
  have im2 := im_M im1 q2; have ic2 := ic_cq ic1 (cq_f q2 (fun a i ha => fz_M ha)); have sb2 := sb
  show Go (d + 150) true 0 324 [.ref 0, .ref 10, .ref 130, .int (nI i)] [.int (fFault (zf s) (zp s) (xs (i + 1))), .int (fFault (zf s) (zp s) (xs (i + 1)))] h2 Q
  refine exf_go 1 (show ((fFault (zf s) (zp s) (xs (i + 1))) = (fFault (zf s) (zp s) (xs (i + 1))) → Go (d + 150) true 0 1429 [.ref 0, .ref 10, .ref 130, .int (nI i)] [] h2 Q) ∧ (¬ ((fFault (zf s) (zp s) (xs (i + 1))) = (fFault (zf s) (zp s) (xs (i + 1)))) → Go (d + 150) true 0 327 [.ref 0, .ref 10, .ref 130, .int (nI i)] [] h2 Q) from ⟨fun c1 => ?_, fun c1 => ?_⟩)
  · skip
    exact k _ h2 ic2 im2 sb2
  · skip
    exact absurd rfl c1
theorem lw_wheel {d : Nat} {h : Hp} {xs : Nat → Int32} {L i : Nat} {s : LwG} {Q : Po} (hL : L ≤ 3072) (hi : i + 6 ≤ L) (ic : IC xs L s h) (im : IMo s h) (sb : SB s) (k : ∀ s2 h2, IC xs L s2 h2 → IMo s2 h2 → SB s2 → Go (d + 150) true 0 1429 [.ref 0, .ref 10, .ref 130, .int (nI i)] [] h2 Q) : Go (d + 150) true 0 329 [.ref 0, .ref 10, .ref 130, .int (nI i)] [] h Q := by
  refine exf_go 5 (show Go (d + 150) true 0 334 [.ref 0, .ref 10, .ref 130, .int (nI i)] [.int ((nI i) + 1), .ref 0, .ref 10] h Q from ?_)
  rw [show ((nI i) + 1 : Int32) = nI (i + 1) from nI_add i 1]
  refine exf_go 1 (show vp_in (nI (i + 1)) (al h 0) ∧ (Go (d + 150) true 0 335 [.ref 0, .ref 10, .ref 130, .int (nI i)] [.int (rI h 0 ((nI (i + 1)).toNatClampNeg)), .ref 10] h Q) from ⟨(show vp_in (nI (i + 1)) (rL h 0) from by rw [ic.1.2.2]; exact vp_in_nI (by omega) (by omega)), ?_⟩)
  rw [show (rI h 0 ((nI (i + 1)).toNatClampNeg) : Int32) = xs (i + 1) from by rw [nI_clamp (by omega), ic.1.2.1]]
  refine exf_go 4 (show Go (d + 150) true 0 339 [.ref 0, .ref 10, .ref 130, .int (nI i)] [.int ((nI i) + 2), .ref 0, .int (xs (i + 1)), .ref 10] h Q from ?_)
  rw [show ((nI i) + 2 : Int32) = nI (i + 2) from nI_add i 2]
  refine exf_go 1 (show vp_in (nI (i + 2)) (al h 0) ∧ (Go (d + 150) true 0 340 [.ref 0, .ref 10, .ref 130, .int (nI i)] [.int (rI h 0 ((nI (i + 2)).toNatClampNeg)), .int (xs (i + 1)), .ref 10] h Q) from ⟨(show vp_in (nI (i + 2)) (rL h 0) from by rw [ic.1.2.2]; exact vp_in_nI (by omega) (by omega)), ?_⟩)
  rw [show (rI h 0 ((nI (i + 2)).toNatClampNeg) : Int32) = xs (i + 2) from by rw [nI_clamp (by omega), ic.1.2.1]]
  refine exf_go 1 (show wpC (d + 150) true 115 [.ref 10, .int (xs (i + 1)), .int (xs (i + 2))] h (fun r h' => Go (d + 150) true 0 343 [.ref 0, .ref 10, .ref 130, .int (nI i)] [r] h' Q) from ?_)
  refine c_wheel ic.2.1 ic.2.2.1.1 ?_
  have ic1 := ic; have im1 := im
  show Go (d + 150) true 0 343 [.ref 0, .ref 10, .ref 130, .int (nI i)] [.int (fWheel (zg s) (ze s).1 (xs (i + 1)) (xs (i + 2)))] h Q
  refine exf_go 5 (show Go (d + 150) true 0 348 [.ref 0, .ref 10, .ref 130, .int (nI i)] [.int ((nI i) + 1), .ref 0, .ref 130, .int (fWheel (zg s) (ze s).1 (xs (i + 1)) (xs (i + 2)))] h Q from ?_)
  rw [show ((nI i) + 1 : Int32) = nI (i + 1) from nI_add i 1]
  refine exf_go 1 (show vp_in (nI (i + 1)) (al h 0) ∧ (Go (d + 150) true 0 349 [.ref 0, .ref 10, .ref 130, .int (nI i)] [.int (rI h 0 ((nI (i + 1)).toNatClampNeg)), .ref 130, .int (fWheel (zg s) (ze s).1 (xs (i + 1)) (xs (i + 2)))] h Q) from ⟨(show vp_in (nI (i + 1)) (rL h 0) from by rw [ic.1.2.2]; exact vp_in_nI (by omega) (by omega)), ?_⟩)
  rw [show (rI h 0 ((nI (i + 1)).toNatClampNeg) : Int32) = xs (i + 1) from by rw [nI_clamp (by omega), ic.1.2.1]]
  refine exf_go 4 (show Go (d + 150) true 0 353 [.ref 0, .ref 10, .ref 130, .int (nI i)] [.int ((nI i) + 2), .ref 0, .int (xs (i + 1)), .ref 130, .int (fWheel (zg s) (ze s).1 (xs (i + 1)) (xs (i + 2)))] h Q from ?_)
  rw [show ((nI i) + 2 : Int32) = nI (i + 2) from nI_add i 2]
  refine exf_go 1 (show vp_in (nI (i + 2)) (al h 0) ∧ (Go (d + 150) true 0 354 [.ref 0, .ref 10, .ref 130, .int (nI i)] [.int (rI h 0 ((nI (i + 2)).toNatClampNeg)), .int (xs (i + 1)), .ref 130, .int (fWheel (zg s) (ze s).1 (xs (i + 1)) (xs (i + 2)))] h Q) from ⟨(show vp_in (nI (i + 2)) (rL h 0) from by rw [ic.1.2.2]; exact vp_in_nI (by omega) (by omega)), ?_⟩)
  rw [show (rI h 0 ((nI (i + 2)).toNatClampNeg) : Int32) = xs (i + 2) from by rw [nI_clamp (by omega), ic.1.2.1]]
  refine exf_go 1 (show wpC (d + 150) true 232 [.ref 130, .int (xs (i + 1)), .int (xs (i + 2))] h (fun r h' => Go (d + 150) true 0 357 [.ref 0, .ref 10, .ref 130, .int (nI i)] [r, .int (fWheel (zg s) (ze s).1 (xs (i + 1)) (xs (i + 2)))] h' Q) from ?_)
  refine m_wheel im1.1.1 (fun h2 q2 => ?_)
  have im2 := im_M im1 q2; have ic2 := ic_cq ic1 (cq_f q2 (fun a i ha => fz_M ha)); have sb2 := sb
  show Go (d + 150) true 0 357 [.ref 0, .ref 10, .ref 130, .int (nI i)] [.int (fWheel (zg s) (ze s).1 (xs (i + 1)) (xs (i + 2))), .int (fWheel (zg s) (ze s).1 (xs (i + 1)) (xs (i + 2)))] h2 Q
  refine exf_go 1 (show ((fWheel (zg s) (ze s).1 (xs (i + 1)) (xs (i + 2))) = (fWheel (zg s) (ze s).1 (xs (i + 1)) (xs (i + 2))) → Go (d + 150) true 0 1429 [.ref 0, .ref 10, .ref 130, .int (nI i)] [] h2 Q) ∧ (¬ ((fWheel (zg s) (ze s).1 (xs (i + 1)) (xs (i + 2))) = (fWheel (zg s) (ze s).1 (xs (i + 1)) (xs (i + 2)))) → Go (d + 150) true 0 360 [.ref 0, .ref 10, .ref 130, .int (nI i)] [] h2 Q) from ⟨fun c1 => ?_, fun c1 => ?_⟩)
  · skip
    exact k _ h2 ic2 im2 sb2
  · skip
    exact absurd rfl c1
theorem lw_holds {d : Nat} {h : Hp} {xs : Nat → Int32} {L i : Nat} {s : LwG} {Q : Po} (hL : L ≤ 3072) (hi : i + 6 ≤ L) (ic : IC xs L s h) (im : IMo s h) (sb : SB s) (k : ∀ s2 h2, IC xs L s2 h2 → IMo s2 h2 → SB s2 → Go (d + 150) true 0 1429 [.ref 0, .ref 10, .ref 130, .int (nI i)] [] h2 Q) : Go (d + 150) true 0 362 [.ref 0, .ref 10, .ref 130, .int (nI i)] [] h Q := by
  refine exf_go 5 (show Go (d + 150) true 0 367 [.ref 0, .ref 10, .ref 130, .int (nI i)] [.int ((nI i) + 1), .ref 0, .ref 10] h Q from ?_)
  rw [show ((nI i) + 1 : Int32) = nI (i + 1) from nI_add i 1]
  refine exf_go 1 (show vp_in (nI (i + 1)) (al h 0) ∧ (Go (d + 150) true 0 368 [.ref 0, .ref 10, .ref 130, .int (nI i)] [.int (rI h 0 ((nI (i + 1)).toNatClampNeg)), .ref 10] h Q) from ⟨(show vp_in (nI (i + 1)) (rL h 0) from by rw [ic.1.2.2]; exact vp_in_nI (by omega) (by omega)), ?_⟩)
  rw [show (rI h 0 ((nI (i + 1)).toNatClampNeg) : Int32) = xs (i + 1) from by rw [nI_clamp (by omega), ic.1.2.1]]
  refine exf_go 4 (show Go (d + 150) true 0 372 [.ref 0, .ref 10, .ref 130, .int (nI i)] [.int ((nI i) + 2), .ref 0, .int (xs (i + 1)), .ref 10] h Q from ?_)
  rw [show ((nI i) + 2 : Int32) = nI (i + 2) from nI_add i 2]
  refine exf_go 1 (show vp_in (nI (i + 2)) (al h 0) ∧ (Go (d + 150) true 0 373 [.ref 0, .ref 10, .ref 130, .int (nI i)] [.int (rI h 0 ((nI (i + 2)).toNatClampNeg)), .int (xs (i + 1)), .ref 10] h Q) from ⟨(show vp_in (nI (i + 2)) (rL h 0) from by rw [ic.1.2.2]; exact vp_in_nI (by omega) (by omega)), ?_⟩)
  rw [show (rI h 0 ((nI (i + 2)).toNatClampNeg) : Int32) = xs (i + 2) from by rw [nI_clamp (by omega), ic.1.2.1]]
  refine exf_go 1 (show wpC (d + 150) true 116 [.ref 10, .int (xs (i + 1)), .int (xs (i + 2))] h (fun r h' => Go (d + 150) true 0 376 [.ref 0, .ref 10, .ref 130, .int (nI i)] [r] h' Q) from ?_)
  refine c_holds ic.2.1 ic.2.2.1.1 ?_
  have ic1 := ic; have im1 := im
  show Go (d + 150) true 0 376 [.ref 0, .ref 10, .ref 130, .int (nI i)] [.int (fHolds (zg s) (xs (i + 1)) (xs (i + 2)))] h Q
  refine exf_go 5 (show Go (d + 150) true 0 381 [.ref 0, .ref 10, .ref 130, .int (nI i)] [.int ((nI i) + 1), .ref 0, .ref 130, .int (fHolds (zg s) (xs (i + 1)) (xs (i + 2)))] h Q from ?_)
  rw [show ((nI i) + 1 : Int32) = nI (i + 1) from nI_add i 1]
  refine exf_go 1 (show vp_in (nI (i + 1)) (al h 0) ∧ (Go (d + 150) true 0 382 [.ref 0, .ref 10, .ref 130, .int (nI i)] [.int (rI h 0 ((nI (i + 1)).toNatClampNeg)), .ref 130, .int (fHolds (zg s) (xs (i + 1)) (xs (i + 2)))] h Q) from ⟨(show vp_in (nI (i + 1)) (rL h 0) from by rw [ic.1.2.2]; exact vp_in_nI (by omega) (by omega)), ?_⟩)
  rw [show (rI h 0 ((nI (i + 1)).toNatClampNeg) : Int32) = xs (i + 1) from by rw [nI_clamp (by omega), ic.1.2.1]]
  refine exf_go 4 (show Go (d + 150) true 0 386 [.ref 0, .ref 10, .ref 130, .int (nI i)] [.int ((nI i) + 2), .ref 0, .int (xs (i + 1)), .ref 130, .int (fHolds (zg s) (xs (i + 1)) (xs (i + 2)))] h Q from ?_)
  rw [show ((nI i) + 2 : Int32) = nI (i + 2) from nI_add i 2]
  refine exf_go 1 (show vp_in (nI (i + 2)) (al h 0) ∧ (Go (d + 150) true 0 387 [.ref 0, .ref 10, .ref 130, .int (nI i)] [.int (rI h 0 ((nI (i + 2)).toNatClampNeg)), .int (xs (i + 1)), .ref 130, .int (fHolds (zg s) (xs (i + 1)) (xs (i + 2)))] h Q) from ⟨(show vp_in (nI (i + 2)) (rL h 0) from by rw [ic.1.2.2]; exact vp_in_nI (by omega) (by omega)), ?_⟩)
  rw [show (rI h 0 ((nI (i + 2)).toNatClampNeg) : Int32) = xs (i + 2) from by rw [nI_clamp (by omega), ic.1.2.1]]
  refine exf_go 1 (show wpC (d + 150) true 233 [.ref 130, .int (xs (i + 1)), .int (xs (i + 2))] h (fun r h' => Go (d + 150) true 0 390 [.ref 0, .ref 10, .ref 130, .int (nI i)] [r, .int (fHolds (zg s) (xs (i + 1)) (xs (i + 2)))] h' Q) from ?_)
  refine m_holds im1.1.1 (fun h2 q2 => ?_)
  have im2 := im_M im1 q2; have ic2 := ic_cq ic1 (cq_f q2 (fun a i ha => fz_M ha)); have sb2 := sb
  show Go (d + 150) true 0 390 [.ref 0, .ref 10, .ref 130, .int (nI i)] [.int (fHolds (zg s) (xs (i + 1)) (xs (i + 2))), .int (fHolds (zg s) (xs (i + 1)) (xs (i + 2)))] h2 Q
  refine exf_go 1 (show ((fHolds (zg s) (xs (i + 1)) (xs (i + 2))) = (fHolds (zg s) (xs (i + 1)) (xs (i + 2))) → Go (d + 150) true 0 1429 [.ref 0, .ref 10, .ref 130, .int (nI i)] [] h2 Q) ∧ (¬ ((fHolds (zg s) (xs (i + 1)) (xs (i + 2))) = (fHolds (zg s) (xs (i + 1)) (xs (i + 2)))) → Go (d + 150) true 0 393 [.ref 0, .ref 10, .ref 130, .int (nI i)] [] h2 Q) from ⟨fun c1 => ?_, fun c1 => ?_⟩)
  · skip
    exact k _ h2 ic2 im2 sb2
  · skip
    exact absurd rfl c1
theorem lw_figure {d : Nat} {h : Hp} {xs : Nat → Int32} {L i : Nat} {s : LwG} {Q : Po} (hL : L ≤ 3072) (hi : i + 6 ≤ L) (ic : IC xs L s h) (im : IMo s h) (sb : SB s) (k : ∀ s2 h2, IC xs L s2 h2 → IMo s2 h2 → SB s2 → Go (d + 150) true 0 1429 [.ref 0, .ref 10, .ref 130, .int (nI i)] [] h2 Q) : Go (d + 150) true 0 395 [.ref 0, .ref 10, .ref 130, .int (nI i)] [] h Q := by
  refine exf_go 5 (show Go (d + 150) true 0 400 [.ref 0, .ref 10, .ref 130, .int (nI i)] [.int ((nI i) + 1), .ref 0, .ref 10] h Q from ?_)
  rw [show ((nI i) + 1 : Int32) = nI (i + 1) from nI_add i 1]
  refine exf_go 1 (show vp_in (nI (i + 1)) (al h 0) ∧ (Go (d + 150) true 0 401 [.ref 0, .ref 10, .ref 130, .int (nI i)] [.int (rI h 0 ((nI (i + 1)).toNatClampNeg)), .ref 10] h Q) from ⟨(show vp_in (nI (i + 1)) (rL h 0) from by rw [ic.1.2.2]; exact vp_in_nI (by omega) (by omega)), ?_⟩)
  rw [show (rI h 0 ((nI (i + 1)).toNatClampNeg) : Int32) = xs (i + 1) from by rw [nI_clamp (by omega), ic.1.2.1]]
  refine exf_go 4 (show Go (d + 150) true 0 405 [.ref 0, .ref 10, .ref 130, .int (nI i)] [.int ((nI i) + 2), .ref 0, .int (xs (i + 1)), .ref 10] h Q from ?_)
  rw [show ((nI i) + 2 : Int32) = nI (i + 2) from nI_add i 2]
  refine exf_go 1 (show vp_in (nI (i + 2)) (al h 0) ∧ (Go (d + 150) true 0 406 [.ref 0, .ref 10, .ref 130, .int (nI i)] [.int (rI h 0 ((nI (i + 2)).toNatClampNeg)), .int (xs (i + 1)), .ref 10] h Q) from ⟨(show vp_in (nI (i + 2)) (rL h 0) from by rw [ic.1.2.2]; exact vp_in_nI (by omega) (by omega)), ?_⟩)
  rw [show (rI h 0 ((nI (i + 2)).toNatClampNeg) : Int32) = xs (i + 2) from by rw [nI_clamp (by omega), ic.1.2.1]]
  refine exf_go 1 (show wpC (d + 150) true 117 [.ref 10, .int (xs (i + 1)), .int (xs (i + 2))] h (fun r h' => Go (d + 150) true 0 409 [.ref 0, .ref 10, .ref 130, .int (nI i)] [r] h' Q) from ?_)
  refine c_figure ic.2.1 ?_
  have ic1 := ic; have im1 := im
  show Go (d + 150) true 0 409 [.ref 0, .ref 10, .ref 130, .int (nI i)] [.int (fFigure (zg s) (xs (i + 1)) (xs (i + 2)))] h Q
  refine exf_go 5 (show Go (d + 150) true 0 414 [.ref 0, .ref 10, .ref 130, .int (nI i)] [.int ((nI i) + 1), .ref 0, .ref 130, .int (fFigure (zg s) (xs (i + 1)) (xs (i + 2)))] h Q from ?_)
  rw [show ((nI i) + 1 : Int32) = nI (i + 1) from nI_add i 1]
  refine exf_go 1 (show vp_in (nI (i + 1)) (al h 0) ∧ (Go (d + 150) true 0 415 [.ref 0, .ref 10, .ref 130, .int (nI i)] [.int (rI h 0 ((nI (i + 1)).toNatClampNeg)), .ref 130, .int (fFigure (zg s) (xs (i + 1)) (xs (i + 2)))] h Q) from ⟨(show vp_in (nI (i + 1)) (rL h 0) from by rw [ic.1.2.2]; exact vp_in_nI (by omega) (by omega)), ?_⟩)
  rw [show (rI h 0 ((nI (i + 1)).toNatClampNeg) : Int32) = xs (i + 1) from by rw [nI_clamp (by omega), ic.1.2.1]]
  refine exf_go 4 (show Go (d + 150) true 0 419 [.ref 0, .ref 10, .ref 130, .int (nI i)] [.int ((nI i) + 2), .ref 0, .int (xs (i + 1)), .ref 130, .int (fFigure (zg s) (xs (i + 1)) (xs (i + 2)))] h Q from ?_)
  rw [show ((nI i) + 2 : Int32) = nI (i + 2) from nI_add i 2]
  refine exf_go 1 (show vp_in (nI (i + 2)) (al h 0) ∧ (Go (d + 150) true 0 420 [.ref 0, .ref 10, .ref 130, .int (nI i)] [.int (rI h 0 ((nI (i + 2)).toNatClampNeg)), .int (xs (i + 1)), .ref 130, .int (fFigure (zg s) (xs (i + 1)) (xs (i + 2)))] h Q) from ⟨(show vp_in (nI (i + 2)) (rL h 0) from by rw [ic.1.2.2]; exact vp_in_nI (by omega) (by omega)), ?_⟩)
  rw [show (rI h 0 ((nI (i + 2)).toNatClampNeg) : Int32) = xs (i + 2) from by rw [nI_clamp (by omega), ic.1.2.1]]
  refine exf_go 1 (show wpC (d + 150) true 234 [.ref 130, .int (xs (i + 1)), .int (xs (i + 2))] h (fun r h' => Go (d + 150) true 0 423 [.ref 0, .ref 10, .ref 130, .int (nI i)] [r, .int (fFigure (zg s) (xs (i + 1)) (xs (i + 2)))] h' Q) from ?_)
  refine m_figure im1.1.1 (fun h2 q2 => ?_)
  have im2 := im_M im1 q2; have ic2 := ic_cq ic1 (cq_f q2 (fun a i ha => fz_M ha)); have sb2 := sb
  show Go (d + 150) true 0 423 [.ref 0, .ref 10, .ref 130, .int (nI i)] [.int (fFigure (zg s) (xs (i + 1)) (xs (i + 2))), .int (fFigure (zg s) (xs (i + 1)) (xs (i + 2)))] h2 Q
  refine exf_go 1 (show ((fFigure (zg s) (xs (i + 1)) (xs (i + 2))) = (fFigure (zg s) (xs (i + 1)) (xs (i + 2))) → Go (d + 150) true 0 1429 [.ref 0, .ref 10, .ref 130, .int (nI i)] [] h2 Q) ∧ (¬ ((fFigure (zg s) (xs (i + 1)) (xs (i + 2))) = (fFigure (zg s) (xs (i + 1)) (xs (i + 2)))) → Go (d + 150) true 0 426 [.ref 0, .ref 10, .ref 130, .int (nI i)] [] h2 Q) from ⟨fun c1 => ?_, fun c1 => ?_⟩)
  · skip
    exact k _ h2 ic2 im2 sb2
  · skip
    exact absurd rfl c1
theorem lw_likely {d : Nat} {h : Hp} {xs : Nat → Int32} {L i : Nat} {s : LwG} {Q : Po} (hL : L ≤ 3072) (hi : i + 6 ≤ L) (ic : IC xs L s h) (im : IMo s h) (sb : SB s) (k : ∀ s2 h2, IC xs L s2 h2 → IMo s2 h2 → SB s2 → Go (d + 150) true 0 1429 [.ref 0, .ref 10, .ref 130, .int (nI i)] [] h2 Q) : Go (d + 150) true 0 428 [.ref 0, .ref 10, .ref 130, .int (nI i)] [] h Q := by
  refine exf_go 5 (show Go (d + 150) true 0 433 [.ref 0, .ref 10, .ref 130, .int (nI i)] [.int ((nI i) + 1), .ref 0, .ref 10] h Q from ?_)
  rw [show ((nI i) + 1 : Int32) = nI (i + 1) from nI_add i 1]
  refine exf_go 1 (show vp_in (nI (i + 1)) (al h 0) ∧ (Go (d + 150) true 0 434 [.ref 0, .ref 10, .ref 130, .int (nI i)] [.int (rI h 0 ((nI (i + 1)).toNatClampNeg)), .ref 10] h Q) from ⟨(show vp_in (nI (i + 1)) (rL h 0) from by rw [ic.1.2.2]; exact vp_in_nI (by omega) (by omega)), ?_⟩)
  rw [show (rI h 0 ((nI (i + 1)).toNatClampNeg) : Int32) = xs (i + 1) from by rw [nI_clamp (by omega), ic.1.2.1]]
  refine exf_go 1 (show wpC (d + 150) true 118 [.ref 10, .int (xs (i + 1))] h (fun r h' => Go (d + 150) true 0 437 [.ref 0, .ref 10, .ref 130, .int (nI i)] [r] h' Q) from ?_)
  refine c_likely ic.2.1 ic.2.2.1.1 ?_
  have ic1 := ic; have im1 := im
  show Go (d + 150) true 0 437 [.ref 0, .ref 10, .ref 130, .int (nI i)] [.long (fLikely (zg s) (ze s).1 (xs (i + 1)))] h Q
  refine exf_go 5 (show Go (d + 150) true 0 442 [.ref 0, .ref 10, .ref 130, .int (nI i)] [.int ((nI i) + 1), .ref 0, .ref 130, .long (fLikely (zg s) (ze s).1 (xs (i + 1)))] h Q from ?_)
  rw [show ((nI i) + 1 : Int32) = nI (i + 1) from nI_add i 1]
  refine exf_go 1 (show vp_in (nI (i + 1)) (al h 0) ∧ (Go (d + 150) true 0 443 [.ref 0, .ref 10, .ref 130, .int (nI i)] [.int (rI h 0 ((nI (i + 1)).toNatClampNeg)), .ref 130, .long (fLikely (zg s) (ze s).1 (xs (i + 1)))] h Q) from ⟨(show vp_in (nI (i + 1)) (rL h 0) from by rw [ic.1.2.2]; exact vp_in_nI (by omega) (by omega)), ?_⟩)
  rw [show (rI h 0 ((nI (i + 1)).toNatClampNeg) : Int32) = xs (i + 1) from by rw [nI_clamp (by omega), ic.1.2.1]]
  refine exf_go 1 (show wpC (d + 150) true 237 [.ref 130, .int (xs (i + 1))] h (fun r h' => Go (d + 150) true 0 446 [.ref 0, .ref 10, .ref 130, .int (nI i)] [r, .long (fLikely (zg s) (ze s).1 (xs (i + 1)))] h' Q) from ?_)
  refine m_likely im1.1.1 (fun h2 q2 => ?_)
  have im2 := im_M im1 q2; have ic2 := ic_cq ic1 (cq_f q2 (fun a i ha => fz_M ha)); have sb2 := sb
  show Go (d + 150) true 0 446 [.ref 0, .ref 10, .ref 130, .int (nI i)] [.long (fLikely (zg s) (ze s).1 (xs (i + 1))), .long (fLikely (zg s) (ze s).1 (xs (i + 1)))] h2 Q
  refine exf_go 2 (show ((lg_cmp (fLikely (zg s) (ze s).1 (xs (i + 1))) (fLikely (zg s) (ze s).1 (xs (i + 1)))) = 0 → Go (d + 150) true 0 1429 [.ref 0, .ref 10, .ref 130, .int (nI i)] [] h2 Q) ∧ (¬ ((lg_cmp (fLikely (zg s) (ze s).1 (xs (i + 1))) (fLikely (zg s) (ze s).1 (xs (i + 1)))) = 0) → Go (d + 150) true 0 450 [.ref 0, .ref 10, .ref 130, .int (nI i)] [] h2 Q) from ⟨fun c1 => ?_, fun c1 => ?_⟩)
  · skip
    have c1 : (fLikely (zg s) (ze s).1 (xs (i + 1))) = (fLikely (zg s) (ze s).1 (xs (i + 1))) := (lg_cmp_eq _ _).mp c1
    exact k _ h2 ic2 im2 sb2
  · skip
    have c1 : ¬ ((fLikely (zg s) (ze s).1 (xs (i + 1))) = (fLikely (zg s) (ze s).1 (xs (i + 1)))) := fun q => c1 ((lg_cmp_eq _ _).mpr q)
    exact absurd rfl c1
theorem lw_left {d : Nat} {h : Hp} {xs : Nat → Int32} {L i : Nat} {s : LwG} {Q : Po} (hL : L ≤ 3072) (hi : i + 6 ≤ L) (ic : IC xs L s h) (im : IMo s h) (sb : SB s) (k : ∀ s2 h2, IC xs L s2 h2 → IMo s2 h2 → SB s2 → Go (d + 150) true 0 1429 [.ref 0, .ref 10, .ref 130, .int (nI i)] [] h2 Q) : Go (d + 150) true 0 452 [.ref 0, .ref 10, .ref 130, .int (nI i)] [] h Q := by
  refine exf_go 2 (show wpC (d + 150) true 119 [.ref 10] h (fun r h' => Go (d + 150) true 0 456 [.ref 0, .ref 10, .ref 130, .int (nI i)] [r] h' Q) from ?_)
  refine c_left ic.2.1 ic.2.2.1.1 ?_
  have ic1 := ic; have im1 := im
  show Go (d + 150) true 0 456 [.ref 0, .ref 10, .ref 130, .int (nI i)] [.int (nI (cntL (zg s) (ze s).1))] h Q
  refine exf_go 2 (show wpC (d + 150) true 238 [.ref 130] h (fun r h' => Go (d + 150) true 0 460 [.ref 0, .ref 10, .ref 130, .int (nI i)] [r, .int (nI (cntL (zg s) (ze s).1))] h' Q) from ?_)
  refine m_left im1.1.1 (fun h2 q2 => ?_)
  have im2 := im_M im1 q2; have ic2 := ic_cq ic1 (cq_f q2 (fun a i ha => fz_M ha)); have sb2 := sb
  show Go (d + 150) true 0 460 [.ref 0, .ref 10, .ref 130, .int (nI i)] [.int (nI (cntL (zg s) (ze s).1)), .int (nI (cntL (zg s) (ze s).1))] h2 Q
  refine exf_go 1 (show ((nI (cntL (zg s) (ze s).1)) = (nI (cntL (zg s) (ze s).1)) → Go (d + 150) true 0 1429 [.ref 0, .ref 10, .ref 130, .int (nI i)] [] h2 Q) ∧ (¬ ((nI (cntL (zg s) (ze s).1)) = (nI (cntL (zg s) (ze s).1))) → Go (d + 150) true 0 463 [.ref 0, .ref 10, .ref 130, .int (nI i)] [] h2 Q) from ⟨fun c1 => ?_, fun c1 => ?_⟩)
  · skip
    exact k _ h2 ic2 im2 sb2
  · skip
    exact absurd rfl c1
theorem lw_all {d : Nat} {h : Hp} {xs : Nat → Int32} {L i : Nat} {s : LwG} {Q : Po} (hL : L ≤ 3072) (hi : i + 6 ≤ L) (ic : IC xs L s h) (im : IMo s h) (sb : SB s) (k : ∀ s2 h2, IC xs L s2 h2 → IMo s2 h2 → SB s2 → Go (d + 150) true 0 1429 [.ref 0, .ref 10, .ref 130, .int (nI i)] [] h2 Q) : Go (d + 150) true 0 465 [.ref 0, .ref 10, .ref 130, .int (nI i)] [] h Q := by
  refine exf_go 2 (show wpC (d + 150) true 120 [.ref 10] h (fun r h' => Go (d + 150) true 0 469 [.ref 0, .ref 10, .ref 130, .int (nI i)] [r] h' Q) from ?_)
  refine c_all ic.2.1 ic.2.2.1.1 ?_
  have ic1 := ic; have im1 := im
  show Go (d + 150) true 0 469 [.ref 0, .ref 10, .ref 130, .int (nI i)] [.long (lN (sumL (zg s) (ze s).1))] h Q
  refine exf_go 2 (show wpC (d + 150) true 239 [.ref 130] h (fun r h' => Go (d + 150) true 0 473 [.ref 0, .ref 10, .ref 130, .int (nI i)] [r, .long (lN (sumL (zg s) (ze s).1))] h' Q) from ?_)
  refine m_all im1.1.1 (fun h2 q2 => ?_)
  have im2 := im_M im1 q2; have ic2 := ic_cq ic1 (cq_f q2 (fun a i ha => fz_M ha)); have sb2 := sb
  show Go (d + 150) true 0 473 [.ref 0, .ref 10, .ref 130, .int (nI i)] [.long (lN (sumL (zg s) (ze s).1)), .long (lN (sumL (zg s) (ze s).1))] h2 Q
  refine exf_go 2 (show ((lg_cmp (lN (sumL (zg s) (ze s).1)) (lN (sumL (zg s) (ze s).1))) = 0 → Go (d + 150) true 0 1429 [.ref 0, .ref 10, .ref 130, .int (nI i)] [] h2 Q) ∧ (¬ ((lg_cmp (lN (sumL (zg s) (ze s).1)) (lN (sumL (zg s) (ze s).1))) = 0) → Go (d + 150) true 0 477 [.ref 0, .ref 10, .ref 130, .int (nI i)] [] h2 Q) from ⟨fun c1 => ?_, fun c1 => ?_⟩)
  · skip
    have c1 : (lN (sumL (zg s) (ze s).1)) = (lN (sumL (zg s) (ze s).1)) := (lg_cmp_eq _ _).mp c1
    exact k _ h2 ic2 im2 sb2
  · skip
    have c1 : ¬ ((lN (sumL (zg s) (ze s).1)) = (lN (sumL (zg s) (ze s).1))) := fun q => c1 ((lg_cmp_eq _ _).mpr q)
    exact absurd rfl c1
theorem lw_order {d : Nat} {h : Hp} {xs : Nat → Int32} {L i : Nat} {s : LwG} {Q : Po} (hL : L ≤ 3072) (hi : i + 6 ≤ L) (ic : IC xs L s h) (im : IMo s h) (sb : SB s) (k : ∀ s2 h2, IC xs L s2 h2 → IMo s2 h2 → SB s2 → Go (d + 150) true 0 1429 [.ref 0, .ref 10, .ref 130, .int (nI i)] [] h2 Q) : Go (d + 150) true 0 479 [.ref 0, .ref 10, .ref 130, .int (nI i)] [] h Q := by
  refine exf_go 5 (show Go (d + 150) true 0 484 [.ref 0, .ref 10, .ref 130, .int (nI i)] [.int ((nI i) + 1), .ref 0, .ref 10] h Q from ?_)
  rw [show ((nI i) + 1 : Int32) = nI (i + 1) from nI_add i 1]
  refine exf_go 1 (show vp_in (nI (i + 1)) (al h 0) ∧ (Go (d + 150) true 0 485 [.ref 0, .ref 10, .ref 130, .int (nI i)] [.int (rI h 0 ((nI (i + 1)).toNatClampNeg)), .ref 10] h Q) from ⟨(show vp_in (nI (i + 1)) (rL h 0) from by rw [ic.1.2.2]; exact vp_in_nI (by omega) (by omega)), ?_⟩)
  rw [show (rI h 0 ((nI (i + 1)).toNatClampNeg) : Int32) = xs (i + 1) from by rw [nI_clamp (by omega), ic.1.2.1]]
  refine exf_go 1 (show wpC (d + 150) true 121 [.ref 10, .int (xs (i + 1))] h (fun r h' => Go (d + 150) true 0 488 [.ref 0, .ref 10, .ref 130, .int (nI i)] [r] h' Q) from ?_)
  refine c_order ic.1.1 ic.2.1 ic.2.2.1.1 (fun h1 q1 => ?_)
  have ic1 := ic_C ic q1; have im1 := im_mq im (mq_g q1 (fun a i ha => fz_C (by omega)))
  show Go (d + 150) true 0 488 [.ref 0, .ref 10, .ref 130, .int (nI i)] [.int (fOrder (zg s) (ze s).1 (xs (i + 1)))] h1 Q
  refine exf_go 5 (show Go (d + 150) true 0 493 [.ref 0, .ref 10, .ref 130, .int (nI i)] [.int ((nI i) + 1), .ref 0, .ref 130, .int (fOrder (zg s) (ze s).1 (xs (i + 1)))] h1 Q from ?_)
  rw [show ((nI i) + 1 : Int32) = nI (i + 1) from nI_add i 1]
  refine exf_go 1 (show vp_in (nI (i + 1)) (al h1 0) ∧ (Go (d + 150) true 0 494 [.ref 0, .ref 10, .ref 130, .int (nI i)] [.int (rI h1 0 ((nI (i + 1)).toNatClampNeg)), .ref 130, .int (fOrder (zg s) (ze s).1 (xs (i + 1)))] h1 Q) from ⟨(show vp_in (nI (i + 1)) (rL h1 0) from by rw [ic1.1.2.2]; exact vp_in_nI (by omega) (by omega)), ?_⟩)
  rw [show (rI h1 0 ((nI (i + 1)).toNatClampNeg) : Int32) = xs (i + 1) from by rw [nI_clamp (by omega), ic1.1.2.1]]
  refine exf_go 1 (show wpC (d + 150) true 240 [.ref 130, .int (xs (i + 1))] h1 (fun r h' => Go (d + 150) true 0 497 [.ref 0, .ref 10, .ref 130, .int (nI i)] [r, .int (fOrder (zg s) (ze s).1 (xs (i + 1)))] h' Q) from ?_)
  refine m_order im1.1.1 (fun h2 q2 => ?_)
  have im2 := im_M im1 q2; have ic2 := ic_cq ic1 (cq_f q2 (fun a i ha => fz_M ha)); have sb2 := sb
  show Go (d + 150) true 0 497 [.ref 0, .ref 10, .ref 130, .int (nI i)] [.int (fOrder (zg s) (ze s).1 (xs (i + 1))), .int (fOrder (zg s) (ze s).1 (xs (i + 1)))] h2 Q
  refine exf_go 1 (show ((fOrder (zg s) (ze s).1 (xs (i + 1))) = (fOrder (zg s) (ze s).1 (xs (i + 1))) → Go (d + 150) true 0 1429 [.ref 0, .ref 10, .ref 130, .int (nI i)] [] h2 Q) ∧ (¬ ((fOrder (zg s) (ze s).1 (xs (i + 1))) = (fOrder (zg s) (ze s).1 (xs (i + 1)))) → Go (d + 150) true 0 500 [.ref 0, .ref 10, .ref 130, .int (nI i)] [] h2 Q) from ⟨fun c1 => ?_, fun c1 => ?_⟩)
  · skip
    exact k _ h2 ic2 im2 sb2
  · skip
    exact absurd rfl c1
theorem lw_chance {d : Nat} {h : Hp} {xs : Nat → Int32} {L i : Nat} {s : LwG} {Q : Po} (hL : L ≤ 3072) (hi : i + 6 ≤ L) (ic : IC xs L s h) (im : IMo s h) (sb : SB s) (k : ∀ s2 h2, IC xs L s2 h2 → IMo s2 h2 → SB s2 → Go (d + 150) true 0 1429 [.ref 0, .ref 10, .ref 130, .int (nI i)] [] h2 Q) : Go (d + 150) true 0 502 [.ref 0, .ref 10, .ref 130, .int (nI i)] [] h Q := by
  refine exf_go 5 (show Go (d + 150) true 0 507 [.ref 0, .ref 10, .ref 130, .int (nI i)] [.int ((nI i) + 1), .ref 0, .ref 10] h Q from ?_)
  rw [show ((nI i) + 1 : Int32) = nI (i + 1) from nI_add i 1]
  refine exf_go 1 (show vp_in (nI (i + 1)) (al h 0) ∧ (Go (d + 150) true 0 508 [.ref 0, .ref 10, .ref 130, .int (nI i)] [.int (rI h 0 ((nI (i + 1)).toNatClampNeg)), .ref 10] h Q) from ⟨(show vp_in (nI (i + 1)) (rL h 0) from by rw [ic.1.2.2]; exact vp_in_nI (by omega) (by omega)), ?_⟩)
  rw [show (rI h 0 ((nI (i + 1)).toNatClampNeg) : Int32) = xs (i + 1) from by rw [nI_clamp (by omega), ic.1.2.1]]
  refine exf_go 4 (show Go (d + 150) true 0 512 [.ref 0, .ref 10, .ref 130, .int (nI i)] [.int ((nI i) + 2), .ref 0, .int (xs (i + 1)), .ref 10] h Q from ?_)
  rw [show ((nI i) + 2 : Int32) = nI (i + 2) from nI_add i 2]
  refine exf_go 1 (show vp_in (nI (i + 2)) (al h 0) ∧ (Go (d + 150) true 0 513 [.ref 0, .ref 10, .ref 130, .int (nI i)] [.int (rI h 0 ((nI (i + 2)).toNatClampNeg)), .int (xs (i + 1)), .ref 10] h Q) from ⟨(show vp_in (nI (i + 2)) (rL h 0) from by rw [ic.1.2.2]; exact vp_in_nI (by omega) (by omega)), ?_⟩)
  rw [show (rI h 0 ((nI (i + 2)).toNatClampNeg) : Int32) = xs (i + 2) from by rw [nI_clamp (by omega), ic.1.2.1]]
  refine exf_go 1 (show wpC (d + 150) true 122 [.ref 10, .int (xs (i + 1)), .int (xs (i + 2))] h (fun r h' => Go (d + 150) true 0 516 [.ref 0, .ref 10, .ref 130, .int (nI i)] [r] h' Q) from ?_)
  refine c_chance ic.1.1 ic.2.1 ic.2.2.1.1 (fun h1 q1 => ?_)
  have ic1 := ic_C ic q1; have im1 := im_mq im (mq_g q1 (fun a i ha => fz_C (by omega)))
  show Go (d + 150) true 0 516 [.ref 0, .ref 10, .ref 130, .int (nI i)] [.long (fChance (zg s) (ze s).1 (xs (i + 1)) (xs (i + 2)))] h1 Q
  refine exf_go 5 (show Go (d + 150) true 0 521 [.ref 0, .ref 10, .ref 130, .int (nI i)] [.int ((nI i) + 1), .ref 0, .ref 130, .long (fChance (zg s) (ze s).1 (xs (i + 1)) (xs (i + 2)))] h1 Q from ?_)
  rw [show ((nI i) + 1 : Int32) = nI (i + 1) from nI_add i 1]
  refine exf_go 1 (show vp_in (nI (i + 1)) (al h1 0) ∧ (Go (d + 150) true 0 522 [.ref 0, .ref 10, .ref 130, .int (nI i)] [.int (rI h1 0 ((nI (i + 1)).toNatClampNeg)), .ref 130, .long (fChance (zg s) (ze s).1 (xs (i + 1)) (xs (i + 2)))] h1 Q) from ⟨(show vp_in (nI (i + 1)) (rL h1 0) from by rw [ic1.1.2.2]; exact vp_in_nI (by omega) (by omega)), ?_⟩)
  rw [show (rI h1 0 ((nI (i + 1)).toNatClampNeg) : Int32) = xs (i + 1) from by rw [nI_clamp (by omega), ic1.1.2.1]]
  refine exf_go 4 (show Go (d + 150) true 0 526 [.ref 0, .ref 10, .ref 130, .int (nI i)] [.int ((nI i) + 2), .ref 0, .int (xs (i + 1)), .ref 130, .long (fChance (zg s) (ze s).1 (xs (i + 1)) (xs (i + 2)))] h1 Q from ?_)
  rw [show ((nI i) + 2 : Int32) = nI (i + 2) from nI_add i 2]
  refine exf_go 1 (show vp_in (nI (i + 2)) (al h1 0) ∧ (Go (d + 150) true 0 527 [.ref 0, .ref 10, .ref 130, .int (nI i)] [.int (rI h1 0 ((nI (i + 2)).toNatClampNeg)), .int (xs (i + 1)), .ref 130, .long (fChance (zg s) (ze s).1 (xs (i + 1)) (xs (i + 2)))] h1 Q) from ⟨(show vp_in (nI (i + 2)) (rL h1 0) from by rw [ic1.1.2.2]; exact vp_in_nI (by omega) (by omega)), ?_⟩)
  rw [show (rI h1 0 ((nI (i + 2)).toNatClampNeg) : Int32) = xs (i + 2) from by rw [nI_clamp (by omega), ic1.1.2.1]]
  refine exf_go 1 (show wpC (d + 150) true 242 [.ref 130, .int (xs (i + 1)), .int (xs (i + 2))] h1 (fun r h' => Go (d + 150) true 0 530 [.ref 0, .ref 10, .ref 130, .int (nI i)] [r, .long (fChance (zg s) (ze s).1 (xs (i + 1)) (xs (i + 2)))] h' Q) from ?_)
  refine m_chance im1.1.1 (fun h2 q2 => ?_)
  have im2 := im_M im1 q2; have ic2 := ic_cq ic1 (cq_f q2 (fun a i ha => fz_M ha)); have sb2 := sb
  show Go (d + 150) true 0 530 [.ref 0, .ref 10, .ref 130, .int (nI i)] [.long (fChance (zg s) (ze s).1 (xs (i + 1)) (xs (i + 2))), .long (fChance (zg s) (ze s).1 (xs (i + 1)) (xs (i + 2)))] h2 Q
  refine exf_go 2 (show ((lg_cmp (fChance (zg s) (ze s).1 (xs (i + 1)) (xs (i + 2))) (fChance (zg s) (ze s).1 (xs (i + 1)) (xs (i + 2)))) = 0 → Go (d + 150) true 0 1429 [.ref 0, .ref 10, .ref 130, .int (nI i)] [] h2 Q) ∧ (¬ ((lg_cmp (fChance (zg s) (ze s).1 (xs (i + 1)) (xs (i + 2))) (fChance (zg s) (ze s).1 (xs (i + 1)) (xs (i + 2)))) = 0) → Go (d + 150) true 0 534 [.ref 0, .ref 10, .ref 130, .int (nI i)] [] h2 Q) from ⟨fun c1 => ?_, fun c1 => ?_⟩)
  · skip
    have c1 : (fChance (zg s) (ze s).1 (xs (i + 1)) (xs (i + 2))) = (fChance (zg s) (ze s).1 (xs (i + 1)) (xs (i + 2))) := (lg_cmp_eq _ _).mp c1
    exact k _ h2 ic2 im2 sb2
  · skip
    have c1 : ¬ ((fChance (zg s) (ze s).1 (xs (i + 1)) (xs (i + 2))) = (fChance (zg s) (ze s).1 (xs (i + 1)) (xs (i + 2)))) := fun q => c1 ((lg_cmp_eq _ _).mpr q)
    exact absurd rfl c1
theorem lw_mean {d : Nat} {h : Hp} {xs : Nat → Int32} {L i : Nat} {s : LwG} {Q : Po} (hL : L ≤ 3072) (hi : i + 6 ≤ L) (ic : IC xs L s h) (im : IMo s h) (sb : SB s) (k : ∀ s2 h2, IC xs L s2 h2 → IMo s2 h2 → SB s2 → Go (d + 150) true 0 1429 [.ref 0, .ref 10, .ref 130, .int (nI i)] [] h2 Q) : Go (d + 150) true 0 536 [.ref 0, .ref 10, .ref 130, .int (nI i)] [] h Q := by
  refine exf_go 5 (show Go (d + 150) true 0 541 [.ref 0, .ref 10, .ref 130, .int (nI i)] [.int ((nI i) + 1), .ref 0, .ref 10] h Q from ?_)
  rw [show ((nI i) + 1 : Int32) = nI (i + 1) from nI_add i 1]
  refine exf_go 1 (show vp_in (nI (i + 1)) (al h 0) ∧ (Go (d + 150) true 0 542 [.ref 0, .ref 10, .ref 130, .int (nI i)] [.int (rI h 0 ((nI (i + 1)).toNatClampNeg)), .ref 10] h Q) from ⟨(show vp_in (nI (i + 1)) (rL h 0) from by rw [ic.1.2.2]; exact vp_in_nI (by omega) (by omega)), ?_⟩)
  rw [show (rI h 0 ((nI (i + 1)).toNatClampNeg) : Int32) = xs (i + 1) from by rw [nI_clamp (by omega), ic.1.2.1]]
  refine exf_go 1 (show wpC (d + 150) true 123 [.ref 10, .int (xs (i + 1))] h (fun r h' => Go (d + 150) true 0 545 [.ref 0, .ref 10, .ref 130, .int (nI i)] [r] h' Q) from ?_)
  refine c_mean ic.1.1 ic.2.1 ic.2.2.1.1 (fun h1 q1 => ?_)
  have ic1 := ic_C ic q1; have im1 := im_mq im (mq_g q1 (fun a i ha => fz_C (by omega)))
  show Go (d + 150) true 0 545 [.ref 0, .ref 10, .ref 130, .int (nI i)] [.long (fMean (zg s) (ze s).1 (xs (i + 1)))] h1 Q
  refine exf_go 5 (show Go (d + 150) true 0 550 [.ref 0, .ref 10, .ref 130, .int (nI i)] [.int ((nI i) + 1), .ref 0, .ref 130, .long (fMean (zg s) (ze s).1 (xs (i + 1)))] h1 Q from ?_)
  rw [show ((nI i) + 1 : Int32) = nI (i + 1) from nI_add i 1]
  refine exf_go 1 (show vp_in (nI (i + 1)) (al h1 0) ∧ (Go (d + 150) true 0 551 [.ref 0, .ref 10, .ref 130, .int (nI i)] [.int (rI h1 0 ((nI (i + 1)).toNatClampNeg)), .ref 130, .long (fMean (zg s) (ze s).1 (xs (i + 1)))] h1 Q) from ⟨(show vp_in (nI (i + 1)) (rL h1 0) from by rw [ic1.1.2.2]; exact vp_in_nI (by omega) (by omega)), ?_⟩)
  rw [show (rI h1 0 ((nI (i + 1)).toNatClampNeg) : Int32) = xs (i + 1) from by rw [nI_clamp (by omega), ic1.1.2.1]]
  refine exf_go 1 (show wpC (d + 150) true 243 [.ref 130, .int (xs (i + 1))] h1 (fun r h' => Go (d + 150) true 0 554 [.ref 0, .ref 10, .ref 130, .int (nI i)] [r, .long (fMean (zg s) (ze s).1 (xs (i + 1)))] h' Q) from ?_)
  refine m_mean im1.1.1 (fun h2 q2 => ?_)
  have im2 := im_M im1 q2; have ic2 := ic_cq ic1 (cq_f q2 (fun a i ha => fz_M ha)); have sb2 := sb
  show Go (d + 150) true 0 554 [.ref 0, .ref 10, .ref 130, .int (nI i)] [.long (fMean (zg s) (ze s).1 (xs (i + 1))), .long (fMean (zg s) (ze s).1 (xs (i + 1)))] h2 Q
  refine exf_go 2 (show ((lg_cmp (fMean (zg s) (ze s).1 (xs (i + 1))) (fMean (zg s) (ze s).1 (xs (i + 1)))) = 0 → Go (d + 150) true 0 1429 [.ref 0, .ref 10, .ref 130, .int (nI i)] [] h2 Q) ∧ (¬ ((lg_cmp (fMean (zg s) (ze s).1 (xs (i + 1))) (fMean (zg s) (ze s).1 (xs (i + 1)))) = 0) → Go (d + 150) true 0 558 [.ref 0, .ref 10, .ref 130, .int (nI i)] [] h2 Q) from ⟨fun c1 => ?_, fun c1 => ?_⟩)
  · skip
    have c1 : (fMean (zg s) (ze s).1 (xs (i + 1))) = (fMean (zg s) (ze s).1 (xs (i + 1))) := (lg_cmp_eq _ _).mp c1
    exact k _ h2 ic2 im2 sb2
  · skip
    have c1 : ¬ ((fMean (zg s) (ze s).1 (xs (i + 1))) = (fMean (zg s) (ze s).1 (xs (i + 1)))) := fun q => c1 ((lg_cmp_eq _ _).mpr q)
    exact absurd rfl c1
theorem lw_tells {d : Nat} {h : Hp} {xs : Nat → Int32} {L i : Nat} {s : LwG} {Q : Po} (hL : L ≤ 3072) (hi : i + 6 ≤ L) (ic : IC xs L s h) (im : IMo s h) (sb : SB s) (k : ∀ s2 h2, IC xs L s2 h2 → IMo s2 h2 → SB s2 → Go (d + 150) true 0 1429 [.ref 0, .ref 10, .ref 130, .int (nI i)] [] h2 Q) : Go (d + 150) true 0 560 [.ref 0, .ref 10, .ref 130, .int (nI i)] [] h Q := by
  refine exf_go 5 (show Go (d + 150) true 0 565 [.ref 0, .ref 10, .ref 130, .int (nI i)] [.int ((nI i) + 1), .ref 0, .ref 10] h Q from ?_)
  rw [show ((nI i) + 1 : Int32) = nI (i + 1) from nI_add i 1]
  refine exf_go 1 (show vp_in (nI (i + 1)) (al h 0) ∧ (Go (d + 150) true 0 566 [.ref 0, .ref 10, .ref 130, .int (nI i)] [.int (rI h 0 ((nI (i + 1)).toNatClampNeg)), .ref 10] h Q) from ⟨(show vp_in (nI (i + 1)) (rL h 0) from by rw [ic.1.2.2]; exact vp_in_nI (by omega) (by omega)), ?_⟩)
  rw [show (rI h 0 ((nI (i + 1)).toNatClampNeg) : Int32) = xs (i + 1) from by rw [nI_clamp (by omega), ic.1.2.1]]
  refine exf_go 4 (show Go (d + 150) true 0 570 [.ref 0, .ref 10, .ref 130, .int (nI i)] [.int ((nI i) + 2), .ref 0, .int (xs (i + 1)), .ref 10] h Q from ?_)
  rw [show ((nI i) + 2 : Int32) = nI (i + 2) from nI_add i 2]
  refine exf_go 1 (show vp_in (nI (i + 2)) (al h 0) ∧ (Go (d + 150) true 0 571 [.ref 0, .ref 10, .ref 130, .int (nI i)] [.int (rI h 0 ((nI (i + 2)).toNatClampNeg)), .int (xs (i + 1)), .ref 10] h Q) from ⟨(show vp_in (nI (i + 2)) (rL h 0) from by rw [ic.1.2.2]; exact vp_in_nI (by omega) (by omega)), ?_⟩)
  rw [show (rI h 0 ((nI (i + 2)).toNatClampNeg) : Int32) = xs (i + 2) from by rw [nI_clamp (by omega), ic.1.2.1]]
  refine exf_go 1 (show wpC (d + 150) true 124 [.ref 10, .int (xs (i + 1)), .int (xs (i + 2))] h (fun r h' => Go (d + 150) true 0 574 [.ref 0, .ref 10, .ref 130, .int (nI i)] [r] h' Q) from ?_)
  refine c_tells ic.2.1 ic.2.2.1.1 ?_
  have ic1 := ic; have im1 := im
  show Go (d + 150) true 0 574 [.ref 0, .ref 10, .ref 130, .int (nI i)] [.long (fTells (zg s) (ze s).1 (xs (i + 1)) (xs (i + 2)))] h Q
  refine exf_go 5 (show Go (d + 150) true 0 579 [.ref 0, .ref 10, .ref 130, .int (nI i)] [.int ((nI i) + 1), .ref 0, .ref 130, .long (fTells (zg s) (ze s).1 (xs (i + 1)) (xs (i + 2)))] h Q from ?_)
  rw [show ((nI i) + 1 : Int32) = nI (i + 1) from nI_add i 1]
  refine exf_go 1 (show vp_in (nI (i + 1)) (al h 0) ∧ (Go (d + 150) true 0 580 [.ref 0, .ref 10, .ref 130, .int (nI i)] [.int (rI h 0 ((nI (i + 1)).toNatClampNeg)), .ref 130, .long (fTells (zg s) (ze s).1 (xs (i + 1)) (xs (i + 2)))] h Q) from ⟨(show vp_in (nI (i + 1)) (rL h 0) from by rw [ic.1.2.2]; exact vp_in_nI (by omega) (by omega)), ?_⟩)
  rw [show (rI h 0 ((nI (i + 1)).toNatClampNeg) : Int32) = xs (i + 1) from by rw [nI_clamp (by omega), ic.1.2.1]]
  refine exf_go 4 (show Go (d + 150) true 0 584 [.ref 0, .ref 10, .ref 130, .int (nI i)] [.int ((nI i) + 2), .ref 0, .int (xs (i + 1)), .ref 130, .long (fTells (zg s) (ze s).1 (xs (i + 1)) (xs (i + 2)))] h Q from ?_)
  rw [show ((nI i) + 2 : Int32) = nI (i + 2) from nI_add i 2]
  refine exf_go 1 (show vp_in (nI (i + 2)) (al h 0) ∧ (Go (d + 150) true 0 585 [.ref 0, .ref 10, .ref 130, .int (nI i)] [.int (rI h 0 ((nI (i + 2)).toNatClampNeg)), .int (xs (i + 1)), .ref 130, .long (fTells (zg s) (ze s).1 (xs (i + 1)) (xs (i + 2)))] h Q) from ⟨(show vp_in (nI (i + 2)) (rL h 0) from by rw [ic.1.2.2]; exact vp_in_nI (by omega) (by omega)), ?_⟩)
  rw [show (rI h 0 ((nI (i + 2)).toNatClampNeg) : Int32) = xs (i + 2) from by rw [nI_clamp (by omega), ic.1.2.1]]
  refine exf_go 1 (show wpC (d + 150) true 244 [.ref 130, .int (xs (i + 1)), .int (xs (i + 2))] h (fun r h' => Go (d + 150) true 0 588 [.ref 0, .ref 10, .ref 130, .int (nI i)] [r, .long (fTells (zg s) (ze s).1 (xs (i + 1)) (xs (i + 2)))] h' Q) from ?_)
  refine m_tells im1.1.1 (fun h2 q2 => ?_)
  have im2 := im_M im1 q2; have ic2 := ic_cq ic1 (cq_f q2 (fun a i ha => fz_M ha)); have sb2 := sb
  show Go (d + 150) true 0 588 [.ref 0, .ref 10, .ref 130, .int (nI i)] [.long (fTells (zg s) (ze s).1 (xs (i + 1)) (xs (i + 2))), .long (fTells (zg s) (ze s).1 (xs (i + 1)) (xs (i + 2)))] h2 Q
  refine exf_go 2 (show ((lg_cmp (fTells (zg s) (ze s).1 (xs (i + 1)) (xs (i + 2))) (fTells (zg s) (ze s).1 (xs (i + 1)) (xs (i + 2)))) = 0 → Go (d + 150) true 0 1429 [.ref 0, .ref 10, .ref 130, .int (nI i)] [] h2 Q) ∧ (¬ ((lg_cmp (fTells (zg s) (ze s).1 (xs (i + 1)) (xs (i + 2))) (fTells (zg s) (ze s).1 (xs (i + 1)) (xs (i + 2)))) = 0) → Go (d + 150) true 0 592 [.ref 0, .ref 10, .ref 130, .int (nI i)] [] h2 Q) from ⟨fun c1 => ?_, fun c1 => ?_⟩)
  · skip
    have c1 : (fTells (zg s) (ze s).1 (xs (i + 1)) (xs (i + 2))) = (fTells (zg s) (ze s).1 (xs (i + 1)) (xs (i + 2))) := (lg_cmp_eq _ _).mp c1
    exact k _ h2 ic2 im2 sb2
  · skip
    have c1 : ¬ ((fTells (zg s) (ze s).1 (xs (i + 1)) (xs (i + 2))) = (fTells (zg s) (ze s).1 (xs (i + 1)) (xs (i + 2)))) := fun q => c1 ((lg_cmp_eq _ _).mpr q)
    exact absurd rfl c1
theorem lw_telling {d : Nat} {h : Hp} {xs : Nat → Int32} {L i : Nat} {s : LwG} {Q : Po} (hL : L ≤ 3072) (hi : i + 6 ≤ L) (ic : IC xs L s h) (im : IMo s h) (sb : SB s) (k : ∀ s2 h2, IC xs L s2 h2 → IMo s2 h2 → SB s2 → Go (d + 150) true 0 1429 [.ref 0, .ref 10, .ref 130, .int (nI i)] [] h2 Q) : Go (d + 150) true 0 594 [.ref 0, .ref 10, .ref 130, .int (nI i)] [] h Q := by
  refine exf_go 2 (show wpC (d + 150) true 125 [.ref 10] h (fun r h' => Go (d + 150) true 0 598 [.ref 0, .ref 10, .ref 130, .int (nI i)] [r] h' Q) from ?_)
  refine c_telling ic.2.1 ic.2.2.1.1 ?_
  have ic1 := ic; have im1 := im
  show Go (d + 150) true 0 598 [.ref 0, .ref 10, .ref 130, .int (nI i)] [.int (fTelling (zg s) (ze s).1)] h Q
  refine exf_go 2 (show wpC (d + 150) true 245 [.ref 130] h (fun r h' => Go (d + 150) true 0 602 [.ref 0, .ref 10, .ref 130, .int (nI i)] [r, .int (fTelling (zg s) (ze s).1)] h' Q) from ?_)
  refine m_telling im1.1.1 (fun h2 q2 => ?_)
  have im2 := im_M im1 q2; have ic2 := ic_cq ic1 (cq_f q2 (fun a i ha => fz_M ha)); have sb2 := sb
  show Go (d + 150) true 0 602 [.ref 0, .ref 10, .ref 130, .int (nI i)] [.int (fTelling (zg s) (ze s).1), .int (fTelling (zg s) (ze s).1)] h2 Q
  refine exf_go 1 (show ((fTelling (zg s) (ze s).1) = (fTelling (zg s) (ze s).1) → Go (d + 150) true 0 1429 [.ref 0, .ref 10, .ref 130, .int (nI i)] [] h2 Q) ∧ (¬ ((fTelling (zg s) (ze s).1) = (fTelling (zg s) (ze s).1)) → Go (d + 150) true 0 605 [.ref 0, .ref 10, .ref 130, .int (nI i)] [] h2 Q) from ⟨fun c1 => ?_, fun c1 => ?_⟩)
  · skip
    exact k _ h2 ic2 im2 sb2
  · skip
    exact absurd rfl c1
theorem lw_but {d : Nat} {h : Hp} {xs : Nat → Int32} {L i : Nat} {s : LwG} {Q : Po} (hL : L ≤ 3072) (hi : i + 6 ≤ L) (ic : IC xs L s h) (im : IMo s h) (sb : SB s) (k : ∀ s2 h2, IC xs L s2 h2 → IMo s2 h2 → SB s2 → Go (d + 150) true 0 1429 [.ref 0, .ref 10, .ref 130, .int (nI i)] [] h2 Q) : Go (d + 150) true 0 607 [.ref 0, .ref 10, .ref 130, .int (nI i)] [] h Q := by
  refine exf_go 5 (show Go (d + 150) true 0 612 [.ref 0, .ref 10, .ref 130, .int (nI i)] [.int ((nI i) + 1), .ref 0, .ref 10] h Q from ?_)
  rw [show ((nI i) + 1 : Int32) = nI (i + 1) from nI_add i 1]
  refine exf_go 1 (show vp_in (nI (i + 1)) (al h 0) ∧ (Go (d + 150) true 0 613 [.ref 0, .ref 10, .ref 130, .int (nI i)] [.int (rI h 0 ((nI (i + 1)).toNatClampNeg)), .ref 10] h Q) from ⟨(show vp_in (nI (i + 1)) (rL h 0) from by rw [ic.1.2.2]; exact vp_in_nI (by omega) (by omega)), ?_⟩)
  rw [show (rI h 0 ((nI (i + 1)).toNatClampNeg) : Int32) = xs (i + 1) from by rw [nI_clamp (by omega), ic.1.2.1]]
  refine exf_go 1 (show wpC (d + 150) true 126 [.ref 10, .int (xs (i + 1))] h (fun r h' => Go (d + 150) true 0 616 [.ref 0, .ref 10, .ref 130, .int (nI i)] [r] h' Q) from ?_)
  refine c_but ic.2.1 ic.2.2.1.1 ?_
  have ic1 := ic; have im1 := im
  show Go (d + 150) true 0 616 [.ref 0, .ref 10, .ref 130, .int (nI i)] [.int (fBut (zg s) (ze s).1 (xs (i + 1)))] h Q
  refine exf_go 5 (show Go (d + 150) true 0 621 [.ref 0, .ref 10, .ref 130, .int (nI i)] [.int ((nI i) + 1), .ref 0, .ref 130, .int (fBut (zg s) (ze s).1 (xs (i + 1)))] h Q from ?_)
  rw [show ((nI i) + 1 : Int32) = nI (i + 1) from nI_add i 1]
  refine exf_go 1 (show vp_in (nI (i + 1)) (al h 0) ∧ (Go (d + 150) true 0 622 [.ref 0, .ref 10, .ref 130, .int (nI i)] [.int (rI h 0 ((nI (i + 1)).toNatClampNeg)), .ref 130, .int (fBut (zg s) (ze s).1 (xs (i + 1)))] h Q) from ⟨(show vp_in (nI (i + 1)) (rL h 0) from by rw [ic.1.2.2]; exact vp_in_nI (by omega) (by omega)), ?_⟩)
  rw [show (rI h 0 ((nI (i + 1)).toNatClampNeg) : Int32) = xs (i + 1) from by rw [nI_clamp (by omega), ic.1.2.1]]
  refine exf_go 1 (show wpC (d + 150) true 247 [.ref 130, .int (xs (i + 1))] h (fun r h' => Go (d + 150) true 0 625 [.ref 0, .ref 10, .ref 130, .int (nI i)] [r, .int (fBut (zg s) (ze s).1 (xs (i + 1)))] h' Q) from ?_)
  refine m_but im1.1.1 (fun h2 q2 => ?_)
  have im2 := im_M im1 q2; have ic2 := ic_cq ic1 (cq_f q2 (fun a i ha => fz_M ha)); have sb2 := sb
  show Go (d + 150) true 0 625 [.ref 0, .ref 10, .ref 130, .int (nI i)] [.int (fBut (zg s) (ze s).1 (xs (i + 1))), .int (fBut (zg s) (ze s).1 (xs (i + 1)))] h2 Q
  refine exf_go 1 (show ((fBut (zg s) (ze s).1 (xs (i + 1))) = (fBut (zg s) (ze s).1 (xs (i + 1))) → Go (d + 150) true 0 1429 [.ref 0, .ref 10, .ref 130, .int (nI i)] [] h2 Q) ∧ (¬ ((fBut (zg s) (ze s).1 (xs (i + 1))) = (fBut (zg s) (ze s).1 (xs (i + 1)))) → Go (d + 150) true 0 628 [.ref 0, .ref 10, .ref 130, .int (nI i)] [] h2 Q) from ⟨fun c1 => ?_, fun c1 => ?_⟩)
  · skip
    exact k _ h2 ic2 im2 sb2
  · skip
    exact absurd rfl c1
theorem lw_tries {d : Nat} {h : Hp} {xs : Nat → Int32} {L i : Nat} {s : LwG} {Q : Po} (hL : L ≤ 3072) (hi : i + 6 ≤ L) (ic : IC xs L s h) (im : IMo s h) (sb : SB s) (k : ∀ s2 h2, IC xs L s2 h2 → IMo s2 h2 → SB s2 → Go (d + 150) true 0 1429 [.ref 0, .ref 10, .ref 130, .int (nI i)] [] h2 Q) : Go (d + 150) true 0 630 [.ref 0, .ref 10, .ref 130, .int (nI i)] [] h Q := by
  refine exf_go 5 (show Go (d + 150) true 0 635 [.ref 0, .ref 10, .ref 130, .int (nI i)] [.int ((nI i) + 1), .ref 0, .ref 10] h Q from ?_)
  rw [show ((nI i) + 1 : Int32) = nI (i + 1) from nI_add i 1]
  refine exf_go 1 (show vp_in (nI (i + 1)) (al h 0) ∧ (Go (d + 150) true 0 636 [.ref 0, .ref 10, .ref 130, .int (nI i)] [.int (rI h 0 ((nI (i + 1)).toNatClampNeg)), .ref 10] h Q) from ⟨(show vp_in (nI (i + 1)) (rL h 0) from by rw [ic.1.2.2]; exact vp_in_nI (by omega) (by omega)), ?_⟩)
  rw [show (rI h 0 ((nI (i + 1)).toNatClampNeg) : Int32) = xs (i + 1) from by rw [nI_clamp (by omega), ic.1.2.1]]
  refine exf_go 1 (show wpC (d + 150) true 127 [.ref 10, .int (xs (i + 1))] h (fun r h' => Go (d + 150) true 0 639 [.ref 0, .ref 10, .ref 130, .int (nI i)] [r] h' Q) from ?_)
  refine c_tries ic.1.1 ic.2.1 ic.2.2.1 (fun h1 q1 cd1 => ?_)
  have ic1 := ic_H ic (H_Y q1) cd1; have im1 := im_mq im (mq_g (H_Y q1).gq (fun a i ha => fz_Y (by omega)))
  show Go (d + 150) true 0 639 [.ref 0, .ref 10, .ref 130, .int (nI i)] [.int ((dTries (zg s) (ze s) (xs (i + 1))).2)] h1 Q
  refine exf_go 5 (show Go (d + 150) true 0 644 [.ref 0, .ref 10, .ref 130, .int (nI i)] [.int ((nI i) + 1), .ref 0, .ref 130, .int ((dTries (zg s) (ze s) (xs (i + 1))).2)] h1 Q from ?_)
  rw [show ((nI i) + 1 : Int32) = nI (i + 1) from nI_add i 1]
  refine exf_go 1 (show vp_in (nI (i + 1)) (al h1 0) ∧ (Go (d + 150) true 0 645 [.ref 0, .ref 10, .ref 130, .int (nI i)] [.int (rI h1 0 ((nI (i + 1)).toNatClampNeg)), .ref 130, .int ((dTries (zg s) (ze s) (xs (i + 1))).2)] h1 Q) from ⟨(show vp_in (nI (i + 1)) (rL h1 0) from by rw [ic1.1.2.2]; exact vp_in_nI (by omega) (by omega)), ?_⟩)
  rw [show (rI h1 0 ((nI (i + 1)).toNatClampNeg) : Int32) = xs (i + 1) from by rw [nI_clamp (by omega), ic1.1.2.1]]
  refine exf_go 1 (show wpC (d + 150) true 253 [.ref 130, .int (xs (i + 1))] h1 (fun r h' => Go (d + 150) true 0 648 [.ref 0, .ref 10, .ref 130, .int (nI i)] [r, .int ((dTries (zg s) (ze s) (xs (i + 1))).2)] h' Q) from ?_)
  refine m_tries (e := ze s) im1.1 (fun h2 q2 md2 => ?_)
  have im2 := im_De im1 q2 md2; have ic2 := ic_cq ic1 (cq_f q2 (fun a i ha => fz_De ha))
  have sbx : SB2 (zg s) (dTries (zg s) (ze s) (xs (i + 1))).1 := sb_tries ic.2.1.1 (show SB2 (zg s) (ze s) from ⟨sb.1, sb.2.1⟩) _
  have sb2 : SB (zg s, (dTries (zg s) (ze s) (xs (i + 1))).1, s.2.2) := ⟨sbx.1, sbx.2, sb.2.2⟩
  show Go (d + 150) true 0 648 [.ref 0, .ref 10, .ref 130, .int (nI i)] [.int ((dTries (zg s) (ze s) (xs (i + 1))).2), .int ((dTries (zg s) (ze s) (xs (i + 1))).2)] h2 Q
  refine exf_go 1 (show (((dTries (zg s) (ze s) (xs (i + 1))).2) = ((dTries (zg s) (ze s) (xs (i + 1))).2) → Go (d + 150) true 0 1429 [.ref 0, .ref 10, .ref 130, .int (nI i)] [] h2 Q) ∧ (¬ (((dTries (zg s) (ze s) (xs (i + 1))).2) = ((dTries (zg s) (ze s) (xs (i + 1))).2)) → Go (d + 150) true 0 651 [.ref 0, .ref 10, .ref 130, .int (nI i)] [] h2 Q) from ⟨fun c1 => ?_, fun c1 => ?_⟩)
  · skip
    exact k _ h2 ic2 im2 sb2
  · skip
    exact absurd rfl c1
theorem lw_feel {d : Nat} {h : Hp} {xs : Nat → Int32} {L i : Nat} {s : LwG} {Q : Po} (hL : L ≤ 3072) (hi : i + 6 ≤ L) (ic : IC xs L s h) (im : IMo s h) (sb : SB s) (k : ∀ s2 h2, IC xs L s2 h2 → IMo s2 h2 → SB s2 → Go (d + 150) true 0 1429 [.ref 0, .ref 10, .ref 130, .int (nI i)] [] h2 Q) : Go (d + 150) true 0 653 [.ref 0, .ref 10, .ref 130, .int (nI i)] [] h Q := by
  refine exf_go 5 (show Go (d + 150) true 0 658 [.ref 0, .ref 10, .ref 130, .int (nI i)] [.int ((nI i) + 1), .ref 0, .ref 10] h Q from ?_)
  rw [show ((nI i) + 1 : Int32) = nI (i + 1) from nI_add i 1]
  refine exf_go 1 (show vp_in (nI (i + 1)) (al h 0) ∧ (Go (d + 150) true 0 659 [.ref 0, .ref 10, .ref 130, .int (nI i)] [.int (rI h 0 ((nI (i + 1)).toNatClampNeg)), .ref 10] h Q) from ⟨(show vp_in (nI (i + 1)) (rL h 0) from by rw [ic.1.2.2]; exact vp_in_nI (by omega) (by omega)), ?_⟩)
  rw [show (rI h 0 ((nI (i + 1)).toNatClampNeg) : Int32) = xs (i + 1) from by rw [nI_clamp (by omega), ic.1.2.1]]
  refine exf_go 4 (show Go (d + 150) true 0 663 [.ref 0, .ref 10, .ref 130, .int (nI i)] [.int ((nI i) + 2), .ref 0, .int (xs (i + 1)), .ref 10] h Q from ?_)
  rw [show ((nI i) + 2 : Int32) = nI (i + 2) from nI_add i 2]
  refine exf_go 1 (show vp_in (nI (i + 2)) (al h 0) ∧ (Go (d + 150) true 0 664 [.ref 0, .ref 10, .ref 130, .int (nI i)] [.int (rI h 0 ((nI (i + 2)).toNatClampNeg)), .int (xs (i + 1)), .ref 10] h Q) from ⟨(show vp_in (nI (i + 2)) (rL h 0) from by rw [ic.1.2.2]; exact vp_in_nI (by omega) (by omega)), ?_⟩)
  rw [show (rI h 0 ((nI (i + 2)).toNatClampNeg) : Int32) = xs (i + 2) from by rw [nI_clamp (by omega), ic.1.2.1]]
  refine exf_go 1 (show wpC (d + 150) true 128 [.ref 10, .int (xs (i + 1)), .int (xs (i + 2))] h (fun r h' => Go (d + 150) true 0 667 [.ref 0, .ref 10, .ref 130, .int (nI i)] [r] h' Q) from ?_)
  refine c_feel ic.1.1 ic.2.1 ic.2.2.1 (fun h1 q1 cd1 => ?_)
  have ic1 := ic_H ic (H_Y q1) cd1; have im1 := im_mq im (mq_g (H_Y q1).gq (fun a i ha => fz_Y (by omega)))
  show Go (d + 150) true 0 667 [.ref 0, .ref 10, .ref 130, .int (nI i)] [.int ((dFeel (zg s) (ze s) (xs (i + 1)) (xs (i + 2))).2)] h1 Q
  refine exf_go 5 (show Go (d + 150) true 0 672 [.ref 0, .ref 10, .ref 130, .int (nI i)] [.int ((nI i) + 1), .ref 0, .ref 130, .int ((dFeel (zg s) (ze s) (xs (i + 1)) (xs (i + 2))).2)] h1 Q from ?_)
  rw [show ((nI i) + 1 : Int32) = nI (i + 1) from nI_add i 1]
  refine exf_go 1 (show vp_in (nI (i + 1)) (al h1 0) ∧ (Go (d + 150) true 0 673 [.ref 0, .ref 10, .ref 130, .int (nI i)] [.int (rI h1 0 ((nI (i + 1)).toNatClampNeg)), .ref 130, .int ((dFeel (zg s) (ze s) (xs (i + 1)) (xs (i + 2))).2)] h1 Q) from ⟨(show vp_in (nI (i + 1)) (rL h1 0) from by rw [ic1.1.2.2]; exact vp_in_nI (by omega) (by omega)), ?_⟩)
  rw [show (rI h1 0 ((nI (i + 1)).toNatClampNeg) : Int32) = xs (i + 1) from by rw [nI_clamp (by omega), ic1.1.2.1]]
  refine exf_go 4 (show Go (d + 150) true 0 677 [.ref 0, .ref 10, .ref 130, .int (nI i)] [.int ((nI i) + 2), .ref 0, .int (xs (i + 1)), .ref 130, .int ((dFeel (zg s) (ze s) (xs (i + 1)) (xs (i + 2))).2)] h1 Q from ?_)
  rw [show ((nI i) + 2 : Int32) = nI (i + 2) from nI_add i 2]
  refine exf_go 1 (show vp_in (nI (i + 2)) (al h1 0) ∧ (Go (d + 150) true 0 678 [.ref 0, .ref 10, .ref 130, .int (nI i)] [.int (rI h1 0 ((nI (i + 2)).toNatClampNeg)), .int (xs (i + 1)), .ref 130, .int ((dFeel (zg s) (ze s) (xs (i + 1)) (xs (i + 2))).2)] h1 Q) from ⟨(show vp_in (nI (i + 2)) (rL h1 0) from by rw [ic1.1.2.2]; exact vp_in_nI (by omega) (by omega)), ?_⟩)
  rw [show (rI h1 0 ((nI (i + 2)).toNatClampNeg) : Int32) = xs (i + 2) from by rw [nI_clamp (by omega), ic1.1.2.1]]
  refine exf_go 1 (show wpC (d + 150) true 254 [.ref 130, .int (xs (i + 1)), .int (xs (i + 2))] h1 (fun r h' => Go (d + 150) true 0 681 [.ref 0, .ref 10, .ref 130, .int (nI i)] [r, .int ((dFeel (zg s) (ze s) (xs (i + 1)) (xs (i + 2))).2)] h' Q) from ?_)
  refine m_feel (e := ze s) im1.1 (fun h2 q2 md2 => ?_)
  have im2 := im_De im1 q2 md2; have ic2 := ic_cq ic1 (cq_f q2 (fun a i ha => fz_De ha))
  have sbx : SB2 (zg s) (dFeel (zg s) (ze s) (xs (i + 1)) (xs (i + 2))).1 := sb_feel (show SB2 (zg s) (ze s) from ⟨sb.1, sb.2.1⟩) _ _
  have sb2 : SB (zg s, (dFeel (zg s) (ze s) (xs (i + 1)) (xs (i + 2))).1, s.2.2) := ⟨sbx.1, sbx.2, sb.2.2⟩
  show Go (d + 150) true 0 681 [.ref 0, .ref 10, .ref 130, .int (nI i)] [.int ((dFeel (zg s) (ze s) (xs (i + 1)) (xs (i + 2))).2), .int ((dFeel (zg s) (ze s) (xs (i + 1)) (xs (i + 2))).2)] h2 Q
  refine exf_go 1 (show (((dFeel (zg s) (ze s) (xs (i + 1)) (xs (i + 2))).2) = ((dFeel (zg s) (ze s) (xs (i + 1)) (xs (i + 2))).2) → Go (d + 150) true 0 1429 [.ref 0, .ref 10, .ref 130, .int (nI i)] [] h2 Q) ∧ (¬ (((dFeel (zg s) (ze s) (xs (i + 1)) (xs (i + 2))).2) = ((dFeel (zg s) (ze s) (xs (i + 1)) (xs (i + 2))).2)) → Go (d + 150) true 0 684 [.ref 0, .ref 10, .ref 130, .int (nI i)] [] h2 Q) from ⟨fun c1 => ?_, fun c1 => ?_⟩)
  · skip
    exact k _ h2 ic2 im2 sb2
  · skip
    exact absurd rfl c1
theorem lw_undo {d : Nat} {h : Hp} {xs : Nat → Int32} {L i : Nat} {s : LwG} {Q : Po} (hL : L ≤ 3072) (hi : i + 6 ≤ L) (ic : IC xs L s h) (im : IMo s h) (sb : SB s) (k : ∀ s2 h2, IC xs L s2 h2 → IMo s2 h2 → SB s2 → Go (d + 150) true 0 1429 [.ref 0, .ref 10, .ref 130, .int (nI i)] [] h2 Q) : Go (d + 150) true 0 686 [.ref 0, .ref 10, .ref 130, .int (nI i)] [] h Q := by
  refine exf_go 5 (show Go (d + 150) true 0 691 [.ref 0, .ref 10, .ref 130, .int (nI i)] [.int ((nI i) + 1), .ref 0, .ref 10] h Q from ?_)
  rw [show ((nI i) + 1 : Int32) = nI (i + 1) from nI_add i 1]
  refine exf_go 1 (show vp_in (nI (i + 1)) (al h 0) ∧ (Go (d + 150) true 0 692 [.ref 0, .ref 10, .ref 130, .int (nI i)] [.int (rI h 0 ((nI (i + 1)).toNatClampNeg)), .ref 10] h Q) from ⟨(show vp_in (nI (i + 1)) (rL h 0) from by rw [ic.1.2.2]; exact vp_in_nI (by omega) (by omega)), ?_⟩)
  rw [show (rI h 0 ((nI (i + 1)).toNatClampNeg) : Int32) = xs (i + 1) from by rw [nI_clamp (by omega), ic.1.2.1]]
  refine exf_go 1 (show wpC (d + 150) true 129 [.ref 10, .int (xs (i + 1))] h (fun r h' => Go (d + 150) true 0 695 [.ref 0, .ref 10, .ref 130, .int (nI i)] [r] h' Q) from ?_)
  refine c_undo ic.1.1 ic.2.1 ic.2.2.1 (fun h1 q1 cd1 => ?_)
  have ic1 := ic_H ic (H_Y q1) cd1; have im1 := im_mq im (mq_g (H_Y q1).gq (fun a i ha => fz_Y (by omega)))
  show Go (d + 150) true 0 695 [.ref 0, .ref 10, .ref 130, .int (nI i)] [.int ((dUndo (ze s) (xs (i + 1))).2)] h1 Q
  refine exf_go 5 (show Go (d + 150) true 0 700 [.ref 0, .ref 10, .ref 130, .int (nI i)] [.int ((nI i) + 1), .ref 0, .ref 130, .int ((dUndo (ze s) (xs (i + 1))).2)] h1 Q from ?_)
  rw [show ((nI i) + 1 : Int32) = nI (i + 1) from nI_add i 1]
  refine exf_go 1 (show vp_in (nI (i + 1)) (al h1 0) ∧ (Go (d + 150) true 0 701 [.ref 0, .ref 10, .ref 130, .int (nI i)] [.int (rI h1 0 ((nI (i + 1)).toNatClampNeg)), .ref 130, .int ((dUndo (ze s) (xs (i + 1))).2)] h1 Q) from ⟨(show vp_in (nI (i + 1)) (rL h1 0) from by rw [ic1.1.2.2]; exact vp_in_nI (by omega) (by omega)), ?_⟩)
  rw [show (rI h1 0 ((nI (i + 1)).toNatClampNeg) : Int32) = xs (i + 1) from by rw [nI_clamp (by omega), ic1.1.2.1]]
  refine exf_go 1 (show wpC (d + 150) true 255 [.ref 130, .int (xs (i + 1))] h1 (fun r h' => Go (d + 150) true 0 704 [.ref 0, .ref 10, .ref 130, .int (nI i)] [r, .int ((dUndo (ze s) (xs (i + 1))).2)] h' Q) from ?_)
  refine m_undo (g := zg s) (e := ze s) im1.1 (fun h2 q2 md2 => ?_)
  have im2 := im_De im1 q2 md2; have ic2 := ic_cq ic1 (cq_f q2 (fun a i ha => fz_De ha))
  have sbx : SB2 (zg s) (dUndo (ze s) (xs (i + 1))).1 := sb_undo (show SB2 (zg s) (ze s) from ⟨sb.1, sb.2.1⟩) _
  have sb2 : SB (zg s, (dUndo (ze s) (xs (i + 1))).1, s.2.2) := ⟨sbx.1, sbx.2, sb.2.2⟩
  show Go (d + 150) true 0 704 [.ref 0, .ref 10, .ref 130, .int (nI i)] [.int ((dUndo (ze s) (xs (i + 1))).2), .int ((dUndo (ze s) (xs (i + 1))).2)] h2 Q
  refine exf_go 1 (show (((dUndo (ze s) (xs (i + 1))).2) = ((dUndo (ze s) (xs (i + 1))).2) → Go (d + 150) true 0 1429 [.ref 0, .ref 10, .ref 130, .int (nI i)] [] h2 Q) ∧ (¬ (((dUndo (ze s) (xs (i + 1))).2) = ((dUndo (ze s) (xs (i + 1))).2)) → Go (d + 150) true 0 707 [.ref 0, .ref 10, .ref 130, .int (nI i)] [] h2 Q) from ⟨fun c1 => ?_, fun c1 => ?_⟩)
  · skip
    exact k _ h2 ic2 im2 sb2
  · skip
    exact absurd rfl c1
theorem lw_judge {d : Nat} {h : Hp} {xs : Nat → Int32} {L i : Nat} {s : LwG} {Q : Po} (hL : L ≤ 3072) (hi : i + 6 ≤ L) (ic : IC xs L s h) (im : IMo s h) (sb : SB s) (k : ∀ s2 h2, IC xs L s2 h2 → IMo s2 h2 → SB s2 → Go (d + 150) true 0 1429 [.ref 0, .ref 10, .ref 130, .int (nI i)] [] h2 Q) : Go (d + 150) true 0 709 [.ref 0, .ref 10, .ref 130, .int (nI i)] [] h Q := by
  refine exf_go 5 (show Go (d + 150) true 0 714 [.ref 0, .ref 10, .ref 130, .int (nI i)] [.int ((nI i) + 1), .ref 0, .ref 10] h Q from ?_)
  rw [show ((nI i) + 1 : Int32) = nI (i + 1) from nI_add i 1]
  refine exf_go 1 (show vp_in (nI (i + 1)) (al h 0) ∧ (Go (d + 150) true 0 715 [.ref 0, .ref 10, .ref 130, .int (nI i)] [.int (rI h 0 ((nI (i + 1)).toNatClampNeg)), .ref 10] h Q) from ⟨(show vp_in (nI (i + 1)) (rL h 0) from by rw [ic.1.2.2]; exact vp_in_nI (by omega) (by omega)), ?_⟩)
  rw [show (rI h 0 ((nI (i + 1)).toNatClampNeg) : Int32) = xs (i + 1) from by rw [nI_clamp (by omega), ic.1.2.1]]
  refine exf_go 4 (show Go (d + 150) true 0 719 [.ref 0, .ref 10, .ref 130, .int (nI i)] [.int ((nI i) + 2), .ref 0, .int (xs (i + 1)), .ref 10] h Q from ?_)
  rw [show ((nI i) + 2 : Int32) = nI (i + 2) from nI_add i 2]
  refine exf_go 1 (show vp_in (nI (i + 2)) (al h 0) ∧ (Go (d + 150) true 0 720 [.ref 0, .ref 10, .ref 130, .int (nI i)] [.int (rI h 0 ((nI (i + 2)).toNatClampNeg)), .int (xs (i + 1)), .ref 10] h Q) from ⟨(show vp_in (nI (i + 2)) (rL h 0) from by rw [ic.1.2.2]; exact vp_in_nI (by omega) (by omega)), ?_⟩)
  rw [show (rI h 0 ((nI (i + 2)).toNatClampNeg) : Int32) = xs (i + 2) from by rw [nI_clamp (by omega), ic.1.2.1]]
  refine exf_go 1 (show wpC (d + 150) true 130 [.ref 10, .int (xs (i + 1)), .int (xs (i + 2))] h (fun r h' => Go (d + 150) true 0 723 [.ref 0, .ref 10, .ref 130, .int (nI i)] [r] h' Q) from ?_)
  refine c_judge ic.1.1 ic.2.1 ic.2.2.1 ic.2.2.2.1 (fun h1 q1 cd1 => ?_)
  have ic1 := ic_H ic (H_Y q1) cd1; have im1 := im_mq im (mq_g (H_Y q1).gq (fun a i ha => fz_Y (by omega)))
  show Go (d + 150) true 0 723 [.ref 0, .ref 10, .ref 130, .int (nI i)] [.int (fJudge (zg s) (ze s).1 (zr s) (xs (i + 1)) (xs (i + 2)))] h1 Q
  refine exf_go 5 (show Go (d + 150) true 0 728 [.ref 0, .ref 10, .ref 130, .int (nI i)] [.int ((nI i) + 1), .ref 0, .ref 130, .int (fJudge (zg s) (ze s).1 (zr s) (xs (i + 1)) (xs (i + 2)))] h1 Q from ?_)
  rw [show ((nI i) + 1 : Int32) = nI (i + 1) from nI_add i 1]
  refine exf_go 1 (show vp_in (nI (i + 1)) (al h1 0) ∧ (Go (d + 150) true 0 729 [.ref 0, .ref 10, .ref 130, .int (nI i)] [.int (rI h1 0 ((nI (i + 1)).toNatClampNeg)), .ref 130, .int (fJudge (zg s) (ze s).1 (zr s) (xs (i + 1)) (xs (i + 2)))] h1 Q) from ⟨(show vp_in (nI (i + 1)) (rL h1 0) from by rw [ic1.1.2.2]; exact vp_in_nI (by omega) (by omega)), ?_⟩)
  rw [show (rI h1 0 ((nI (i + 1)).toNatClampNeg) : Int32) = xs (i + 1) from by rw [nI_clamp (by omega), ic1.1.2.1]]
  refine exf_go 4 (show Go (d + 150) true 0 733 [.ref 0, .ref 10, .ref 130, .int (nI i)] [.int ((nI i) + 2), .ref 0, .int (xs (i + 1)), .ref 130, .int (fJudge (zg s) (ze s).1 (zr s) (xs (i + 1)) (xs (i + 2)))] h1 Q from ?_)
  rw [show ((nI i) + 2 : Int32) = nI (i + 2) from nI_add i 2]
  refine exf_go 1 (show vp_in (nI (i + 2)) (al h1 0) ∧ (Go (d + 150) true 0 734 [.ref 0, .ref 10, .ref 130, .int (nI i)] [.int (rI h1 0 ((nI (i + 2)).toNatClampNeg)), .int (xs (i + 1)), .ref 130, .int (fJudge (zg s) (ze s).1 (zr s) (xs (i + 1)) (xs (i + 2)))] h1 Q) from ⟨(show vp_in (nI (i + 2)) (rL h1 0) from by rw [ic1.1.2.2]; exact vp_in_nI (by omega) (by omega)), ?_⟩)
  rw [show (rI h1 0 ((nI (i + 2)).toNatClampNeg) : Int32) = xs (i + 2) from by rw [nI_clamp (by omega), ic1.1.2.1]]
  refine exf_go 1 (show wpC (d + 150) true 258 [.ref 130, .int (xs (i + 1)), .int (xs (i + 2))] h1 (fun r h' => Go (d + 150) true 0 737 [.ref 0, .ref 10, .ref 130, .int (nI i)] [r, .int (fJudge (zg s) (ze s).1 (zr s) (xs (i + 1)) (xs (i + 2)))] h' Q) from ?_)
  refine m_judge (e := ze s) im1.1 im1.2.1 (fun h2 q2 md2 => ?_)
  have im2 := im_De im1 q2 md2; have ic2 := ic_cq ic1 (cq_f q2 (fun a i ha => fz_De ha)); have sb2 := sb
  show Go (d + 150) true 0 737 [.ref 0, .ref 10, .ref 130, .int (nI i)] [.int (fJudge (zg s) (ze s).1 (zr s) (xs (i + 1)) (xs (i + 2))), .int (fJudge (zg s) (ze s).1 (zr s) (xs (i + 1)) (xs (i + 2)))] h2 Q
  refine exf_go 1 (show ((fJudge (zg s) (ze s).1 (zr s) (xs (i + 1)) (xs (i + 2))) = (fJudge (zg s) (ze s).1 (zr s) (xs (i + 1)) (xs (i + 2))) → Go (d + 150) true 0 1429 [.ref 0, .ref 10, .ref 130, .int (nI i)] [] h2 Q) ∧ (¬ ((fJudge (zg s) (ze s).1 (zr s) (xs (i + 1)) (xs (i + 2))) = (fJudge (zg s) (ze s).1 (zr s) (xs (i + 1)) (xs (i + 2)))) → Go (d + 150) true 0 740 [.ref 0, .ref 10, .ref 130, .int (nI i)] [] h2 Q) from ⟨fun c1 => ?_, fun c1 => ?_⟩)
  · skip
    exact k _ h2 ic2 im2 sb2
  · skip
    exact absurd rfl c1
theorem lw_perform {d : Nat} {h : Hp} {xs : Nat → Int32} {L i : Nat} {s : LwG} {Q : Po} (hL : L ≤ 3072) (hi : i + 6 ≤ L) (ic : IC xs L s h) (im : IMo s h) (sb : SB s) (k : ∀ s2 h2, IC xs L s2 h2 → IMo s2 h2 → SB s2 → Go (d + 150) true 0 1429 [.ref 0, .ref 10, .ref 130, .int (nI i)] [] h2 Q) : Go (d + 150) true 0 742 [.ref 0, .ref 10, .ref 130, .int (nI i)] [] h Q := by
  refine exf_go 5 (show Go (d + 150) true 0 747 [.ref 0, .ref 10, .ref 130, .int (nI i)] [.int ((nI i) + 1), .ref 0, .ref 10] h Q from ?_)
  rw [show ((nI i) + 1 : Int32) = nI (i + 1) from nI_add i 1]
  refine exf_go 1 (show vp_in (nI (i + 1)) (al h 0) ∧ (Go (d + 150) true 0 748 [.ref 0, .ref 10, .ref 130, .int (nI i)] [.int (rI h 0 ((nI (i + 1)).toNatClampNeg)), .ref 10] h Q) from ⟨(show vp_in (nI (i + 1)) (rL h 0) from by rw [ic.1.2.2]; exact vp_in_nI (by omega) (by omega)), ?_⟩)
  rw [show (rI h 0 ((nI (i + 1)).toNatClampNeg) : Int32) = xs (i + 1) from by rw [nI_clamp (by omega), ic.1.2.1]]
  refine exf_go 1 (show wpC (d + 150) true 131 [.ref 10, .int (xs (i + 1))] h (fun r h' => Go (d + 150) true 0 751 [.ref 0, .ref 10, .ref 130, .int (nI i)] [r] h' Q) from ?_)
  refine c_perform ic.1.1 ic.2.1 ic.2.2.1 ic.2.2.2.1 (fun h1 q1 cd1 => ?_)
  have ic1 := ic_H ic (H_Y q1) cd1; have im1 := im_mq im (mq_g (H_Y q1).gq (fun a i ha => fz_Y (by omega)))
  show Go (d + 150) true 0 751 [.ref 0, .ref 10, .ref 130, .int (nI i)] [.int ((dPerf (zg s) (ze s) (zr s) (xs (i + 1))).2)] h1 Q
  refine exf_go 5 (show Go (d + 150) true 0 756 [.ref 0, .ref 10, .ref 130, .int (nI i)] [.int ((nI i) + 1), .ref 0, .ref 130, .int ((dPerf (zg s) (ze s) (zr s) (xs (i + 1))).2)] h1 Q from ?_)
  rw [show ((nI i) + 1 : Int32) = nI (i + 1) from nI_add i 1]
  refine exf_go 1 (show vp_in (nI (i + 1)) (al h1 0) ∧ (Go (d + 150) true 0 757 [.ref 0, .ref 10, .ref 130, .int (nI i)] [.int (rI h1 0 ((nI (i + 1)).toNatClampNeg)), .ref 130, .int ((dPerf (zg s) (ze s) (zr s) (xs (i + 1))).2)] h1 Q) from ⟨(show vp_in (nI (i + 1)) (rL h1 0) from by rw [ic1.1.2.2]; exact vp_in_nI (by omega) (by omega)), ?_⟩)
  rw [show (rI h1 0 ((nI (i + 1)).toNatClampNeg) : Int32) = xs (i + 1) from by rw [nI_clamp (by omega), ic1.1.2.1]]
  refine exf_go 1 (show wpC (d + 150) true 259 [.ref 130, .int (xs (i + 1))] h1 (fun r h' => Go (d + 150) true 0 760 [.ref 0, .ref 10, .ref 130, .int (nI i)] [r, .int ((dPerf (zg s) (ze s) (zr s) (xs (i + 1))).2)] h' Q) from ?_)
  refine m_perform (e := ze s) im1.1 im1.2.1 (fun h2 q2 md2 => ?_)
  have im2 := im_De im1 q2 md2; have ic2 := ic_cq ic1 (cq_f q2 (fun a i ha => fz_De ha))
  have sbx : SB2 (zg s) (dPerf (zg s) (ze s) (zr s) (xs (i + 1))).1 := sb_perf ic.2.1.1 (show SB2 (zg s) (ze s) from ⟨sb.1, sb.2.1⟩) _ _
  have sb2 : SB (zg s, (dPerf (zg s) (ze s) (zr s) (xs (i + 1))).1, s.2.2) := ⟨sbx.1, sbx.2, sb.2.2⟩
  show Go (d + 150) true 0 760 [.ref 0, .ref 10, .ref 130, .int (nI i)] [.int ((dPerf (zg s) (ze s) (zr s) (xs (i + 1))).2), .int ((dPerf (zg s) (ze s) (zr s) (xs (i + 1))).2)] h2 Q
  refine exf_go 1 (show (((dPerf (zg s) (ze s) (zr s) (xs (i + 1))).2) = ((dPerf (zg s) (ze s) (zr s) (xs (i + 1))).2) → Go (d + 150) true 0 1429 [.ref 0, .ref 10, .ref 130, .int (nI i)] [] h2 Q) ∧ (¬ (((dPerf (zg s) (ze s) (zr s) (xs (i + 1))).2) = ((dPerf (zg s) (ze s) (zr s) (xs (i + 1))).2)) → Go (d + 150) true 0 763 [.ref 0, .ref 10, .ref 130, .int (nI i)] [] h2 Q) from ⟨fun c1 => ?_, fun c1 => ?_⟩)
  · skip
    exact k _ h2 ic2 im2 sb2
  · skip
    exact absurd rfl c1
theorem lw_year {d : Nat} {h : Hp} {xs : Nat → Int32} {L i : Nat} {s : LwG} {Q : Po} (hL : L ≤ 3072) (hi : i + 6 ≤ L) (ic : IC xs L s h) (im : IMo s h) (sb : SB s) (k : ∀ s2 h2, IC xs L s2 h2 → IMo s2 h2 → SB s2 → Go (d + 150) true 0 1429 [.ref 0, .ref 10, .ref 130, .int (nI i)] [] h2 Q) : Go (d + 150) true 0 765 [.ref 0, .ref 10, .ref 130, .int (nI i)] [] h Q := by
  refine exf_go 5 (show Go (d + 150) true 0 770 [.ref 0, .ref 10, .ref 130, .int (nI i)] [.int ((nI i) + 1), .ref 0, .ref 10] h Q from ?_)
  rw [show ((nI i) + 1 : Int32) = nI (i + 1) from nI_add i 1]
  refine exf_go 1 (show vp_in (nI (i + 1)) (al h 0) ∧ (Go (d + 150) true 0 771 [.ref 0, .ref 10, .ref 130, .int (nI i)] [.int (rI h 0 ((nI (i + 1)).toNatClampNeg)), .ref 10] h Q) from ⟨(show vp_in (nI (i + 1)) (rL h 0) from by rw [ic.1.2.2]; exact vp_in_nI (by omega) (by omega)), ?_⟩)
  rw [show (rI h 0 ((nI (i + 1)).toNatClampNeg) : Int32) = xs (i + 1) from by rw [nI_clamp (by omega), ic.1.2.1]]
  refine exf_go 4 (show Go (d + 150) true 0 775 [.ref 0, .ref 10, .ref 130, .int (nI i)] [.int ((nI i) + 2), .ref 0, .int (xs (i + 1)), .ref 10] h Q from ?_)
  rw [show ((nI i) + 2 : Int32) = nI (i + 2) from nI_add i 2]
  refine exf_go 1 (show vp_in (nI (i + 2)) (al h 0) ∧ (Go (d + 150) true 0 776 [.ref 0, .ref 10, .ref 130, .int (nI i)] [.int (rI h 0 ((nI (i + 2)).toNatClampNeg)), .int (xs (i + 1)), .ref 10] h Q) from ⟨(show vp_in (nI (i + 2)) (rL h 0) from by rw [ic.1.2.2]; exact vp_in_nI (by omega) (by omega)), ?_⟩)
  rw [show (rI h 0 ((nI (i + 2)).toNatClampNeg) : Int32) = xs (i + 2) from by rw [nI_clamp (by omega), ic.1.2.1]]
  refine exf_go 1 (show wpC (d + 150) true 132 [.ref 10, .int (xs (i + 1)), .int (xs (i + 2))] h (fun r h' => Go (d + 150) true 0 779 [.ref 0, .ref 10, .ref 130, .int (nI i)] [r] h' Q) from ?_)
  refine c_year ic.1.1 ic.2.1 ic.2.2.1 (fun h1 q1 cd1 => ?_)
  have ic1 := ic_H ic (q1) cd1; have im1 := im_mq im (mq_g (q1).gq (fun a i ha => fz_Y (by omega)))
  show Go (d + 150) true 0 779 [.ref 0, .ref 10, .ref 130, .int (nI i)] [.int ((dYear (zg s) (ze s) (xs (i + 1)) (xs (i + 2))).2)] h1 Q
  refine exf_go 5 (show Go (d + 150) true 0 784 [.ref 0, .ref 10, .ref 130, .int (nI i)] [.int ((nI i) + 1), .ref 0, .ref 130, .int ((dYear (zg s) (ze s) (xs (i + 1)) (xs (i + 2))).2)] h1 Q from ?_)
  rw [show ((nI i) + 1 : Int32) = nI (i + 1) from nI_add i 1]
  refine exf_go 1 (show vp_in (nI (i + 1)) (al h1 0) ∧ (Go (d + 150) true 0 785 [.ref 0, .ref 10, .ref 130, .int (nI i)] [.int (rI h1 0 ((nI (i + 1)).toNatClampNeg)), .ref 130, .int ((dYear (zg s) (ze s) (xs (i + 1)) (xs (i + 2))).2)] h1 Q) from ⟨(show vp_in (nI (i + 1)) (rL h1 0) from by rw [ic1.1.2.2]; exact vp_in_nI (by omega) (by omega)), ?_⟩)
  rw [show (rI h1 0 ((nI (i + 1)).toNatClampNeg) : Int32) = xs (i + 1) from by rw [nI_clamp (by omega), ic1.1.2.1]]
  refine exf_go 4 (show Go (d + 150) true 0 789 [.ref 0, .ref 10, .ref 130, .int (nI i)] [.int ((nI i) + 2), .ref 0, .int (xs (i + 1)), .ref 130, .int ((dYear (zg s) (ze s) (xs (i + 1)) (xs (i + 2))).2)] h1 Q from ?_)
  rw [show ((nI i) + 2 : Int32) = nI (i + 2) from nI_add i 2]
  refine exf_go 1 (show vp_in (nI (i + 2)) (al h1 0) ∧ (Go (d + 150) true 0 790 [.ref 0, .ref 10, .ref 130, .int (nI i)] [.int (rI h1 0 ((nI (i + 2)).toNatClampNeg)), .int (xs (i + 1)), .ref 130, .int ((dYear (zg s) (ze s) (xs (i + 1)) (xs (i + 2))).2)] h1 Q) from ⟨(show vp_in (nI (i + 2)) (rL h1 0) from by rw [ic1.1.2.2]; exact vp_in_nI (by omega) (by omega)), ?_⟩)
  rw [show (rI h1 0 ((nI (i + 2)).toNatClampNeg) : Int32) = xs (i + 2) from by rw [nI_clamp (by omega), ic1.1.2.1]]
  refine exf_go 1 (show wpC (d + 150) true 262 [.ref 130, .int (xs (i + 1)), .int (xs (i + 2))] h1 (fun r h' => Go (d + 150) true 0 793 [.ref 0, .ref 10, .ref 130, .int (nI i)] [r, .int ((dYear (zg s) (ze s) (xs (i + 1)) (xs (i + 2))).2)] h' Q) from ?_)
  refine m_year (e := ze s) im1.1 (fun h2 q2 md2 => ?_)
  have im2 := im_De im1 q2 md2; have ic2 := ic_cq ic1 (cq_f q2 (fun a i ha => fz_De ha))
  have sbx : SB2 (zg s) (dYear (zg s) (ze s) (xs (i + 1)) (xs (i + 2))).1 := sb_year ic.2.1.1 (show SB2 (zg s) (ze s) from ⟨sb.1, sb.2.1⟩) _ _
  have sb2 : SB (zg s, (dYear (zg s) (ze s) (xs (i + 1)) (xs (i + 2))).1, s.2.2) := ⟨sbx.1, sbx.2, sb.2.2⟩
  show Go (d + 150) true 0 793 [.ref 0, .ref 10, .ref 130, .int (nI i)] [.int ((dYear (zg s) (ze s) (xs (i + 1)) (xs (i + 2))).2), .int ((dYear (zg s) (ze s) (xs (i + 1)) (xs (i + 2))).2)] h2 Q
  refine exf_go 1 (show (((dYear (zg s) (ze s) (xs (i + 1)) (xs (i + 2))).2) = ((dYear (zg s) (ze s) (xs (i + 1)) (xs (i + 2))).2) → Go (d + 150) true 0 1429 [.ref 0, .ref 10, .ref 130, .int (nI i)] [] h2 Q) ∧ (¬ (((dYear (zg s) (ze s) (xs (i + 1)) (xs (i + 2))).2) = ((dYear (zg s) (ze s) (xs (i + 1)) (xs (i + 2))).2)) → Go (d + 150) true 0 796 [.ref 0, .ref 10, .ref 130, .int (nI i)] [] h2 Q) from ⟨fun c1 => ?_, fun c1 => ?_⟩)
  · skip
    exact k _ h2 ic2 im2 sb2
  · skip
    exact absurd rfl c1
theorem lw_steps {d : Nat} {h : Hp} {xs : Nat → Int32} {L i : Nat} {s : LwG} {Q : Po} (hL : L ≤ 3072) (hi : i + 6 ≤ L) (ic : IC xs L s h) (im : IMo s h) (sb : SB s) (k : ∀ s2 h2, IC xs L s2 h2 → IMo s2 h2 → SB s2 → Go (d + 150) true 0 1429 [.ref 0, .ref 10, .ref 130, .int (nI i)] [] h2 Q) : Go (d + 150) true 0 798 [.ref 0, .ref 10, .ref 130, .int (nI i)] [] h Q := by
  refine exf_go 5 (show Go (d + 150) true 0 803 [.ref 0, .ref 10, .ref 130, .int (nI i)] [.int ((nI i) + 1), .ref 0, .ref 10] h Q from ?_)
  rw [show ((nI i) + 1 : Int32) = nI (i + 1) from nI_add i 1]
  refine exf_go 1 (show vp_in (nI (i + 1)) (al h 0) ∧ (Go (d + 150) true 0 804 [.ref 0, .ref 10, .ref 130, .int (nI i)] [.int (rI h 0 ((nI (i + 1)).toNatClampNeg)), .ref 10] h Q) from ⟨(show vp_in (nI (i + 1)) (rL h 0) from by rw [ic.1.2.2]; exact vp_in_nI (by omega) (by omega)), ?_⟩)
  rw [show (rI h 0 ((nI (i + 1)).toNatClampNeg) : Int32) = xs (i + 1) from by rw [nI_clamp (by omega), ic.1.2.1]]
  refine exf_go 4 (show Go (d + 150) true 0 808 [.ref 0, .ref 10, .ref 130, .int (nI i)] [.int ((nI i) + 2), .ref 0, .int (xs (i + 1)), .ref 10] h Q from ?_)
  rw [show ((nI i) + 2 : Int32) = nI (i + 2) from nI_add i 2]
  refine exf_go 1 (show vp_in (nI (i + 2)) (al h 0) ∧ (Go (d + 150) true 0 809 [.ref 0, .ref 10, .ref 130, .int (nI i)] [.int (rI h 0 ((nI (i + 2)).toNatClampNeg)), .int (xs (i + 1)), .ref 10] h Q) from ⟨(show vp_in (nI (i + 2)) (rL h 0) from by rw [ic.1.2.2]; exact vp_in_nI (by omega) (by omega)), ?_⟩)
  rw [show (rI h 0 ((nI (i + 2)).toNatClampNeg) : Int32) = xs (i + 2) from by rw [nI_clamp (by omega), ic.1.2.1]]
  refine exf_go 1 (show wpC (d + 150) true 133 [.ref 10, .int (xs (i + 1)), .int (xs (i + 2))] h (fun r h' => Go (d + 150) true 0 812 [.ref 0, .ref 10, .ref 130, .int (nI i)] [r] h' Q) from ?_)
  refine c_steps ic.2.1 ?_
  have ic1 := ic; have im1 := im
  show Go (d + 150) true 0 812 [.ref 0, .ref 10, .ref 130, .int (nI i)] [.int (fSteps (zg s) (xs (i + 1)) (xs (i + 2)))] h Q
  refine exf_go 5 (show Go (d + 150) true 0 817 [.ref 0, .ref 10, .ref 130, .int (nI i)] [.int ((nI i) + 1), .ref 0, .ref 130, .int (fSteps (zg s) (xs (i + 1)) (xs (i + 2)))] h Q from ?_)
  rw [show ((nI i) + 1 : Int32) = nI (i + 1) from nI_add i 1]
  refine exf_go 1 (show vp_in (nI (i + 1)) (al h 0) ∧ (Go (d + 150) true 0 818 [.ref 0, .ref 10, .ref 130, .int (nI i)] [.int (rI h 0 ((nI (i + 1)).toNatClampNeg)), .ref 130, .int (fSteps (zg s) (xs (i + 1)) (xs (i + 2)))] h Q) from ⟨(show vp_in (nI (i + 1)) (rL h 0) from by rw [ic.1.2.2]; exact vp_in_nI (by omega) (by omega)), ?_⟩)
  rw [show (rI h 0 ((nI (i + 1)).toNatClampNeg) : Int32) = xs (i + 1) from by rw [nI_clamp (by omega), ic.1.2.1]]
  refine exf_go 4 (show Go (d + 150) true 0 822 [.ref 0, .ref 10, .ref 130, .int (nI i)] [.int ((nI i) + 2), .ref 0, .int (xs (i + 1)), .ref 130, .int (fSteps (zg s) (xs (i + 1)) (xs (i + 2)))] h Q from ?_)
  rw [show ((nI i) + 2 : Int32) = nI (i + 2) from nI_add i 2]
  refine exf_go 1 (show vp_in (nI (i + 2)) (al h 0) ∧ (Go (d + 150) true 0 823 [.ref 0, .ref 10, .ref 130, .int (nI i)] [.int (rI h 0 ((nI (i + 2)).toNatClampNeg)), .int (xs (i + 1)), .ref 130, .int (fSteps (zg s) (xs (i + 1)) (xs (i + 2)))] h Q) from ⟨(show vp_in (nI (i + 2)) (rL h 0) from by rw [ic.1.2.2]; exact vp_in_nI (by omega) (by omega)), ?_⟩)
  rw [show (rI h 0 ((nI (i + 2)).toNatClampNeg) : Int32) = xs (i + 2) from by rw [nI_clamp (by omega), ic.1.2.1]]
  refine exf_go 1 (show wpC (d + 150) true 263 [.ref 130, .int (xs (i + 1)), .int (xs (i + 2))] h (fun r h' => Go (d + 150) true 0 826 [.ref 0, .ref 10, .ref 130, .int (nI i)] [r, .int (fSteps (zg s) (xs (i + 1)) (xs (i + 2)))] h' Q) from ?_)
  refine m_steps im1.1.1 (fun h2 q2 => ?_)
  have im2 := im_M im1 q2; have ic2 := ic_cq ic1 (cq_f q2 (fun a i ha => fz_M ha)); have sb2 := sb
  show Go (d + 150) true 0 826 [.ref 0, .ref 10, .ref 130, .int (nI i)] [.int (fSteps (zg s) (xs (i + 1)) (xs (i + 2))), .int (fSteps (zg s) (xs (i + 1)) (xs (i + 2)))] h2 Q
  refine exf_go 1 (show ((fSteps (zg s) (xs (i + 1)) (xs (i + 2))) = (fSteps (zg s) (xs (i + 1)) (xs (i + 2))) → Go (d + 150) true 0 1429 [.ref 0, .ref 10, .ref 130, .int (nI i)] [] h2 Q) ∧ (¬ ((fSteps (zg s) (xs (i + 1)) (xs (i + 2))) = (fSteps (zg s) (xs (i + 1)) (xs (i + 2)))) → Go (d + 150) true 0 829 [.ref 0, .ref 10, .ref 130, .int (nI i)] [] h2 Q) from ⟨fun c1 => ?_, fun c1 => ?_⟩)
  · skip
    exact k _ h2 ic2 im2 sb2
  · skip
    exact absurd rfl c1
theorem lw_nearest {d : Nat} {h : Hp} {xs : Nat → Int32} {L i : Nat} {s : LwG} {Q : Po} (hL : L ≤ 3072) (hi : i + 6 ≤ L) (ic : IC xs L s h) (im : IMo s h) (sb : SB s) (k : ∀ s2 h2, IC xs L s2 h2 → IMo s2 h2 → SB s2 → Go (d + 150) true 0 1429 [.ref 0, .ref 10, .ref 130, .int (nI i)] [] h2 Q) : Go (d + 150) true 0 831 [.ref 0, .ref 10, .ref 130, .int (nI i)] [] h Q := by
  refine exf_go 2 (show wpC (d + 150) true 134 [.ref 10] h (fun r h' => Go (d + 150) true 0 835 [.ref 0, .ref 10, .ref 130, .int (nI i)] [r] h' Q) from ?_)
  refine c_nearest ic.2.1 ic.2.2.1.1 ?_
  have ic1 := ic; have im1 := im
  show Go (d + 150) true 0 835 [.ref 0, .ref 10, .ref 130, .int (nI i)] [.int (fNearest (zg s) (ze s).1)] h Q
  refine exf_go 2 (show wpC (d + 150) true 265 [.ref 130] h (fun r h' => Go (d + 150) true 0 839 [.ref 0, .ref 10, .ref 130, .int (nI i)] [r, .int (fNearest (zg s) (ze s).1)] h' Q) from ?_)
  refine m_nearest im1.1.1 (fun h2 q2 => ?_)
  have im2 := im_M im1 q2; have ic2 := ic_cq ic1 (cq_f q2 (fun a i ha => fz_M ha)); have sb2 := sb
  show Go (d + 150) true 0 839 [.ref 0, .ref 10, .ref 130, .int (nI i)] [.int (fNearest (zg s) (ze s).1), .int (fNearest (zg s) (ze s).1)] h2 Q
  refine exf_go 1 (show ((fNearest (zg s) (ze s).1) = (fNearest (zg s) (ze s).1) → Go (d + 150) true 0 1429 [.ref 0, .ref 10, .ref 130, .int (nI i)] [] h2 Q) ∧ (¬ ((fNearest (zg s) (ze s).1) = (fNearest (zg s) (ze s).1)) → Go (d + 150) true 0 842 [.ref 0, .ref 10, .ref 130, .int (nI i)] [] h2 Q) from ⟨fun c1 => ?_, fun c1 => ?_⟩)
  · skip
    exact k _ h2 ic2 im2 sb2
  · skip
    exact absurd rfl c1
theorem lw_through {d : Nat} {h : Hp} {xs : Nat → Int32} {L i : Nat} {s : LwG} {Q : Po} (hL : L ≤ 3072) (hi : i + 6 ≤ L) (ic : IC xs L s h) (im : IMo s h) (sb : SB s) (k : ∀ s2 h2, IC xs L s2 h2 → IMo s2 h2 → SB s2 → Go (d + 150) true 0 1429 [.ref 0, .ref 10, .ref 130, .int (nI i)] [] h2 Q) : Go (d + 150) true 0 844 [.ref 0, .ref 10, .ref 130, .int (nI i)] [] h Q := by
  refine exf_go 5 (show Go (d + 150) true 0 849 [.ref 0, .ref 10, .ref 130, .int (nI i)] [.int ((nI i) + 1), .ref 0, .ref 10] h Q from ?_)
  rw [show ((nI i) + 1 : Int32) = nI (i + 1) from nI_add i 1]
  refine exf_go 1 (show vp_in (nI (i + 1)) (al h 0) ∧ (Go (d + 150) true 0 850 [.ref 0, .ref 10, .ref 130, .int (nI i)] [.int (rI h 0 ((nI (i + 1)).toNatClampNeg)), .ref 10] h Q) from ⟨(show vp_in (nI (i + 1)) (rL h 0) from by rw [ic.1.2.2]; exact vp_in_nI (by omega) (by omega)), ?_⟩)
  rw [show (rI h 0 ((nI (i + 1)).toNatClampNeg) : Int32) = xs (i + 1) from by rw [nI_clamp (by omega), ic.1.2.1]]
  refine exf_go 1 (show wpC (d + 150) true 135 [.ref 10, .int (xs (i + 1))] h (fun r h' => Go (d + 150) true 0 853 [.ref 0, .ref 10, .ref 130, .int (nI i)] [r] h' Q) from ?_)
  refine c_through ic.2.1 ?_
  have ic1 := ic; have im1 := im
  show Go (d + 150) true 0 853 [.ref 0, .ref 10, .ref 130, .int (nI i)] [.int (fThrough (zg s) (xs (i + 1)))] h Q
  refine exf_go 5 (show Go (d + 150) true 0 858 [.ref 0, .ref 10, .ref 130, .int (nI i)] [.int ((nI i) + 1), .ref 0, .ref 130, .int (fThrough (zg s) (xs (i + 1)))] h Q from ?_)
  rw [show ((nI i) + 1 : Int32) = nI (i + 1) from nI_add i 1]
  refine exf_go 1 (show vp_in (nI (i + 1)) (al h 0) ∧ (Go (d + 150) true 0 859 [.ref 0, .ref 10, .ref 130, .int (nI i)] [.int (rI h 0 ((nI (i + 1)).toNatClampNeg)), .ref 130, .int (fThrough (zg s) (xs (i + 1)))] h Q) from ⟨(show vp_in (nI (i + 1)) (rL h 0) from by rw [ic.1.2.2]; exact vp_in_nI (by omega) (by omega)), ?_⟩)
  rw [show (rI h 0 ((nI (i + 1)).toNatClampNeg) : Int32) = xs (i + 1) from by rw [nI_clamp (by omega), ic.1.2.1]]
  refine exf_go 1 (show wpC (d + 150) true 267 [.ref 130, .int (xs (i + 1))] h (fun r h' => Go (d + 150) true 0 862 [.ref 0, .ref 10, .ref 130, .int (nI i)] [r, .int (fThrough (zg s) (xs (i + 1)))] h' Q) from ?_)
  refine m_through im1.1.1 (fun h2 q2 => ?_)
  have im2 := im_M im1 q2; have ic2 := ic_cq ic1 (cq_f q2 (fun a i ha => fz_M ha)); have sb2 := sb
  show Go (d + 150) true 0 862 [.ref 0, .ref 10, .ref 130, .int (nI i)] [.int (fThrough (zg s) (xs (i + 1))), .int (fThrough (zg s) (xs (i + 1)))] h2 Q
  refine exf_go 1 (show ((fThrough (zg s) (xs (i + 1))) = (fThrough (zg s) (xs (i + 1))) → Go (d + 150) true 0 1429 [.ref 0, .ref 10, .ref 130, .int (nI i)] [] h2 Q) ∧ (¬ ((fThrough (zg s) (xs (i + 1))) = (fThrough (zg s) (xs (i + 1)))) → Go (d + 150) true 0 865 [.ref 0, .ref 10, .ref 130, .int (nI i)] [] h2 Q) from ⟨fun c1 => ?_, fun c1 => ?_⟩)
  · skip
    exact k _ h2 ic2 im2 sb2
  · skip
    exact absurd rfl c1
theorem lw_along {d : Nat} {h : Hp} {xs : Nat → Int32} {L i : Nat} {s : LwG} {Q : Po} (hL : L ≤ 3072) (hi : i + 6 ≤ L) (ic : IC xs L s h) (im : IMo s h) (sb : SB s) (k : ∀ s2 h2, IC xs L s2 h2 → IMo s2 h2 → SB s2 → Go (d + 150) true 0 1429 [.ref 0, .ref 10, .ref 130, .int (nI i)] [] h2 Q) : Go (d + 150) true 0 867 [.ref 0, .ref 10, .ref 130, .int (nI i)] [] h Q := by
  refine exf_go 5 (show Go (d + 150) true 0 872 [.ref 0, .ref 10, .ref 130, .int (nI i)] [.int ((nI i) + 1), .ref 0, .ref 10] h Q from ?_)
  rw [show ((nI i) + 1 : Int32) = nI (i + 1) from nI_add i 1]
  refine exf_go 1 (show vp_in (nI (i + 1)) (al h 0) ∧ (Go (d + 150) true 0 873 [.ref 0, .ref 10, .ref 130, .int (nI i)] [.int (rI h 0 ((nI (i + 1)).toNatClampNeg)), .ref 10] h Q) from ⟨(show vp_in (nI (i + 1)) (rL h 0) from by rw [ic.1.2.2]; exact vp_in_nI (by omega) (by omega)), ?_⟩)
  rw [show (rI h 0 ((nI (i + 1)).toNatClampNeg) : Int32) = xs (i + 1) from by rw [nI_clamp (by omega), ic.1.2.1]]
  refine exf_go 1 (show wpC (d + 150) true 136 [.ref 10, .int (xs (i + 1))] h (fun r h' => Go (d + 150) true 0 876 [.ref 0, .ref 10, .ref 130, .int (nI i)] [r] h' Q) from ?_)
  refine c_along ic.2.1 ?_
  have ic1 := ic; have im1 := im
  show Go (d + 150) true 0 876 [.ref 0, .ref 10, .ref 130, .int (nI i)] [.int (fAlong (zg s) (xs (i + 1)))] h Q
  refine exf_go 5 (show Go (d + 150) true 0 881 [.ref 0, .ref 10, .ref 130, .int (nI i)] [.int ((nI i) + 1), .ref 0, .ref 130, .int (fAlong (zg s) (xs (i + 1)))] h Q from ?_)
  rw [show ((nI i) + 1 : Int32) = nI (i + 1) from nI_add i 1]
  refine exf_go 1 (show vp_in (nI (i + 1)) (al h 0) ∧ (Go (d + 150) true 0 882 [.ref 0, .ref 10, .ref 130, .int (nI i)] [.int (rI h 0 ((nI (i + 1)).toNatClampNeg)), .ref 130, .int (fAlong (zg s) (xs (i + 1)))] h Q) from ⟨(show vp_in (nI (i + 1)) (rL h 0) from by rw [ic.1.2.2]; exact vp_in_nI (by omega) (by omega)), ?_⟩)
  rw [show (rI h 0 ((nI (i + 1)).toNatClampNeg) : Int32) = xs (i + 1) from by rw [nI_clamp (by omega), ic.1.2.1]]
  refine exf_go 1 (show wpC (d + 150) true 269 [.ref 130, .int (xs (i + 1))] h (fun r h' => Go (d + 150) true 0 885 [.ref 0, .ref 10, .ref 130, .int (nI i)] [r, .int (fAlong (zg s) (xs (i + 1)))] h' Q) from ?_)
  refine m_along im1.1.1 (fun h2 q2 => ?_)
  have im2 := im_M im1 q2; have ic2 := ic_cq ic1 (cq_f q2 (fun a i ha => fz_M ha)); have sb2 := sb
  show Go (d + 150) true 0 885 [.ref 0, .ref 10, .ref 130, .int (nI i)] [.int (fAlong (zg s) (xs (i + 1))), .int (fAlong (zg s) (xs (i + 1)))] h2 Q
  refine exf_go 1 (show ((fAlong (zg s) (xs (i + 1))) = (fAlong (zg s) (xs (i + 1))) → Go (d + 150) true 0 1429 [.ref 0, .ref 10, .ref 130, .int (nI i)] [] h2 Q) ∧ (¬ ((fAlong (zg s) (xs (i + 1))) = (fAlong (zg s) (xs (i + 1)))) → Go (d + 150) true 0 888 [.ref 0, .ref 10, .ref 130, .int (nI i)] [] h2 Q) from ⟨fun c1 => ?_, fun c1 => ?_⟩)
  · skip
    exact k _ h2 ic2 im2 sb2
  · skip
    exact absurd rfl c1
theorem lw_length {d : Nat} {h : Hp} {xs : Nat → Int32} {L i : Nat} {s : LwG} {Q : Po} (hL : L ≤ 3072) (hi : i + 6 ≤ L) (ic : IC xs L s h) (im : IMo s h) (sb : SB s) (k : ∀ s2 h2, IC xs L s2 h2 → IMo s2 h2 → SB s2 → Go (d + 150) true 0 1429 [.ref 0, .ref 10, .ref 130, .int (nI i)] [] h2 Q) : Go (d + 150) true 0 890 [.ref 0, .ref 10, .ref 130, .int (nI i)] [] h Q := by
  refine exf_go 5 (show Go (d + 150) true 0 895 [.ref 0, .ref 10, .ref 130, .int (nI i)] [.int ((nI i) + 1), .ref 0, .ref 10] h Q from ?_)
  rw [show ((nI i) + 1 : Int32) = nI (i + 1) from nI_add i 1]
  refine exf_go 1 (show vp_in (nI (i + 1)) (al h 0) ∧ (Go (d + 150) true 0 896 [.ref 0, .ref 10, .ref 130, .int (nI i)] [.int (rI h 0 ((nI (i + 1)).toNatClampNeg)), .ref 10] h Q) from ⟨(show vp_in (nI (i + 1)) (rL h 0) from by rw [ic.1.2.2]; exact vp_in_nI (by omega) (by omega)), ?_⟩)
  rw [show (rI h 0 ((nI (i + 1)).toNatClampNeg) : Int32) = xs (i + 1) from by rw [nI_clamp (by omega), ic.1.2.1]]
  refine exf_go 1 (show wpC (d + 150) true 137 [.ref 10, .int (xs (i + 1))] h (fun r h' => Go (d + 150) true 0 899 [.ref 0, .ref 10, .ref 130, .int (nI i)] [r] h' Q) from ?_)
  refine c_length ic.2.1 ?_
  have ic1 := ic; have im1 := im
  show Go (d + 150) true 0 899 [.ref 0, .ref 10, .ref 130, .int (nI i)] [.int (fLength (zg s) (xs (i + 1)))] h Q
  refine exf_go 5 (show Go (d + 150) true 0 904 [.ref 0, .ref 10, .ref 130, .int (nI i)] [.int ((nI i) + 1), .ref 0, .ref 130, .int (fLength (zg s) (xs (i + 1)))] h Q from ?_)
  rw [show ((nI i) + 1 : Int32) = nI (i + 1) from nI_add i 1]
  refine exf_go 1 (show vp_in (nI (i + 1)) (al h 0) ∧ (Go (d + 150) true 0 905 [.ref 0, .ref 10, .ref 130, .int (nI i)] [.int (rI h 0 ((nI (i + 1)).toNatClampNeg)), .ref 130, .int (fLength (zg s) (xs (i + 1)))] h Q) from ⟨(show vp_in (nI (i + 1)) (rL h 0) from by rw [ic.1.2.2]; exact vp_in_nI (by omega) (by omega)), ?_⟩)
  rw [show (rI h 0 ((nI (i + 1)).toNatClampNeg) : Int32) = xs (i + 1) from by rw [nI_clamp (by omega), ic.1.2.1]]
  refine exf_go 1 (show wpC (d + 150) true 270 [.ref 130, .int (xs (i + 1))] h (fun r h' => Go (d + 150) true 0 908 [.ref 0, .ref 10, .ref 130, .int (nI i)] [r, .int (fLength (zg s) (xs (i + 1)))] h' Q) from ?_)
  refine m_length im1.1.1 (fun h2 q2 => ?_)
  have im2 := im_M im1 q2; have ic2 := ic_cq ic1 (cq_f q2 (fun a i ha => fz_M ha)); have sb2 := sb
  show Go (d + 150) true 0 908 [.ref 0, .ref 10, .ref 130, .int (nI i)] [.int (fLength (zg s) (xs (i + 1))), .int (fLength (zg s) (xs (i + 1)))] h2 Q
  refine exf_go 1 (show ((fLength (zg s) (xs (i + 1))) = (fLength (zg s) (xs (i + 1))) → Go (d + 150) true 0 1429 [.ref 0, .ref 10, .ref 130, .int (nI i)] [] h2 Q) ∧ (¬ ((fLength (zg s) (xs (i + 1))) = (fLength (zg s) (xs (i + 1)))) → Go (d + 150) true 0 911 [.ref 0, .ref 10, .ref 130, .int (nI i)] [] h2 Q) from ⟨fun c1 => ?_, fun c1 => ?_⟩)
  · skip
    exact k _ h2 ic2 im2 sb2
  · skip
    exact absurd rfl c1
theorem lw_best {d : Nat} {h : Hp} {xs : Nat → Int32} {L i : Nat} {s : LwG} {Q : Po} (hL : L ≤ 3072) (hi : i + 6 ≤ L) (ic : IC xs L s h) (im : IMo s h) (sb : SB s) (k : ∀ s2 h2, IC xs L s2 h2 → IMo s2 h2 → SB s2 → Go (d + 150) true 0 1429 [.ref 0, .ref 10, .ref 130, .int (nI i)] [] h2 Q) : Go (d + 150) true 0 913 [.ref 0, .ref 10, .ref 130, .int (nI i)] [] h Q := by
  refine exf_go 5 (show Go (d + 150) true 0 918 [.ref 0, .ref 10, .ref 130, .int (nI i)] [.int ((nI i) + 1), .ref 0, .ref 10] h Q from ?_)
  rw [show ((nI i) + 1 : Int32) = nI (i + 1) from nI_add i 1]
  refine exf_go 1 (show vp_in (nI (i + 1)) (al h 0) ∧ (Go (d + 150) true 0 919 [.ref 0, .ref 10, .ref 130, .int (nI i)] [.int (rI h 0 ((nI (i + 1)).toNatClampNeg)), .ref 10] h Q) from ⟨(show vp_in (nI (i + 1)) (rL h 0) from by rw [ic.1.2.2]; exact vp_in_nI (by omega) (by omega)), ?_⟩)
  rw [show (rI h 0 ((nI (i + 1)).toNatClampNeg) : Int32) = xs (i + 1) from by rw [nI_clamp (by omega), ic.1.2.1]]
  refine exf_go 4 (show Go (d + 150) true 0 923 [.ref 0, .ref 10, .ref 130, .int (nI i)] [.int ((nI i) + 2), .ref 0, .int (xs (i + 1)), .ref 10] h Q from ?_)
  rw [show ((nI i) + 2 : Int32) = nI (i + 2) from nI_add i 2]
  refine exf_go 1 (show vp_in (nI (i + 2)) (al h 0) ∧ (Go (d + 150) true 0 924 [.ref 0, .ref 10, .ref 130, .int (nI i)] [.int (rI h 0 ((nI (i + 2)).toNatClampNeg)), .int (xs (i + 1)), .ref 10] h Q) from ⟨(show vp_in (nI (i + 2)) (rL h 0) from by rw [ic.1.2.2]; exact vp_in_nI (by omega) (by omega)), ?_⟩)
  rw [show (rI h 0 ((nI (i + 2)).toNatClampNeg) : Int32) = xs (i + 2) from by rw [nI_clamp (by omega), ic.1.2.1]]
  refine exf_go 1 (show wpC (d + 150) true 138 [.ref 10, .int (xs (i + 1)), .int (xs (i + 2))] h (fun r h' => Go (d + 150) true 0 927 [.ref 0, .ref 10, .ref 130, .int (nI i)] [r] h' Q) from ?_)
  refine c_best ic.1.1 ic.2.1 ic.2.2.1.1 ic.2.2.2.1 (fun h1 q1 => ?_)
  have ic1 := ic_C ic q1.gq; have im1 := im_mq im (mq_g q1.gq (fun a i ha => fz_C (by omega)))
  show Go (d + 150) true 0 927 [.ref 0, .ref 10, .ref 130, .int (nI i)] [.long (fBest (zg s) (ze s).1 (zr s) (xs (i + 1)) (xs (i + 2)))] h1 Q
  refine exf_go 5 (show Go (d + 150) true 0 932 [.ref 0, .ref 10, .ref 130, .int (nI i)] [.int ((nI i) + 1), .ref 0, .ref 130, .long (fBest (zg s) (ze s).1 (zr s) (xs (i + 1)) (xs (i + 2)))] h1 Q from ?_)
  rw [show ((nI i) + 1 : Int32) = nI (i + 1) from nI_add i 1]
  refine exf_go 1 (show vp_in (nI (i + 1)) (al h1 0) ∧ (Go (d + 150) true 0 933 [.ref 0, .ref 10, .ref 130, .int (nI i)] [.int (rI h1 0 ((nI (i + 1)).toNatClampNeg)), .ref 130, .long (fBest (zg s) (ze s).1 (zr s) (xs (i + 1)) (xs (i + 2)))] h1 Q) from ⟨(show vp_in (nI (i + 1)) (rL h1 0) from by rw [ic1.1.2.2]; exact vp_in_nI (by omega) (by omega)), ?_⟩)
  rw [show (rI h1 0 ((nI (i + 1)).toNatClampNeg) : Int32) = xs (i + 1) from by rw [nI_clamp (by omega), ic1.1.2.1]]
  refine exf_go 4 (show Go (d + 150) true 0 937 [.ref 0, .ref 10, .ref 130, .int (nI i)] [.int ((nI i) + 2), .ref 0, .int (xs (i + 1)), .ref 130, .long (fBest (zg s) (ze s).1 (zr s) (xs (i + 1)) (xs (i + 2)))] h1 Q from ?_)
  rw [show ((nI i) + 2 : Int32) = nI (i + 2) from nI_add i 2]
  refine exf_go 1 (show vp_in (nI (i + 2)) (al h1 0) ∧ (Go (d + 150) true 0 938 [.ref 0, .ref 10, .ref 130, .int (nI i)] [.int (rI h1 0 ((nI (i + 2)).toNatClampNeg)), .int (xs (i + 1)), .ref 130, .long (fBest (zg s) (ze s).1 (zr s) (xs (i + 1)) (xs (i + 2)))] h1 Q) from ⟨(show vp_in (nI (i + 2)) (rL h1 0) from by rw [ic1.1.2.2]; exact vp_in_nI (by omega) (by omega)), ?_⟩)
  rw [show (rI h1 0 ((nI (i + 2)).toNatClampNeg) : Int32) = xs (i + 2) from by rw [nI_clamp (by omega), ic1.1.2.1]]
  refine exf_go 1 (show wpC (d + 150) true 273 [.ref 130, .int (xs (i + 1)), .int (xs (i + 2))] h1 (fun r h' => Go (d + 150) true 0 941 [.ref 0, .ref 10, .ref 130, .int (nI i)] [r, .long (fBest (zg s) (ze s).1 (zr s) (xs (i + 1)) (xs (i + 2)))] h' Q) from ?_)
  refine m_best im1.1.1 im1.2.1 (fun h2 q2 => ?_)
  have im2 := im_M im1 q2; have ic2 := ic_cq ic1 (cq_f q2 (fun a i ha => fz_M ha)); have sb2 := sb
  show Go (d + 150) true 0 941 [.ref 0, .ref 10, .ref 130, .int (nI i)] [.long (fBest (zg s) (ze s).1 (zr s) (xs (i + 1)) (xs (i + 2))), .long (fBest (zg s) (ze s).1 (zr s) (xs (i + 1)) (xs (i + 2)))] h2 Q
  refine exf_go 2 (show ((lg_cmp (fBest (zg s) (ze s).1 (zr s) (xs (i + 1)) (xs (i + 2))) (fBest (zg s) (ze s).1 (zr s) (xs (i + 1)) (xs (i + 2)))) = 0 → Go (d + 150) true 0 1429 [.ref 0, .ref 10, .ref 130, .int (nI i)] [] h2 Q) ∧ (¬ ((lg_cmp (fBest (zg s) (ze s).1 (zr s) (xs (i + 1)) (xs (i + 2))) (fBest (zg s) (ze s).1 (zr s) (xs (i + 1)) (xs (i + 2)))) = 0) → Go (d + 150) true 0 945 [.ref 0, .ref 10, .ref 130, .int (nI i)] [] h2 Q) from ⟨fun c1 => ?_, fun c1 => ?_⟩)
  · skip
    have c1 : (fBest (zg s) (ze s).1 (zr s) (xs (i + 1)) (xs (i + 2))) = (fBest (zg s) (ze s).1 (zr s) (xs (i + 1)) (xs (i + 2))) := (lg_cmp_eq _ _).mp c1
    exact k _ h2 ic2 im2 sb2
  · skip
    have c1 : ¬ ((fBest (zg s) (ze s).1 (zr s) (xs (i + 1)) (xs (i + 2))) = (fBest (zg s) (ze s).1 (zr s) (xs (i + 1)) (xs (i + 2)))) := fun q => c1 ((lg_cmp_eq _ _).mpr q)
    exact absurd rfl c1
theorem lw_shortest {d : Nat} {h : Hp} {xs : Nat → Int32} {L i : Nat} {s : LwG} {Q : Po} (hL : L ≤ 3072) (hi : i + 6 ≤ L) (ic : IC xs L s h) (im : IMo s h) (sb : SB s) (k : ∀ s2 h2, IC xs L s2 h2 → IMo s2 h2 → SB s2 → Go (d + 150) true 0 1429 [.ref 0, .ref 10, .ref 130, .int (nI i)] [] h2 Q) : Go (d + 150) true 0 947 [.ref 0, .ref 10, .ref 130, .int (nI i)] [] h Q := by
  refine exf_go 5 (show Go (d + 150) true 0 952 [.ref 0, .ref 10, .ref 130, .int (nI i)] [.int ((nI i) + 1), .ref 0, .ref 10] h Q from ?_)
  rw [show ((nI i) + 1 : Int32) = nI (i + 1) from nI_add i 1]
  refine exf_go 1 (show vp_in (nI (i + 1)) (al h 0) ∧ (Go (d + 150) true 0 953 [.ref 0, .ref 10, .ref 130, .int (nI i)] [.int (rI h 0 ((nI (i + 1)).toNatClampNeg)), .ref 10] h Q) from ⟨(show vp_in (nI (i + 1)) (rL h 0) from by rw [ic.1.2.2]; exact vp_in_nI (by omega) (by omega)), ?_⟩)
  rw [show (rI h 0 ((nI (i + 1)).toNatClampNeg) : Int32) = xs (i + 1) from by rw [nI_clamp (by omega), ic.1.2.1]]
  refine exf_go 4 (show Go (d + 150) true 0 957 [.ref 0, .ref 10, .ref 130, .int (nI i)] [.int ((nI i) + 2), .ref 0, .int (xs (i + 1)), .ref 10] h Q from ?_)
  rw [show ((nI i) + 2 : Int32) = nI (i + 2) from nI_add i 2]
  refine exf_go 1 (show vp_in (nI (i + 2)) (al h 0) ∧ (Go (d + 150) true 0 958 [.ref 0, .ref 10, .ref 130, .int (nI i)] [.int (rI h 0 ((nI (i + 2)).toNatClampNeg)), .int (xs (i + 1)), .ref 10] h Q) from ⟨(show vp_in (nI (i + 2)) (rL h 0) from by rw [ic.1.2.2]; exact vp_in_nI (by omega) (by omega)), ?_⟩)
  rw [show (rI h 0 ((nI (i + 2)).toNatClampNeg) : Int32) = xs (i + 2) from by rw [nI_clamp (by omega), ic.1.2.1]]
  refine exf_go 1 (show wpC (d + 150) true 139 [.ref 10, .int (xs (i + 1)), .int (xs (i + 2))] h (fun r h' => Go (d + 150) true 0 961 [.ref 0, .ref 10, .ref 130, .int (nI i)] [r] h' Q) from ?_)
  refine c_shortest ic.1.1 ic.2.1 ic.2.2.1.1 ic.2.2.2.1 (fun h1 q1 => ?_)
  have ic1 := ic_C ic q1.gq; have im1 := im_mq im (mq_g q1.gq (fun a i ha => fz_C (by omega)))
  show Go (d + 150) true 0 961 [.ref 0, .ref 10, .ref 130, .int (nI i)] [.int (fShort (zg s) (ze s).1 (zr s) (xs (i + 1)) (xs (i + 2)))] h1 Q
  refine exf_go 5 (show Go (d + 150) true 0 966 [.ref 0, .ref 10, .ref 130, .int (nI i)] [.int ((nI i) + 1), .ref 0, .ref 130, .int (fShort (zg s) (ze s).1 (zr s) (xs (i + 1)) (xs (i + 2)))] h1 Q from ?_)
  rw [show ((nI i) + 1 : Int32) = nI (i + 1) from nI_add i 1]
  refine exf_go 1 (show vp_in (nI (i + 1)) (al h1 0) ∧ (Go (d + 150) true 0 967 [.ref 0, .ref 10, .ref 130, .int (nI i)] [.int (rI h1 0 ((nI (i + 1)).toNatClampNeg)), .ref 130, .int (fShort (zg s) (ze s).1 (zr s) (xs (i + 1)) (xs (i + 2)))] h1 Q) from ⟨(show vp_in (nI (i + 1)) (rL h1 0) from by rw [ic1.1.2.2]; exact vp_in_nI (by omega) (by omega)), ?_⟩)
  rw [show (rI h1 0 ((nI (i + 1)).toNatClampNeg) : Int32) = xs (i + 1) from by rw [nI_clamp (by omega), ic1.1.2.1]]
  refine exf_go 4 (show Go (d + 150) true 0 971 [.ref 0, .ref 10, .ref 130, .int (nI i)] [.int ((nI i) + 2), .ref 0, .int (xs (i + 1)), .ref 130, .int (fShort (zg s) (ze s).1 (zr s) (xs (i + 1)) (xs (i + 2)))] h1 Q from ?_)
  rw [show ((nI i) + 2 : Int32) = nI (i + 2) from nI_add i 2]
  refine exf_go 1 (show vp_in (nI (i + 2)) (al h1 0) ∧ (Go (d + 150) true 0 972 [.ref 0, .ref 10, .ref 130, .int (nI i)] [.int (rI h1 0 ((nI (i + 2)).toNatClampNeg)), .int (xs (i + 1)), .ref 130, .int (fShort (zg s) (ze s).1 (zr s) (xs (i + 1)) (xs (i + 2)))] h1 Q) from ⟨(show vp_in (nI (i + 2)) (rL h1 0) from by rw [ic1.1.2.2]; exact vp_in_nI (by omega) (by omega)), ?_⟩)
  rw [show (rI h1 0 ((nI (i + 2)).toNatClampNeg) : Int32) = xs (i + 2) from by rw [nI_clamp (by omega), ic1.1.2.1]]
  refine exf_go 1 (show wpC (d + 150) true 274 [.ref 130, .int (xs (i + 1)), .int (xs (i + 2))] h1 (fun r h' => Go (d + 150) true 0 975 [.ref 0, .ref 10, .ref 130, .int (nI i)] [r, .int (fShort (zg s) (ze s).1 (zr s) (xs (i + 1)) (xs (i + 2)))] h' Q) from ?_)
  refine m_shortest im1.1.1 im1.2.1 (fun h2 q2 => ?_)
  have im2 := im_M im1 q2; have ic2 := ic_cq ic1 (cq_f q2 (fun a i ha => fz_M ha)); have sb2 := sb
  show Go (d + 150) true 0 975 [.ref 0, .ref 10, .ref 130, .int (nI i)] [.int (fShort (zg s) (ze s).1 (zr s) (xs (i + 1)) (xs (i + 2))), .int (fShort (zg s) (ze s).1 (zr s) (xs (i + 1)) (xs (i + 2)))] h2 Q
  refine exf_go 1 (show ((fShort (zg s) (ze s).1 (zr s) (xs (i + 1)) (xs (i + 2))) = (fShort (zg s) (ze s).1 (zr s) (xs (i + 1)) (xs (i + 2))) → Go (d + 150) true 0 1429 [.ref 0, .ref 10, .ref 130, .int (nI i)] [] h2 Q) ∧ (¬ ((fShort (zg s) (ze s).1 (zr s) (xs (i + 1)) (xs (i + 2))) = (fShort (zg s) (ze s).1 (zr s) (xs (i + 1)) (xs (i + 2)))) → Go (d + 150) true 0 978 [.ref 0, .ref 10, .ref 130, .int (nI i)] [] h2 Q) from ⟨fun c1 => ?_, fun c1 => ?_⟩)
  · skip
    exact k _ h2 ic2 im2 sb2
  · skip
    exact absurd rfl c1
theorem lw_saw {d : Nat} {h : Hp} {xs : Nat → Int32} {L i : Nat} {s : LwG} {Q : Po} (hL : L ≤ 3072) (hi : i + 6 ≤ L) (ic : IC xs L s h) (im : IMo s h) (sb : SB s) (k : ∀ s2 h2, IC xs L s2 h2 → IMo s2 h2 → SB s2 → Go (d + 150) true 0 1429 [.ref 0, .ref 10, .ref 130, .int (nI i)] [] h2 Q) : Go (d + 150) true 0 980 [.ref 0, .ref 10, .ref 130, .int (nI i)] [] h Q := by
  refine exf_go 5 (show Go (d + 150) true 0 985 [.ref 0, .ref 10, .ref 130, .int (nI i)] [.int ((nI i) + 1), .ref 0, .ref 10] h Q from ?_)
  rw [show ((nI i) + 1 : Int32) = nI (i + 1) from nI_add i 1]
  refine exf_go 1 (show vp_in (nI (i + 1)) (al h 0) ∧ (Go (d + 150) true 0 986 [.ref 0, .ref 10, .ref 130, .int (nI i)] [.int (rI h 0 ((nI (i + 1)).toNatClampNeg)), .ref 10] h Q) from ⟨(show vp_in (nI (i + 1)) (rL h 0) from by rw [ic.1.2.2]; exact vp_in_nI (by omega) (by omega)), ?_⟩)
  rw [show (rI h 0 ((nI (i + 1)).toNatClampNeg) : Int32) = xs (i + 1) from by rw [nI_clamp (by omega), ic.1.2.1]]
  refine exf_go 1 (show wpC (d + 150) true 140 [.ref 10, .int (xs (i + 1))] h (fun r h' => Go (d + 150) true 0 989 [.ref 0, .ref 10, .ref 130, .int (nI i)] [r] h' Q) from ?_)
  refine c_saw ic.1.1 ic.2.1 ic.2.2.1.1 sb.1 (fun h1 q1 => ?_)
  have ic1 := ic_C ic q1; have im1 := im_mq im (mq_g q1 (fun a i ha => fz_C (by omega)))
  show Go (d + 150) true 0 989 [.ref 0, .ref 10, .ref 130, .int (nI i)] [.long (fSaw (zg s) (ze s).1 (xs (i + 1)))] h1 Q
  refine exf_go 5 (show Go (d + 150) true 0 994 [.ref 0, .ref 10, .ref 130, .int (nI i)] [.int ((nI i) + 1), .ref 0, .ref 130, .long (fSaw (zg s) (ze s).1 (xs (i + 1)))] h1 Q from ?_)
  rw [show ((nI i) + 1 : Int32) = nI (i + 1) from nI_add i 1]
  refine exf_go 1 (show vp_in (nI (i + 1)) (al h1 0) ∧ (Go (d + 150) true 0 995 [.ref 0, .ref 10, .ref 130, .int (nI i)] [.int (rI h1 0 ((nI (i + 1)).toNatClampNeg)), .ref 130, .long (fSaw (zg s) (ze s).1 (xs (i + 1)))] h1 Q) from ⟨(show vp_in (nI (i + 1)) (rL h1 0) from by rw [ic1.1.2.2]; exact vp_in_nI (by omega) (by omega)), ?_⟩)
  rw [show (rI h1 0 ((nI (i + 1)).toNatClampNeg) : Int32) = xs (i + 1) from by rw [nI_clamp (by omega), ic1.1.2.1]]
  refine exf_go 1 (show wpC (d + 150) true 275 [.ref 130, .int (xs (i + 1))] h1 (fun r h' => Go (d + 150) true 0 998 [.ref 0, .ref 10, .ref 130, .int (nI i)] [r, .long (fSaw (zg s) (ze s).1 (xs (i + 1)))] h' Q) from ?_)
  refine m_saw im1.1.1 sb.1 (fun h2 q2 => ?_)
  have im2 := im_M im1 q2; have ic2 := ic_cq ic1 (cq_f q2 (fun a i ha => fz_M ha)); have sb2 := sb
  show Go (d + 150) true 0 998 [.ref 0, .ref 10, .ref 130, .int (nI i)] [.long (fSaw (zg s) (ze s).1 (xs (i + 1))), .long (fSaw (zg s) (ze s).1 (xs (i + 1)))] h2 Q
  refine exf_go 2 (show ((lg_cmp (fSaw (zg s) (ze s).1 (xs (i + 1))) (fSaw (zg s) (ze s).1 (xs (i + 1)))) = 0 → Go (d + 150) true 0 1429 [.ref 0, .ref 10, .ref 130, .int (nI i)] [] h2 Q) ∧ (¬ ((lg_cmp (fSaw (zg s) (ze s).1 (xs (i + 1))) (fSaw (zg s) (ze s).1 (xs (i + 1)))) = 0) → Go (d + 150) true 0 1002 [.ref 0, .ref 10, .ref 130, .int (nI i)] [] h2 Q) from ⟨fun c1 => ?_, fun c1 => ?_⟩)
  · skip
    have c1 : (fSaw (zg s) (ze s).1 (xs (i + 1))) = (fSaw (zg s) (ze s).1 (xs (i + 1))) := (lg_cmp_eq _ _).mp c1
    exact k _ h2 ic2 im2 sb2
  · skip
    have c1 : ¬ ((fSaw (zg s) (ze s).1 (xs (i + 1))) = (fSaw (zg s) (ze s).1 (xs (i + 1)))) := fun q => c1 ((lg_cmp_eq _ _).mpr q)
    exact absurd rfl c1
theorem lw_mate {d : Nat} {h : Hp} {xs : Nat → Int32} {L i : Nat} {s : LwG} {Q : Po} (hL : L ≤ 3072) (hi : i + 6 ≤ L) (ic : IC xs L s h) (im : IMo s h) (sb : SB s) (k : ∀ s2 h2, IC xs L s2 h2 → IMo s2 h2 → SB s2 → Go (d + 150) true 0 1429 [.ref 0, .ref 10, .ref 130, .int (nI i)] [] h2 Q) : Go (d + 150) true 0 1004 [.ref 0, .ref 10, .ref 130, .int (nI i)] [] h Q := by
  refine exf_go 5 (show Go (d + 150) true 0 1009 [.ref 0, .ref 10, .ref 130, .int (nI i)] [.int ((nI i) + 1), .ref 0, .ref 10] h Q from ?_)
  rw [show ((nI i) + 1 : Int32) = nI (i + 1) from nI_add i 1]
  refine exf_go 1 (show vp_in (nI (i + 1)) (al h 0) ∧ (Go (d + 150) true 0 1010 [.ref 0, .ref 10, .ref 130, .int (nI i)] [.int (rI h 0 ((nI (i + 1)).toNatClampNeg)), .ref 10] h Q) from ⟨(show vp_in (nI (i + 1)) (rL h 0) from by rw [ic.1.2.2]; exact vp_in_nI (by omega) (by omega)), ?_⟩)
  rw [show (rI h 0 ((nI (i + 1)).toNatClampNeg) : Int32) = xs (i + 1) from by rw [nI_clamp (by omega), ic.1.2.1]]
  refine exf_go 4 (show Go (d + 150) true 0 1014 [.ref 0, .ref 10, .ref 130, .int (nI i)] [.int ((nI i) + 2), .ref 0, .int (xs (i + 1)), .ref 10] h Q from ?_)
  rw [show ((nI i) + 2 : Int32) = nI (i + 2) from nI_add i 2]
  refine exf_go 1 (show vp_in (nI (i + 2)) (al h 0) ∧ (Go (d + 150) true 0 1015 [.ref 0, .ref 10, .ref 130, .int (nI i)] [.int (rI h 0 ((nI (i + 2)).toNatClampNeg)), .int (xs (i + 1)), .ref 10] h Q) from ⟨(show vp_in (nI (i + 2)) (rL h 0) from by rw [ic.1.2.2]; exact vp_in_nI (by omega) (by omega)), ?_⟩)
  rw [show (rI h 0 ((nI (i + 2)).toNatClampNeg) : Int32) = xs (i + 2) from by rw [nI_clamp (by omega), ic.1.2.1]]
  refine exf_go 1 (show wpC (d + 150) true 141 [.ref 10, .int (xs (i + 1)), .int (xs (i + 2))] h (fun r h' => Go (d + 150) true 0 1018 [.ref 0, .ref 10, .ref 130, .int (nI i)] [r] h' Q) from ?_)
  refine c_mate ic.1.1 ic.2.1 ic.2.2.1.1 (fun h1 q1 => ?_)
  have ic1 := ic_C ic q1; have im1 := im_mq im (mq_g q1 (fun a i ha => fz_C (by omega)))
  show Go (d + 150) true 0 1018 [.ref 0, .ref 10, .ref 130, .int (nI i)] [.int (fMate (zg s) (ze s).1 (xs (i + 1)) (xs (i + 2)))] h1 Q
  refine exf_go 5 (show Go (d + 150) true 0 1023 [.ref 0, .ref 10, .ref 130, .int (nI i)] [.int ((nI i) + 1), .ref 0, .ref 130, .int (fMate (zg s) (ze s).1 (xs (i + 1)) (xs (i + 2)))] h1 Q from ?_)
  rw [show ((nI i) + 1 : Int32) = nI (i + 1) from nI_add i 1]
  refine exf_go 1 (show vp_in (nI (i + 1)) (al h1 0) ∧ (Go (d + 150) true 0 1024 [.ref 0, .ref 10, .ref 130, .int (nI i)] [.int (rI h1 0 ((nI (i + 1)).toNatClampNeg)), .ref 130, .int (fMate (zg s) (ze s).1 (xs (i + 1)) (xs (i + 2)))] h1 Q) from ⟨(show vp_in (nI (i + 1)) (rL h1 0) from by rw [ic1.1.2.2]; exact vp_in_nI (by omega) (by omega)), ?_⟩)
  rw [show (rI h1 0 ((nI (i + 1)).toNatClampNeg) : Int32) = xs (i + 1) from by rw [nI_clamp (by omega), ic1.1.2.1]]
  refine exf_go 4 (show Go (d + 150) true 0 1028 [.ref 0, .ref 10, .ref 130, .int (nI i)] [.int ((nI i) + 2), .ref 0, .int (xs (i + 1)), .ref 130, .int (fMate (zg s) (ze s).1 (xs (i + 1)) (xs (i + 2)))] h1 Q from ?_)
  rw [show ((nI i) + 2 : Int32) = nI (i + 2) from nI_add i 2]
  refine exf_go 1 (show vp_in (nI (i + 2)) (al h1 0) ∧ (Go (d + 150) true 0 1029 [.ref 0, .ref 10, .ref 130, .int (nI i)] [.int (rI h1 0 ((nI (i + 2)).toNatClampNeg)), .int (xs (i + 1)), .ref 130, .int (fMate (zg s) (ze s).1 (xs (i + 1)) (xs (i + 2)))] h1 Q) from ⟨(show vp_in (nI (i + 2)) (rL h1 0) from by rw [ic1.1.2.2]; exact vp_in_nI (by omega) (by omega)), ?_⟩)
  rw [show (rI h1 0 ((nI (i + 2)).toNatClampNeg) : Int32) = xs (i + 2) from by rw [nI_clamp (by omega), ic1.1.2.1]]
  refine exf_go 1 (show wpC (d + 150) true 277 [.ref 130, .int (xs (i + 1)), .int (xs (i + 2))] h1 (fun r h' => Go (d + 150) true 0 1032 [.ref 0, .ref 10, .ref 130, .int (nI i)] [r, .int (fMate (zg s) (ze s).1 (xs (i + 1)) (xs (i + 2)))] h' Q) from ?_)
  refine m_mate im1.1.1 (fun h2 q2 => ?_)
  have im2 := im_M im1 q2; have ic2 := ic_cq ic1 (cq_f q2 (fun a i ha => fz_M ha)); have sb2 := sb
  show Go (d + 150) true 0 1032 [.ref 0, .ref 10, .ref 130, .int (nI i)] [.int (fMate (zg s) (ze s).1 (xs (i + 1)) (xs (i + 2))), .int (fMate (zg s) (ze s).1 (xs (i + 1)) (xs (i + 2)))] h2 Q
  refine exf_go 1 (show ((fMate (zg s) (ze s).1 (xs (i + 1)) (xs (i + 2))) = (fMate (zg s) (ze s).1 (xs (i + 1)) (xs (i + 2))) → Go (d + 150) true 0 1429 [.ref 0, .ref 10, .ref 130, .int (nI i)] [] h2 Q) ∧ (¬ ((fMate (zg s) (ze s).1 (xs (i + 1)) (xs (i + 2))) = (fMate (zg s) (ze s).1 (xs (i + 1)) (xs (i + 2)))) → Go (d + 150) true 0 1035 [.ref 0, .ref 10, .ref 130, .int (nI i)] [] h2 Q) from ⟨fun c1 => ?_, fun c1 => ?_⟩)
  · skip
    exact k _ h2 ic2 im2 sb2
  · skip
    exact absurd rfl c1
theorem lw_guarded {d : Nat} {h : Hp} {xs : Nat → Int32} {L i : Nat} {s : LwG} {Q : Po} (hL : L ≤ 3072) (hi : i + 6 ≤ L) (ic : IC xs L s h) (im : IMo s h) (sb : SB s) (k : ∀ s2 h2, IC xs L s2 h2 → IMo s2 h2 → SB s2 → Go (d + 150) true 0 1429 [.ref 0, .ref 10, .ref 130, .int (nI i)] [] h2 Q) : Go (d + 150) true 0 1037 [.ref 0, .ref 10, .ref 130, .int (nI i)] [] h Q := by
  refine exf_go 5 (show Go (d + 150) true 0 1042 [.ref 0, .ref 10, .ref 130, .int (nI i)] [.int ((nI i) + 1), .ref 0, .ref 10] h Q from ?_)
  rw [show ((nI i) + 1 : Int32) = nI (i + 1) from nI_add i 1]
  refine exf_go 1 (show vp_in (nI (i + 1)) (al h 0) ∧ (Go (d + 150) true 0 1043 [.ref 0, .ref 10, .ref 130, .int (nI i)] [.int (rI h 0 ((nI (i + 1)).toNatClampNeg)), .ref 10] h Q) from ⟨(show vp_in (nI (i + 1)) (rL h 0) from by rw [ic.1.2.2]; exact vp_in_nI (by omega) (by omega)), ?_⟩)
  rw [show (rI h 0 ((nI (i + 1)).toNatClampNeg) : Int32) = xs (i + 1) from by rw [nI_clamp (by omega), ic.1.2.1]]
  refine exf_go 4 (show Go (d + 150) true 0 1047 [.ref 0, .ref 10, .ref 130, .int (nI i)] [.int ((nI i) + 2), .ref 0, .int (xs (i + 1)), .ref 10] h Q from ?_)
  rw [show ((nI i) + 2 : Int32) = nI (i + 2) from nI_add i 2]
  refine exf_go 1 (show vp_in (nI (i + 2)) (al h 0) ∧ (Go (d + 150) true 0 1048 [.ref 0, .ref 10, .ref 130, .int (nI i)] [.int (rI h 0 ((nI (i + 2)).toNatClampNeg)), .int (xs (i + 1)), .ref 10] h Q) from ⟨(show vp_in (nI (i + 2)) (rL h 0) from by rw [ic.1.2.2]; exact vp_in_nI (by omega) (by omega)), ?_⟩)
  rw [show (rI h 0 ((nI (i + 2)).toNatClampNeg) : Int32) = xs (i + 2) from by rw [nI_clamp (by omega), ic.1.2.1]]
  refine exf_go 4 (show Go (d + 150) true 0 1052 [.ref 0, .ref 10, .ref 130, .int (nI i)] [.int ((nI i) + 3), .ref 0, .int (xs (i + 2)), .int (xs (i + 1)), .ref 10] h Q from ?_)
  rw [show ((nI i) + 3 : Int32) = nI (i + 3) from nI_add i 3]
  refine exf_go 1 (show vp_in (nI (i + 3)) (al h 0) ∧ (Go (d + 150) true 0 1053 [.ref 0, .ref 10, .ref 130, .int (nI i)] [.int (rI h 0 ((nI (i + 3)).toNatClampNeg)), .int (xs (i + 2)), .int (xs (i + 1)), .ref 10] h Q) from ⟨(show vp_in (nI (i + 3)) (rL h 0) from by rw [ic.1.2.2]; exact vp_in_nI (by omega) (by omega)), ?_⟩)
  rw [show (rI h 0 ((nI (i + 3)).toNatClampNeg) : Int32) = xs (i + 3) from by rw [nI_clamp (by omega), ic.1.2.1]]
  refine exf_go 1 (show wpC (d + 150) true 142 [.ref 10, .int (xs (i + 1)), .int (xs (i + 2)), .int (xs (i + 3))] h (fun r h' => Go (d + 150) true 0 1056 [.ref 0, .ref 10, .ref 130, .int (nI i)] [r] h' Q) from ?_)
  refine c_guarded ic.1.1 ic.2.1 ic.2.2.1.1 (fun h1 q1 => ?_)
  have ic1 := ic_C ic q1; have im1 := im_mq im (mq_g q1 (fun a i ha => fz_C (by omega)))
  show Go (d + 150) true 0 1056 [.ref 0, .ref 10, .ref 130, .int (nI i)] [.long (fGuarded (zg s) (ze s).1 (xs (i + 1)) (xs (i + 2)) (xs (i + 3)))] h1 Q
  refine exf_go 5 (show Go (d + 150) true 0 1061 [.ref 0, .ref 10, .ref 130, .int (nI i)] [.int ((nI i) + 1), .ref 0, .ref 130, .long (fGuarded (zg s) (ze s).1 (xs (i + 1)) (xs (i + 2)) (xs (i + 3)))] h1 Q from ?_)
  rw [show ((nI i) + 1 : Int32) = nI (i + 1) from nI_add i 1]
  refine exf_go 1 (show vp_in (nI (i + 1)) (al h1 0) ∧ (Go (d + 150) true 0 1062 [.ref 0, .ref 10, .ref 130, .int (nI i)] [.int (rI h1 0 ((nI (i + 1)).toNatClampNeg)), .ref 130, .long (fGuarded (zg s) (ze s).1 (xs (i + 1)) (xs (i + 2)) (xs (i + 3)))] h1 Q) from ⟨(show vp_in (nI (i + 1)) (rL h1 0) from by rw [ic1.1.2.2]; exact vp_in_nI (by omega) (by omega)), ?_⟩)
  rw [show (rI h1 0 ((nI (i + 1)).toNatClampNeg) : Int32) = xs (i + 1) from by rw [nI_clamp (by omega), ic1.1.2.1]]
  refine exf_go 4 (show Go (d + 150) true 0 1066 [.ref 0, .ref 10, .ref 130, .int (nI i)] [.int ((nI i) + 2), .ref 0, .int (xs (i + 1)), .ref 130, .long (fGuarded (zg s) (ze s).1 (xs (i + 1)) (xs (i + 2)) (xs (i + 3)))] h1 Q from ?_)
  rw [show ((nI i) + 2 : Int32) = nI (i + 2) from nI_add i 2]
  refine exf_go 1 (show vp_in (nI (i + 2)) (al h1 0) ∧ (Go (d + 150) true 0 1067 [.ref 0, .ref 10, .ref 130, .int (nI i)] [.int (rI h1 0 ((nI (i + 2)).toNatClampNeg)), .int (xs (i + 1)), .ref 130, .long (fGuarded (zg s) (ze s).1 (xs (i + 1)) (xs (i + 2)) (xs (i + 3)))] h1 Q) from ⟨(show vp_in (nI (i + 2)) (rL h1 0) from by rw [ic1.1.2.2]; exact vp_in_nI (by omega) (by omega)), ?_⟩)
  rw [show (rI h1 0 ((nI (i + 2)).toNatClampNeg) : Int32) = xs (i + 2) from by rw [nI_clamp (by omega), ic1.1.2.1]]
  refine exf_go 4 (show Go (d + 150) true 0 1071 [.ref 0, .ref 10, .ref 130, .int (nI i)] [.int ((nI i) + 3), .ref 0, .int (xs (i + 2)), .int (xs (i + 1)), .ref 130, .long (fGuarded (zg s) (ze s).1 (xs (i + 1)) (xs (i + 2)) (xs (i + 3)))] h1 Q from ?_)
  rw [show ((nI i) + 3 : Int32) = nI (i + 3) from nI_add i 3]
  refine exf_go 1 (show vp_in (nI (i + 3)) (al h1 0) ∧ (Go (d + 150) true 0 1072 [.ref 0, .ref 10, .ref 130, .int (nI i)] [.int (rI h1 0 ((nI (i + 3)).toNatClampNeg)), .int (xs (i + 2)), .int (xs (i + 1)), .ref 130, .long (fGuarded (zg s) (ze s).1 (xs (i + 1)) (xs (i + 2)) (xs (i + 3)))] h1 Q) from ⟨(show vp_in (nI (i + 3)) (rL h1 0) from by rw [ic1.1.2.2]; exact vp_in_nI (by omega) (by omega)), ?_⟩)
  rw [show (rI h1 0 ((nI (i + 3)).toNatClampNeg) : Int32) = xs (i + 3) from by rw [nI_clamp (by omega), ic1.1.2.1]]
  refine exf_go 1 (show wpC (d + 150) true 279 [.ref 130, .int (xs (i + 1)), .int (xs (i + 2)), .int (xs (i + 3))] h1 (fun r h' => Go (d + 150) true 0 1075 [.ref 0, .ref 10, .ref 130, .int (nI i)] [r, .long (fGuarded (zg s) (ze s).1 (xs (i + 1)) (xs (i + 2)) (xs (i + 3)))] h' Q) from ?_)
  refine m_guarded im1.1.1 (fun h2 q2 => ?_)
  have im2 := im_M im1 q2; have ic2 := ic_cq ic1 (cq_f q2 (fun a i ha => fz_M ha)); have sb2 := sb
  show Go (d + 150) true 0 1075 [.ref 0, .ref 10, .ref 130, .int (nI i)] [.long (fGuarded (zg s) (ze s).1 (xs (i + 1)) (xs (i + 2)) (xs (i + 3))), .long (fGuarded (zg s) (ze s).1 (xs (i + 1)) (xs (i + 2)) (xs (i + 3)))] h2 Q
  refine exf_go 2 (show ((lg_cmp (fGuarded (zg s) (ze s).1 (xs (i + 1)) (xs (i + 2)) (xs (i + 3))) (fGuarded (zg s) (ze s).1 (xs (i + 1)) (xs (i + 2)) (xs (i + 3)))) = 0 → Go (d + 150) true 0 1429 [.ref 0, .ref 10, .ref 130, .int (nI i)] [] h2 Q) ∧ (¬ ((lg_cmp (fGuarded (zg s) (ze s).1 (xs (i + 1)) (xs (i + 2)) (xs (i + 3))) (fGuarded (zg s) (ze s).1 (xs (i + 1)) (xs (i + 2)) (xs (i + 3)))) = 0) → Go (d + 150) true 0 1079 [.ref 0, .ref 10, .ref 130, .int (nI i)] [] h2 Q) from ⟨fun c1 => ?_, fun c1 => ?_⟩)
  · skip
    have c1 : (fGuarded (zg s) (ze s).1 (xs (i + 1)) (xs (i + 2)) (xs (i + 3))) = (fGuarded (zg s) (ze s).1 (xs (i + 1)) (xs (i + 2)) (xs (i + 3))) := (lg_cmp_eq _ _).mp c1
    exact k _ h2 ic2 im2 sb2
  · skip
    have c1 : ¬ ((fGuarded (zg s) (ze s).1 (xs (i + 1)) (xs (i + 2)) (xs (i + 3))) = (fGuarded (zg s) (ze s).1 (xs (i + 1)) (xs (i + 2)) (xs (i + 3)))) := fun q => c1 ((lg_cmp_eq _ _).mpr q)
    exact absurd rfl c1
theorem lw_danger {d : Nat} {h : Hp} {xs : Nat → Int32} {L i : Nat} {s : LwG} {Q : Po} (hL : L ≤ 3072) (hi : i + 6 ≤ L) (ic : IC xs L s h) (im : IMo s h) (sb : SB s) (k : ∀ s2 h2, IC xs L s2 h2 → IMo s2 h2 → SB s2 → Go (d + 150) true 0 1429 [.ref 0, .ref 10, .ref 130, .int (nI i)] [] h2 Q) : Go (d + 150) true 0 1081 [.ref 0, .ref 10, .ref 130, .int (nI i)] [] h Q := by
  refine exf_go 5 (show Go (d + 150) true 0 1086 [.ref 0, .ref 10, .ref 130, .int (nI i)] [.int ((nI i) + 1), .ref 0, .ref 10] h Q from ?_)
  rw [show ((nI i) + 1 : Int32) = nI (i + 1) from nI_add i 1]
  refine exf_go 1 (show vp_in (nI (i + 1)) (al h 0) ∧ (Go (d + 150) true 0 1087 [.ref 0, .ref 10, .ref 130, .int (nI i)] [.int (rI h 0 ((nI (i + 1)).toNatClampNeg)), .ref 10] h Q) from ⟨(show vp_in (nI (i + 1)) (rL h 0) from by rw [ic.1.2.2]; exact vp_in_nI (by omega) (by omega)), ?_⟩)
  rw [show (rI h 0 ((nI (i + 1)).toNatClampNeg) : Int32) = xs (i + 1) from by rw [nI_clamp (by omega), ic.1.2.1]]
  refine exf_go 1 (show wpC (d + 150) true 143 [.ref 10, .int (xs (i + 1))] h (fun r h' => Go (d + 150) true 0 1090 [.ref 0, .ref 10, .ref 130, .int (nI i)] [r] h' Q) from ?_)
  refine c_danger ic.1.1 ic.2.1 ic.2.2.1.1 (fun h1 q1 => ?_)
  have ic1 := ic_C ic q1; have im1 := im_mq im (mq_g q1 (fun a i ha => fz_C (by omega)))
  show Go (d + 150) true 0 1090 [.ref 0, .ref 10, .ref 130, .int (nI i)] [.int (fDanger (zg s) (ze s).1 (xs (i + 1)))] h1 Q
  refine exf_go 5 (show Go (d + 150) true 0 1095 [.ref 0, .ref 10, .ref 130, .int (nI i)] [.int ((nI i) + 1), .ref 0, .ref 130, .int (fDanger (zg s) (ze s).1 (xs (i + 1)))] h1 Q from ?_)
  rw [show ((nI i) + 1 : Int32) = nI (i + 1) from nI_add i 1]
  refine exf_go 1 (show vp_in (nI (i + 1)) (al h1 0) ∧ (Go (d + 150) true 0 1096 [.ref 0, .ref 10, .ref 130, .int (nI i)] [.int (rI h1 0 ((nI (i + 1)).toNatClampNeg)), .ref 130, .int (fDanger (zg s) (ze s).1 (xs (i + 1)))] h1 Q) from ⟨(show vp_in (nI (i + 1)) (rL h1 0) from by rw [ic1.1.2.2]; exact vp_in_nI (by omega) (by omega)), ?_⟩)
  rw [show (rI h1 0 ((nI (i + 1)).toNatClampNeg) : Int32) = xs (i + 1) from by rw [nI_clamp (by omega), ic1.1.2.1]]
  refine exf_go 1 (show wpC (d + 150) true 280 [.ref 130, .int (xs (i + 1))] h1 (fun r h' => Go (d + 150) true 0 1099 [.ref 0, .ref 10, .ref 130, .int (nI i)] [r, .int (fDanger (zg s) (ze s).1 (xs (i + 1)))] h' Q) from ?_)
  refine m_danger im1.1.1 (fun h2 q2 => ?_)
  have im2 := im_M im1 q2; have ic2 := ic_cq ic1 (cq_f q2 (fun a i ha => fz_M ha)); have sb2 := sb
  show Go (d + 150) true 0 1099 [.ref 0, .ref 10, .ref 130, .int (nI i)] [.int (fDanger (zg s) (ze s).1 (xs (i + 1))), .int (fDanger (zg s) (ze s).1 (xs (i + 1)))] h2 Q
  refine exf_go 1 (show ((fDanger (zg s) (ze s).1 (xs (i + 1))) = (fDanger (zg s) (ze s).1 (xs (i + 1))) → Go (d + 150) true 0 1429 [.ref 0, .ref 10, .ref 130, .int (nI i)] [] h2 Q) ∧ (¬ ((fDanger (zg s) (ze s).1 (xs (i + 1))) = (fDanger (zg s) (ze s).1 (xs (i + 1)))) → Go (d + 150) true 0 1102 [.ref 0, .ref 10, .ref 130, .int (nI i)] [] h2 Q) from ⟨fun c1 => ?_, fun c1 => ?_⟩)
  · skip
    exact k _ h2 ic2 im2 sb2
  · skip
    exact absurd rfl c1
theorem lw_both {d : Nat} {h : Hp} {xs : Nat → Int32} {L i : Nat} {s : LwG} {Q : Po} (hL : L ≤ 3072) (hi : i + 6 ≤ L) (ic : IC xs L s h) (im : IMo s h) (sb : SB s) (k : ∀ s2 h2, IC xs L s2 h2 → IMo s2 h2 → SB s2 → Go (d + 150) true 0 1429 [.ref 0, .ref 10, .ref 130, .int (nI i)] [] h2 Q) : Go (d + 150) true 0 1104 [.ref 0, .ref 10, .ref 130, .int (nI i)] [] h Q := by
  refine exf_go 5 (show Go (d + 150) true 0 1109 [.ref 0, .ref 10, .ref 130, .int (nI i)] [.int ((nI i) + 1), .ref 0, .ref 10] h Q from ?_)
  rw [show ((nI i) + 1 : Int32) = nI (i + 1) from nI_add i 1]
  refine exf_go 1 (show vp_in (nI (i + 1)) (al h 0) ∧ (Go (d + 150) true 0 1110 [.ref 0, .ref 10, .ref 130, .int (nI i)] [.int (rI h 0 ((nI (i + 1)).toNatClampNeg)), .ref 10] h Q) from ⟨(show vp_in (nI (i + 1)) (rL h 0) from by rw [ic.1.2.2]; exact vp_in_nI (by omega) (by omega)), ?_⟩)
  rw [show (rI h 0 ((nI (i + 1)).toNatClampNeg) : Int32) = xs (i + 1) from by rw [nI_clamp (by omega), ic.1.2.1]]
  refine exf_go 4 (show Go (d + 150) true 0 1114 [.ref 0, .ref 10, .ref 130, .int (nI i)] [.int ((nI i) + 2), .ref 0, .int (xs (i + 1)), .ref 10] h Q from ?_)
  rw [show ((nI i) + 2 : Int32) = nI (i + 2) from nI_add i 2]
  refine exf_go 1 (show vp_in (nI (i + 2)) (al h 0) ∧ (Go (d + 150) true 0 1115 [.ref 0, .ref 10, .ref 130, .int (nI i)] [.int (rI h 0 ((nI (i + 2)).toNatClampNeg)), .int (xs (i + 1)), .ref 10] h Q) from ⟨(show vp_in (nI (i + 2)) (rL h 0) from by rw [ic.1.2.2]; exact vp_in_nI (by omega) (by omega)), ?_⟩)
  rw [show (rI h 0 ((nI (i + 2)).toNatClampNeg) : Int32) = xs (i + 2) from by rw [nI_clamp (by omega), ic.1.2.1]]
  refine exf_go 1 (show wpC (d + 150) true 144 [.ref 10, .int (xs (i + 1)), .int (xs (i + 2))] h (fun r h' => Go (d + 150) true 0 1118 [.ref 0, .ref 10, .ref 130, .int (nI i)] [r] h' Q) from ?_)
  refine c_both ic.1.1 ic.2.1 ic.2.2.1.1 (fun h1 q1 => ?_)
  have ic1 := ic_C ic q1; have im1 := im_mq im (mq_g q1 (fun a i ha => fz_C (by omega)))
  show Go (d + 150) true 0 1118 [.ref 0, .ref 10, .ref 130, .int (nI i)] [.int (fBoth (zg s) (ze s).1 (xs (i + 1)) (xs (i + 2)))] h1 Q
  refine exf_go 5 (show Go (d + 150) true 0 1123 [.ref 0, .ref 10, .ref 130, .int (nI i)] [.int ((nI i) + 1), .ref 0, .ref 130, .int (fBoth (zg s) (ze s).1 (xs (i + 1)) (xs (i + 2)))] h1 Q from ?_)
  rw [show ((nI i) + 1 : Int32) = nI (i + 1) from nI_add i 1]
  refine exf_go 1 (show vp_in (nI (i + 1)) (al h1 0) ∧ (Go (d + 150) true 0 1124 [.ref 0, .ref 10, .ref 130, .int (nI i)] [.int (rI h1 0 ((nI (i + 1)).toNatClampNeg)), .ref 130, .int (fBoth (zg s) (ze s).1 (xs (i + 1)) (xs (i + 2)))] h1 Q) from ⟨(show vp_in (nI (i + 1)) (rL h1 0) from by rw [ic1.1.2.2]; exact vp_in_nI (by omega) (by omega)), ?_⟩)
  rw [show (rI h1 0 ((nI (i + 1)).toNatClampNeg) : Int32) = xs (i + 1) from by rw [nI_clamp (by omega), ic1.1.2.1]]
  refine exf_go 4 (show Go (d + 150) true 0 1128 [.ref 0, .ref 10, .ref 130, .int (nI i)] [.int ((nI i) + 2), .ref 0, .int (xs (i + 1)), .ref 130, .int (fBoth (zg s) (ze s).1 (xs (i + 1)) (xs (i + 2)))] h1 Q from ?_)
  rw [show ((nI i) + 2 : Int32) = nI (i + 2) from nI_add i 2]
  refine exf_go 1 (show vp_in (nI (i + 2)) (al h1 0) ∧ (Go (d + 150) true 0 1129 [.ref 0, .ref 10, .ref 130, .int (nI i)] [.int (rI h1 0 ((nI (i + 2)).toNatClampNeg)), .int (xs (i + 1)), .ref 130, .int (fBoth (zg s) (ze s).1 (xs (i + 1)) (xs (i + 2)))] h1 Q) from ⟨(show vp_in (nI (i + 2)) (rL h1 0) from by rw [ic1.1.2.2]; exact vp_in_nI (by omega) (by omega)), ?_⟩)
  rw [show (rI h1 0 ((nI (i + 2)).toNatClampNeg) : Int32) = xs (i + 2) from by rw [nI_clamp (by omega), ic1.1.2.1]]
  refine exf_go 1 (show wpC (d + 150) true 281 [.ref 130, .int (xs (i + 1)), .int (xs (i + 2))] h1 (fun r h' => Go (d + 150) true 0 1132 [.ref 0, .ref 10, .ref 130, .int (nI i)] [r, .int (fBoth (zg s) (ze s).1 (xs (i + 1)) (xs (i + 2)))] h' Q) from ?_)
  refine m_both im1.1.1 (fun h2 q2 => ?_)
  have im2 := im_M im1 q2; have ic2 := ic_cq ic1 (cq_f q2 (fun a i ha => fz_M ha)); have sb2 := sb
  show Go (d + 150) true 0 1132 [.ref 0, .ref 10, .ref 130, .int (nI i)] [.int (fBoth (zg s) (ze s).1 (xs (i + 1)) (xs (i + 2))), .int (fBoth (zg s) (ze s).1 (xs (i + 1)) (xs (i + 2)))] h2 Q
  refine exf_go 1 (show ((fBoth (zg s) (ze s).1 (xs (i + 1)) (xs (i + 2))) = (fBoth (zg s) (ze s).1 (xs (i + 1)) (xs (i + 2))) → Go (d + 150) true 0 1429 [.ref 0, .ref 10, .ref 130, .int (nI i)] [] h2 Q) ∧ (¬ ((fBoth (zg s) (ze s).1 (xs (i + 1)) (xs (i + 2))) = (fBoth (zg s) (ze s).1 (xs (i + 1)) (xs (i + 2)))) → Go (d + 150) true 0 1135 [.ref 0, .ref 10, .ref 130, .int (nI i)] [] h2 Q) from ⟨fun c1 => ?_, fun c1 => ?_⟩)
  · skip
    exact k _ h2 ic2 im2 sb2
  · skip
    exact absurd rfl c1
theorem lw_hidden {d : Nat} {h : Hp} {xs : Nat → Int32} {L i : Nat} {s : LwG} {Q : Po} (hL : L ≤ 3072) (hi : i + 6 ≤ L) (ic : IC xs L s h) (im : IMo s h) (sb : SB s) (k : ∀ s2 h2, IC xs L s2 h2 → IMo s2 h2 → SB s2 → Go (d + 150) true 0 1429 [.ref 0, .ref 10, .ref 130, .int (nI i)] [] h2 Q) : Go (d + 150) true 0 1137 [.ref 0, .ref 10, .ref 130, .int (nI i)] [] h Q := by
  refine exf_go 2 (show wpC (d + 150) true 145 [.ref 10] h (fun r h' => Go (d + 150) true 0 1141 [.ref 0, .ref 10, .ref 130, .int (nI i)] [r] h' Q) from ?_)
  refine c_hidden ic.1.1 ic.2.1 ic.2.2.1.1 (fun h1 q1 => ?_)
  have ic1 := ic_C ic q1; have im1 := im_mq im (mq_g q1 (fun a i ha => fz_C (by omega)))
  show Go (d + 150) true 0 1141 [.ref 0, .ref 10, .ref 130, .int (nI i)] [.int (fHidden (zg s) (ze s).1)] h1 Q
  refine exf_go 2 (show wpC (d + 150) true 282 [.ref 130] h1 (fun r h' => Go (d + 150) true 0 1145 [.ref 0, .ref 10, .ref 130, .int (nI i)] [r, .int (fHidden (zg s) (ze s).1)] h' Q) from ?_)
  refine m_hidden im1.1.1 (fun h2 q2 => ?_)
  have im2 := im_M im1 q2; have ic2 := ic_cq ic1 (cq_f q2 (fun a i ha => fz_M ha)); have sb2 := sb
  show Go (d + 150) true 0 1145 [.ref 0, .ref 10, .ref 130, .int (nI i)] [.int (fHidden (zg s) (ze s).1), .int (fHidden (zg s) (ze s).1)] h2 Q
  refine exf_go 1 (show ((fHidden (zg s) (ze s).1) = (fHidden (zg s) (ze s).1) → Go (d + 150) true 0 1429 [.ref 0, .ref 10, .ref 130, .int (nI i)] [] h2 Q) ∧ (¬ ((fHidden (zg s) (ze s).1) = (fHidden (zg s) (ze s).1)) → Go (d + 150) true 0 1148 [.ref 0, .ref 10, .ref 130, .int (nI i)] [] h2 Q) from ⟨fun c1 => ?_, fun c1 => ?_⟩)
  · skip
    exact k _ h2 ic2 im2 sb2
  · skip
    exact absurd rfl c1
theorem lw_who {d : Nat} {h : Hp} {xs : Nat → Int32} {L i : Nat} {s : LwG} {Q : Po} (hL : L ≤ 3072) (hi : i + 6 ≤ L) (ic : IC xs L s h) (im : IMo s h) (sb : SB s) (k : ∀ s2 h2, IC xs L s2 h2 → IMo s2 h2 → SB s2 → Go (d + 150) true 0 1429 [.ref 0, .ref 10, .ref 130, .int (nI i)] [] h2 Q) : Go (d + 150) true 0 1150 [.ref 0, .ref 10, .ref 130, .int (nI i)] [] h Q := by
  refine exf_go 5 (show Go (d + 150) true 0 1155 [.ref 0, .ref 10, .ref 130, .int (nI i)] [.int ((nI i) + 1), .ref 0, .ref 10] h Q from ?_)
  rw [show ((nI i) + 1 : Int32) = nI (i + 1) from nI_add i 1]
  refine exf_go 1 (show vp_in (nI (i + 1)) (al h 0) ∧ (Go (d + 150) true 0 1156 [.ref 0, .ref 10, .ref 130, .int (nI i)] [.int (rI h 0 ((nI (i + 1)).toNatClampNeg)), .ref 10] h Q) from ⟨(show vp_in (nI (i + 1)) (rL h 0) from by rw [ic.1.2.2]; exact vp_in_nI (by omega) (by omega)), ?_⟩)
  rw [show (rI h 0 ((nI (i + 1)).toNatClampNeg) : Int32) = xs (i + 1) from by rw [nI_clamp (by omega), ic.1.2.1]]
  refine exf_go 1 (show wpC (d + 150) true 146 [.ref 10, .int (xs (i + 1))] h (fun r h' => Go (d + 150) true 0 1159 [.ref 0, .ref 10, .ref 130, .int (nI i)] [r] h' Q) from ?_)
  refine c_who ic.1.1 ic.2.1 ic.2.2.1.1 ic.2.2.2.1 (fun h1 q1 => ?_)
  have ic1 := ic_C ic q1; have im1 := im_mq im (mq_g q1 (fun a i ha => fz_C (by omega)))
  show Go (d + 150) true 0 1159 [.ref 0, .ref 10, .ref 130, .int (nI i)] [.int (fWho (zg s) (zr s) (xs (i + 1)))] h1 Q
  refine exf_go 5 (show Go (d + 150) true 0 1164 [.ref 0, .ref 10, .ref 130, .int (nI i)] [.int ((nI i) + 1), .ref 0, .ref 130, .int (fWho (zg s) (zr s) (xs (i + 1)))] h1 Q from ?_)
  rw [show ((nI i) + 1 : Int32) = nI (i + 1) from nI_add i 1]
  refine exf_go 1 (show vp_in (nI (i + 1)) (al h1 0) ∧ (Go (d + 150) true 0 1165 [.ref 0, .ref 10, .ref 130, .int (nI i)] [.int (rI h1 0 ((nI (i + 1)).toNatClampNeg)), .ref 130, .int (fWho (zg s) (zr s) (xs (i + 1)))] h1 Q) from ⟨(show vp_in (nI (i + 1)) (rL h1 0) from by rw [ic1.1.2.2]; exact vp_in_nI (by omega) (by omega)), ?_⟩)
  rw [show (rI h1 0 ((nI (i + 1)).toNatClampNeg) : Int32) = xs (i + 1) from by rw [nI_clamp (by omega), ic1.1.2.1]]
  refine exf_go 1 (show wpC (d + 150) true 284 [.ref 130, .int (xs (i + 1))] h1 (fun r h' => Go (d + 150) true 0 1168 [.ref 0, .ref 10, .ref 130, .int (nI i)] [r, .int (fWho (zg s) (zr s) (xs (i + 1)))] h' Q) from ?_)
  refine m_who (l := (ze s).1) (nH := (ze s).2.1) (hl := (ze s).2.2) im1.1 im1.2.1 (fun h2 q2 md2 => ?_)
  have im2 := im_De im1 q2 md2; have ic2 := ic_cq ic1 (cq_f q2 (fun a i ha => fz_De ha)); have sb2 := sb
  show Go (d + 150) true 0 1168 [.ref 0, .ref 10, .ref 130, .int (nI i)] [.int (fWho (zg s) (zr s) (xs (i + 1))), .int (fWho (zg s) (zr s) (xs (i + 1)))] h2 Q
  refine exf_go 1 (show ((fWho (zg s) (zr s) (xs (i + 1))) = (fWho (zg s) (zr s) (xs (i + 1))) → Go (d + 150) true 0 1429 [.ref 0, .ref 10, .ref 130, .int (nI i)] [] h2 Q) ∧ (¬ ((fWho (zg s) (zr s) (xs (i + 1))) = (fWho (zg s) (zr s) (xs (i + 1)))) → Go (d + 150) true 0 1171 [.ref 0, .ref 10, .ref 130, .int (nI i)] [] h2 Q) from ⟨fun c1 => ?_, fun c1 => ?_⟩)
  · skip
    exact k _ h2 ic2 im2 sb2
  · skip
    exact absurd rfl c1
theorem lw_rows {d : Nat} {h : Hp} {xs : Nat → Int32} {L i : Nat} {s : LwG} {Q : Po} (hL : L ≤ 3072) (hi : i + 6 ≤ L) (ic : IC xs L s h) (im : IMo s h) (sb : SB s) (k : ∀ s2 h2, IC xs L s2 h2 → IMo s2 h2 → SB s2 → Go (d + 150) true 0 1429 [.ref 0, .ref 10, .ref 130, .int (nI i)] [] h2 Q) : Go (d + 150) true 0 1173 [.ref 0, .ref 10, .ref 130, .int (nI i)] [] h Q := by
  refine exf_go 5 (show Go (d + 150) true 0 1178 [.ref 0, .ref 10, .ref 130, .int (nI i)] [.int ((nI i) + 1), .ref 0, .ref 10] h Q from ?_)
  rw [show ((nI i) + 1 : Int32) = nI (i + 1) from nI_add i 1]
  refine exf_go 1 (show vp_in (nI (i + 1)) (al h 0) ∧ (Go (d + 150) true 0 1179 [.ref 0, .ref 10, .ref 130, .int (nI i)] [.int (rI h 0 ((nI (i + 1)).toNatClampNeg)), .ref 10] h Q) from ⟨(show vp_in (nI (i + 1)) (rL h 0) from by rw [ic.1.2.2]; exact vp_in_nI (by omega) (by omega)), ?_⟩)
  rw [show (rI h 0 ((nI (i + 1)).toNatClampNeg) : Int32) = xs (i + 1) from by rw [nI_clamp (by omega), ic.1.2.1]]
  refine exf_go 1 (show wpC (d + 150) true 147 [.ref 10, .int (xs (i + 1))] h (fun r h' => Go (d + 150) true 0 1182 [.ref 0, .ref 10, .ref 130, .int (nI i)] [r] h' Q) from ?_)
  refine c_rows ic.1.1 ic.2.1 ic.2.2.1.1 ic.2.2.2.1 (fun h1 q1 => ?_)
  have ic1 := ic_C ic q1; have im1 := im_mq im (mq_g q1 (fun a i ha => fz_C (by omega)))
  show Go (d + 150) true 0 1182 [.ref 0, .ref 10, .ref 130, .int (nI i)] [.long (fRows (zg s) (ze s).1 (zr s) (xs (i + 1)))] h1 Q
  refine exf_go 5 (show Go (d + 150) true 0 1187 [.ref 0, .ref 10, .ref 130, .int (nI i)] [.int ((nI i) + 1), .ref 0, .ref 130, .long (fRows (zg s) (ze s).1 (zr s) (xs (i + 1)))] h1 Q from ?_)
  rw [show ((nI i) + 1 : Int32) = nI (i + 1) from nI_add i 1]
  refine exf_go 1 (show vp_in (nI (i + 1)) (al h1 0) ∧ (Go (d + 150) true 0 1188 [.ref 0, .ref 10, .ref 130, .int (nI i)] [.int (rI h1 0 ((nI (i + 1)).toNatClampNeg)), .ref 130, .long (fRows (zg s) (ze s).1 (zr s) (xs (i + 1)))] h1 Q) from ⟨(show vp_in (nI (i + 1)) (rL h1 0) from by rw [ic1.1.2.2]; exact vp_in_nI (by omega) (by omega)), ?_⟩)
  rw [show (rI h1 0 ((nI (i + 1)).toNatClampNeg) : Int32) = xs (i + 1) from by rw [nI_clamp (by omega), ic1.1.2.1]]
  refine exf_go 1 (show wpC (d + 150) true 290 [.ref 130, .int (xs (i + 1))] h1 (fun r h' => Go (d + 150) true 0 1191 [.ref 0, .ref 10, .ref 130, .int (nI i)] [r, .long (fRows (zg s) (ze s).1 (zr s) (xs (i + 1)))] h' Q) from ?_)
  refine m_rows im1.1.1 im1.2.1 (fun h2 q2 => ?_)
  have im2 := im_M im1 q2; have ic2 := ic_cq ic1 (cq_f q2 (fun a i ha => fz_M ha)); have sb2 := sb
  show Go (d + 150) true 0 1191 [.ref 0, .ref 10, .ref 130, .int (nI i)] [.long (fRows (zg s) (ze s).1 (zr s) (xs (i + 1))), .long (fRows (zg s) (ze s).1 (zr s) (xs (i + 1)))] h2 Q
  refine exf_go 2 (show ((lg_cmp (fRows (zg s) (ze s).1 (zr s) (xs (i + 1))) (fRows (zg s) (ze s).1 (zr s) (xs (i + 1)))) = 0 → Go (d + 150) true 0 1429 [.ref 0, .ref 10, .ref 130, .int (nI i)] [] h2 Q) ∧ (¬ ((lg_cmp (fRows (zg s) (ze s).1 (zr s) (xs (i + 1))) (fRows (zg s) (ze s).1 (zr s) (xs (i + 1)))) = 0) → Go (d + 150) true 0 1195 [.ref 0, .ref 10, .ref 130, .int (nI i)] [] h2 Q) from ⟨fun c1 => ?_, fun c1 => ?_⟩)
  · skip
    have c1 : (fRows (zg s) (ze s).1 (zr s) (xs (i + 1))) = (fRows (zg s) (ze s).1 (zr s) (xs (i + 1))) := (lg_cmp_eq _ _).mp c1
    exact k _ h2 ic2 im2 sb2
  · skip
    have c1 : ¬ ((fRows (zg s) (ze s).1 (zr s) (xs (i + 1))) = (fRows (zg s) (ze s).1 (zr s) (xs (i + 1)))) := fun q => c1 ((lg_cmp_eq _ _).mpr q)
    exact absurd rfl c1
theorem lw_near {d : Nat} {h : Hp} {xs : Nat → Int32} {L i : Nat} {s : LwG} {Q : Po} (hL : L ≤ 3072) (hi : i + 6 ≤ L) (ic : IC xs L s h) (im : IMo s h) (sb : SB s) (k : ∀ s2 h2, IC xs L s2 h2 → IMo s2 h2 → SB s2 → Go (d + 150) true 0 1429 [.ref 0, .ref 10, .ref 130, .int (nI i)] [] h2 Q) : Go (d + 150) true 0 1197 [.ref 0, .ref 10, .ref 130, .int (nI i)] [] h Q := by
  refine exf_go 5 (show Go (d + 150) true 0 1202 [.ref 0, .ref 10, .ref 130, .int (nI i)] [.int ((nI i) + 1), .ref 0, .ref 10] h Q from ?_)
  rw [show ((nI i) + 1 : Int32) = nI (i + 1) from nI_add i 1]
  refine exf_go 1 (show vp_in (nI (i + 1)) (al h 0) ∧ (Go (d + 150) true 0 1203 [.ref 0, .ref 10, .ref 130, .int (nI i)] [.int (rI h 0 ((nI (i + 1)).toNatClampNeg)), .ref 10] h Q) from ⟨(show vp_in (nI (i + 1)) (rL h 0) from by rw [ic.1.2.2]; exact vp_in_nI (by omega) (by omega)), ?_⟩)
  rw [show (rI h 0 ((nI (i + 1)).toNatClampNeg) : Int32) = xs (i + 1) from by rw [nI_clamp (by omega), ic.1.2.1]]
  refine exf_go 1 (show wpC (d + 150) true 148 [.ref 10, .int (xs (i + 1))] h (fun r h' => Go (d + 150) true 0 1206 [.ref 0, .ref 10, .ref 130, .int (nI i)] [r] h' Q) from ?_)
  refine c_near ic.2.1 ic.2.2.1.1 ?_
  have ic1 := ic; have im1 := im
  show Go (d + 150) true 0 1206 [.ref 0, .ref 10, .ref 130, .int (nI i)] [.int (fNear (zg s) (ze s).1 (xs (i + 1)))] h Q
  refine exf_go 5 (show Go (d + 150) true 0 1211 [.ref 0, .ref 10, .ref 130, .int (nI i)] [.int ((nI i) + 1), .ref 0, .ref 130, .int (fNear (zg s) (ze s).1 (xs (i + 1)))] h Q from ?_)
  rw [show ((nI i) + 1 : Int32) = nI (i + 1) from nI_add i 1]
  refine exf_go 1 (show vp_in (nI (i + 1)) (al h 0) ∧ (Go (d + 150) true 0 1212 [.ref 0, .ref 10, .ref 130, .int (nI i)] [.int (rI h 0 ((nI (i + 1)).toNatClampNeg)), .ref 130, .int (fNear (zg s) (ze s).1 (xs (i + 1)))] h Q) from ⟨(show vp_in (nI (i + 1)) (rL h 0) from by rw [ic.1.2.2]; exact vp_in_nI (by omega) (by omega)), ?_⟩)
  rw [show (rI h 0 ((nI (i + 1)).toNatClampNeg) : Int32) = xs (i + 1) from by rw [nI_clamp (by omega), ic.1.2.1]]
  refine exf_go 1 (show wpC (d + 150) true 291 [.ref 130, .int (xs (i + 1))] h (fun r h' => Go (d + 150) true 0 1215 [.ref 0, .ref 10, .ref 130, .int (nI i)] [r, .int (fNear (zg s) (ze s).1 (xs (i + 1)))] h' Q) from ?_)
  refine m_near im1.1.1 (fun h2 q2 => ?_)
  have im2 := im_M im1 q2; have ic2 := ic_cq ic1 (cq_f q2 (fun a i ha => fz_M ha)); have sb2 := sb
  show Go (d + 150) true 0 1215 [.ref 0, .ref 10, .ref 130, .int (nI i)] [.int (fNear (zg s) (ze s).1 (xs (i + 1))), .int (fNear (zg s) (ze s).1 (xs (i + 1)))] h2 Q
  refine exf_go 1 (show ((fNear (zg s) (ze s).1 (xs (i + 1))) = (fNear (zg s) (ze s).1 (xs (i + 1))) → Go (d + 150) true 0 1429 [.ref 0, .ref 10, .ref 130, .int (nI i)] [] h2 Q) ∧ (¬ ((fNear (zg s) (ze s).1 (xs (i + 1))) = (fNear (zg s) (ze s).1 (xs (i + 1)))) → Go (d + 150) true 0 1218 [.ref 0, .ref 10, .ref 130, .int (nI i)] [] h2 Q) from ⟨fun c1 => ?_, fun c1 => ?_⟩)
  · skip
    exact k _ h2 ic2 im2 sb2
  · skip
    exact absurd rfl c1
theorem lw_numbers {d : Nat} {h : Hp} {xs : Nat → Int32} {L i : Nat} {s : LwG} {Q : Po} (hL : L ≤ 3072) (hi : i + 6 ≤ L) (ic : IC xs L s h) (im : IMo s h) (sb : SB s) (k : ∀ s2 h2, IC xs L s2 h2 → IMo s2 h2 → SB s2 → Go (d + 150) true 0 1429 [.ref 0, .ref 10, .ref 130, .int (nI i)] [] h2 Q) : Go (d + 150) true 0 1220 [.ref 0, .ref 10, .ref 130, .int (nI i)] [] h Q := by
  refine exf_go 5 (show Go (d + 150) true 0 1225 [.ref 0, .ref 10, .ref 130, .int (nI i)] [.int ((nI i) + 1), .ref 0, .ref 10] h Q from ?_)
  rw [show ((nI i) + 1 : Int32) = nI (i + 1) from nI_add i 1]
  refine exf_go 1 (show vp_in (nI (i + 1)) (al h 0) ∧ (Go (d + 150) true 0 1226 [.ref 0, .ref 10, .ref 130, .int (nI i)] [.int (rI h 0 ((nI (i + 1)).toNatClampNeg)), .ref 10] h Q) from ⟨(show vp_in (nI (i + 1)) (rL h 0) from by rw [ic.1.2.2]; exact vp_in_nI (by omega) (by omega)), ?_⟩)
  rw [show (rI h 0 ((nI (i + 1)).toNatClampNeg) : Int32) = xs (i + 1) from by rw [nI_clamp (by omega), ic.1.2.1]]
  refine exf_go 4 (show Go (d + 150) true 0 1230 [.ref 0, .ref 10, .ref 130, .int (nI i)] [.int ((nI i) + 2), .ref 0, .int (xs (i + 1)), .ref 10] h Q from ?_)
  rw [show ((nI i) + 2 : Int32) = nI (i + 2) from nI_add i 2]
  refine exf_go 1 (show vp_in (nI (i + 2)) (al h 0) ∧ (Go (d + 150) true 0 1231 [.ref 0, .ref 10, .ref 130, .int (nI i)] [.int (rI h 0 ((nI (i + 2)).toNatClampNeg)), .int (xs (i + 1)), .ref 10] h Q) from ⟨(show vp_in (nI (i + 2)) (rL h 0) from by rw [ic.1.2.2]; exact vp_in_nI (by omega) (by omega)), ?_⟩)
  rw [show (rI h 0 ((nI (i + 2)).toNatClampNeg) : Int32) = xs (i + 2) from by rw [nI_clamp (by omega), ic.1.2.1]]
  refine exf_go 4 (show Go (d + 150) true 0 1235 [.ref 0, .ref 10, .ref 130, .int (nI i)] [.int ((nI i) + 3), .ref 0, .int (xs (i + 2)), .int (xs (i + 1)), .ref 10] h Q from ?_)
  rw [show ((nI i) + 3 : Int32) = nI (i + 3) from nI_add i 3]
  refine exf_go 1 (show vp_in (nI (i + 3)) (al h 0) ∧ (Go (d + 150) true 0 1236 [.ref 0, .ref 10, .ref 130, .int (nI i)] [.int (rI h 0 ((nI (i + 3)).toNatClampNeg)), .int (xs (i + 2)), .int (xs (i + 1)), .ref 10] h Q) from ⟨(show vp_in (nI (i + 3)) (rL h 0) from by rw [ic.1.2.2]; exact vp_in_nI (by omega) (by omega)), ?_⟩)
  rw [show (rI h 0 ((nI (i + 3)).toNatClampNeg) : Int32) = xs (i + 3) from by rw [nI_clamp (by omega), ic.1.2.1]]
  refine exf_go 1 (show wpC (d + 150) true 149 [.ref 10, .int (xs (i + 1)), .int (xs (i + 2)), .int (xs (i + 3))] h (fun r h' => Go (d + 150) true 0 1239 [.ref 0, .ref 10, .ref 130, .int (nI i)] [r] h' Q) from ?_)
  refine c_numbers ic.1.1 ic.2.2.2.1 (fun h1 q1 ca1 => ?_)
  have ic1 := ic_T ic (T_cp q1) ca1; have im1 := im_mq im (mq_g (T_cp q1) (fun a i ha => fz_cp (by omega) (by omega)))
  show Go (d + 150) true 0 1239 [.ref 0, .ref 10, .ref 130, .int (nI i)] [.int ((dNumbers (zr s) (xs (i + 1)) (xs (i + 2)) (xs (i + 3))).2)] h1 Q
  refine exf_go 5 (show Go (d + 150) true 0 1244 [.ref 0, .ref 10, .ref 130, .int (nI i)] [.int ((nI i) + 1), .ref 0, .ref 130, .int ((dNumbers (zr s) (xs (i + 1)) (xs (i + 2)) (xs (i + 3))).2)] h1 Q from ?_)
  rw [show ((nI i) + 1 : Int32) = nI (i + 1) from nI_add i 1]
  refine exf_go 1 (show vp_in (nI (i + 1)) (al h1 0) ∧ (Go (d + 150) true 0 1245 [.ref 0, .ref 10, .ref 130, .int (nI i)] [.int (rI h1 0 ((nI (i + 1)).toNatClampNeg)), .ref 130, .int ((dNumbers (zr s) (xs (i + 1)) (xs (i + 2)) (xs (i + 3))).2)] h1 Q) from ⟨(show vp_in (nI (i + 1)) (rL h1 0) from by rw [ic1.1.2.2]; exact vp_in_nI (by omega) (by omega)), ?_⟩)
  rw [show (rI h1 0 ((nI (i + 1)).toNatClampNeg) : Int32) = xs (i + 1) from by rw [nI_clamp (by omega), ic1.1.2.1]]
  refine exf_go 4 (show Go (d + 150) true 0 1249 [.ref 0, .ref 10, .ref 130, .int (nI i)] [.int ((nI i) + 2), .ref 0, .int (xs (i + 1)), .ref 130, .int ((dNumbers (zr s) (xs (i + 1)) (xs (i + 2)) (xs (i + 3))).2)] h1 Q from ?_)
  rw [show ((nI i) + 2 : Int32) = nI (i + 2) from nI_add i 2]
  refine exf_go 1 (show vp_in (nI (i + 2)) (al h1 0) ∧ (Go (d + 150) true 0 1250 [.ref 0, .ref 10, .ref 130, .int (nI i)] [.int (rI h1 0 ((nI (i + 2)).toNatClampNeg)), .int (xs (i + 1)), .ref 130, .int ((dNumbers (zr s) (xs (i + 1)) (xs (i + 2)) (xs (i + 3))).2)] h1 Q) from ⟨(show vp_in (nI (i + 2)) (rL h1 0) from by rw [ic1.1.2.2]; exact vp_in_nI (by omega) (by omega)), ?_⟩)
  rw [show (rI h1 0 ((nI (i + 2)).toNatClampNeg) : Int32) = xs (i + 2) from by rw [nI_clamp (by omega), ic1.1.2.1]]
  refine exf_go 4 (show Go (d + 150) true 0 1254 [.ref 0, .ref 10, .ref 130, .int (nI i)] [.int ((nI i) + 3), .ref 0, .int (xs (i + 2)), .int (xs (i + 1)), .ref 130, .int ((dNumbers (zr s) (xs (i + 1)) (xs (i + 2)) (xs (i + 3))).2)] h1 Q from ?_)
  rw [show ((nI i) + 3 : Int32) = nI (i + 3) from nI_add i 3]
  refine exf_go 1 (show vp_in (nI (i + 3)) (al h1 0) ∧ (Go (d + 150) true 0 1255 [.ref 0, .ref 10, .ref 130, .int (nI i)] [.int (rI h1 0 ((nI (i + 3)).toNatClampNeg)), .int (xs (i + 2)), .int (xs (i + 1)), .ref 130, .int ((dNumbers (zr s) (xs (i + 1)) (xs (i + 2)) (xs (i + 3))).2)] h1 Q) from ⟨(show vp_in (nI (i + 3)) (rL h1 0) from by rw [ic1.1.2.2]; exact vp_in_nI (by omega) (by omega)), ?_⟩)
  rw [show (rI h1 0 ((nI (i + 3)).toNatClampNeg) : Int32) = xs (i + 3) from by rw [nI_clamp (by omega), ic1.1.2.1]]
  refine exf_go 1 (show wpC (d + 150) true 293 [.ref 130, .int (xs (i + 1)), .int (xs (i + 2)), .int (xs (i + 3))] h1 (fun r h' => Go (d + 150) true 0 1258 [.ref 0, .ref 10, .ref 130, .int (nI i)] [r, .int ((dNumbers (zr s) (xs (i + 1)) (xs (i + 2)) (xs (i + 3))).2)] h' Q) from ?_)
  refine m_numbers (tr := zr s) im1.2.1 (fun h2 q2 ma2 => ?_)
  have im2 := im_Mt im1 q2 ma2; have ic2 := ic_cq ic1 (cq_f q2 (fun a i ha => fz_Mt ha)); have sb2 : SB (zg s, ze s, (dNumbers (zr s) (xs (i + 1)) (xs (i + 2)) (xs (i + 3))).1, s.2.2.2) := ⟨sb.1, sb.2⟩
  show Go (d + 150) true 0 1258 [.ref 0, .ref 10, .ref 130, .int (nI i)] [.int ((dNumbers (zr s) (xs (i + 1)) (xs (i + 2)) (xs (i + 3))).2), .int ((dNumbers (zr s) (xs (i + 1)) (xs (i + 2)) (xs (i + 3))).2)] h2 Q
  refine exf_go 1 (show (((dNumbers (zr s) (xs (i + 1)) (xs (i + 2)) (xs (i + 3))).2) = ((dNumbers (zr s) (xs (i + 1)) (xs (i + 2)) (xs (i + 3))).2) → Go (d + 150) true 0 1429 [.ref 0, .ref 10, .ref 130, .int (nI i)] [] h2 Q) ∧ (¬ (((dNumbers (zr s) (xs (i + 1)) (xs (i + 2)) (xs (i + 3))).2) = ((dNumbers (zr s) (xs (i + 1)) (xs (i + 2)) (xs (i + 3))).2)) → Go (d + 150) true 0 1261 [.ref 0, .ref 10, .ref 130, .int (nI i)] [] h2 Q) from ⟨fun c1 => ?_, fun c1 => ?_⟩)
  · skip
    exact k _ h2 ic2 im2 sb2
  · skip
    exact absurd rfl c1
theorem lw_write {d : Nat} {h : Hp} {xs : Nat → Int32} {L i : Nat} {s : LwG} {Q : Po} (hL : L ≤ 3072) (hi : i + 6 ≤ L) (ic : IC xs L s h) (im : IMo s h) (sb : SB s) (k : ∀ s2 h2, IC xs L s2 h2 → IMo s2 h2 → SB s2 → Go (d + 150) true 0 1429 [.ref 0, .ref 10, .ref 130, .int (nI i)] [] h2 Q) : Go (d + 150) true 0 1263 [.ref 0, .ref 10, .ref 130, .int (nI i)] [] h Q := by
  refine exf_go 5 (show Go (d + 150) true 0 1268 [.ref 0, .ref 10, .ref 130, .int (nI i)] [.int ((nI i) + 1), .ref 0, .ref 10] h Q from ?_)
  rw [show ((nI i) + 1 : Int32) = nI (i + 1) from nI_add i 1]
  refine exf_go 1 (show vp_in (nI (i + 1)) (al h 0) ∧ (Go (d + 150) true 0 1269 [.ref 0, .ref 10, .ref 130, .int (nI i)] [.int (rI h 0 ((nI (i + 1)).toNatClampNeg)), .ref 10] h Q) from ⟨(show vp_in (nI (i + 1)) (rL h 0) from by rw [ic.1.2.2]; exact vp_in_nI (by omega) (by omega)), ?_⟩)
  rw [show (rI h 0 ((nI (i + 1)).toNatClampNeg) : Int32) = xs (i + 1) from by rw [nI_clamp (by omega), ic.1.2.1]]
  refine exf_go 4 (show Go (d + 150) true 0 1273 [.ref 0, .ref 10, .ref 130, .int (nI i)] [.int ((nI i) + 2), .ref 0, .int (xs (i + 1)), .ref 10] h Q from ?_)
  rw [show ((nI i) + 2 : Int32) = nI (i + 2) from nI_add i 2]
  refine exf_go 1 (show vp_in (nI (i + 2)) (al h 0) ∧ (Go (d + 150) true 0 1274 [.ref 0, .ref 10, .ref 130, .int (nI i)] [.int (rI h 0 ((nI (i + 2)).toNatClampNeg)), .int (xs (i + 1)), .ref 10] h Q) from ⟨(show vp_in (nI (i + 2)) (rL h 0) from by rw [ic.1.2.2]; exact vp_in_nI (by omega) (by omega)), ?_⟩)
  rw [show (rI h 0 ((nI (i + 2)).toNatClampNeg) : Int32) = xs (i + 2) from by rw [nI_clamp (by omega), ic.1.2.1]]
  refine exf_go 4 (show Go (d + 150) true 0 1278 [.ref 0, .ref 10, .ref 130, .int (nI i)] [.int ((nI i) + 3), .ref 0, .int (xs (i + 2)), .int (xs (i + 1)), .ref 10] h Q from ?_)
  rw [show ((nI i) + 3 : Int32) = nI (i + 3) from nI_add i 3]
  refine exf_go 1 (show vp_in (nI (i + 3)) (al h 0) ∧ (Go (d + 150) true 0 1279 [.ref 0, .ref 10, .ref 130, .int (nI i)] [.int (rI h 0 ((nI (i + 3)).toNatClampNeg)), .int (xs (i + 2)), .int (xs (i + 1)), .ref 10] h Q) from ⟨(show vp_in (nI (i + 3)) (rL h 0) from by rw [ic.1.2.2]; exact vp_in_nI (by omega) (by omega)), ?_⟩)
  rw [show (rI h 0 ((nI (i + 3)).toNatClampNeg) : Int32) = xs (i + 3) from by rw [nI_clamp (by omega), ic.1.2.1]]
  refine exf_go 7 (show Go (d + 150) true 0 1287 [.ref 0, .ref 10, .ref 130, .int (nI i)] [.int ((nI i) + 4), .ref 0, .long (((xs (i + 3)).toInt64) <<< ((32 : Int32).toInt64 &&& 63)), .int (xs (i + 2)), .int (xs (i + 1)), .ref 10] h Q from ?_)
  rw [show ((nI i) + 4 : Int32) = nI (i + 4) from nI_add i 4]
  refine exf_go 1 (show vp_in (nI (i + 4)) (al h 0) ∧ (Go (d + 150) true 0 1288 [.ref 0, .ref 10, .ref 130, .int (nI i)] [.int (rI h 0 ((nI (i + 4)).toNatClampNeg)), .long (((xs (i + 3)).toInt64) <<< ((32 : Int32).toInt64 &&& 63)), .int (xs (i + 2)), .int (xs (i + 1)), .ref 10] h Q) from ⟨(show vp_in (nI (i + 4)) (rL h 0) from by rw [ic.1.2.2]; exact vp_in_nI (by omega) (by omega)), ?_⟩)
  rw [show (rI h 0 ((nI (i + 4)).toNatClampNeg) : Int32) = xs (i + 4) from by rw [nI_clamp (by omega), ic.1.2.1]]
  refine exf_go 5 (show wpC (d + 150) true 150 [.ref 10, .int (xs (i + 1)), .int (xs (i + 2)), .long ((((xs (i + 3)).toInt64) <<< ((32 : Int32).toInt64 &&& 63)) ||| (((xs (i + 4)).toInt64) &&& 4294967295))] h (fun r h' => Go (d + 150) true 0 1297 [.ref 0, .ref 10, .ref 130, .int (nI i)] [r] h' Q) from ?_)
  refine c_write ic.1.1 ic.2.2.2.1 (fun h1 q1 ca1 => ?_)
  have ic1 := ic_T ic (T_cp q1) ca1; have im1 := im_mq im (mq_g (T_cp q1) (fun a i ha => fz_cp (by omega) (by omega)))
  show Go (d + 150) true 0 1297 [.ref 0, .ref 10, .ref 130, .int (nI i)] [.long ((dWrite (zr s) (xs (i + 1)) (xs (i + 2)) ((((xs (i + 3)).toInt64) <<< ((32 : Int32).toInt64 &&& 63)) ||| (((xs (i + 4)).toInt64) &&& 4294967295))).2)] h1 Q
  refine exf_go 5 (show Go (d + 150) true 0 1302 [.ref 0, .ref 10, .ref 130, .int (nI i)] [.int ((nI i) + 1), .ref 0, .ref 130, .long ((dWrite (zr s) (xs (i + 1)) (xs (i + 2)) ((((xs (i + 3)).toInt64) <<< ((32 : Int32).toInt64 &&& 63)) ||| (((xs (i + 4)).toInt64) &&& 4294967295))).2)] h1 Q from ?_)
  rw [show ((nI i) + 1 : Int32) = nI (i + 1) from nI_add i 1]
  refine exf_go 1 (show vp_in (nI (i + 1)) (al h1 0) ∧ (Go (d + 150) true 0 1303 [.ref 0, .ref 10, .ref 130, .int (nI i)] [.int (rI h1 0 ((nI (i + 1)).toNatClampNeg)), .ref 130, .long ((dWrite (zr s) (xs (i + 1)) (xs (i + 2)) ((((xs (i + 3)).toInt64) <<< ((32 : Int32).toInt64 &&& 63)) ||| (((xs (i + 4)).toInt64) &&& 4294967295))).2)] h1 Q) from ⟨(show vp_in (nI (i + 1)) (rL h1 0) from by rw [ic1.1.2.2]; exact vp_in_nI (by omega) (by omega)), ?_⟩)
  rw [show (rI h1 0 ((nI (i + 1)).toNatClampNeg) : Int32) = xs (i + 1) from by rw [nI_clamp (by omega), ic1.1.2.1]]
  refine exf_go 4 (show Go (d + 150) true 0 1307 [.ref 0, .ref 10, .ref 130, .int (nI i)] [.int ((nI i) + 2), .ref 0, .int (xs (i + 1)), .ref 130, .long ((dWrite (zr s) (xs (i + 1)) (xs (i + 2)) ((((xs (i + 3)).toInt64) <<< ((32 : Int32).toInt64 &&& 63)) ||| (((xs (i + 4)).toInt64) &&& 4294967295))).2)] h1 Q from ?_)
  rw [show ((nI i) + 2 : Int32) = nI (i + 2) from nI_add i 2]
  refine exf_go 1 (show vp_in (nI (i + 2)) (al h1 0) ∧ (Go (d + 150) true 0 1308 [.ref 0, .ref 10, .ref 130, .int (nI i)] [.int (rI h1 0 ((nI (i + 2)).toNatClampNeg)), .int (xs (i + 1)), .ref 130, .long ((dWrite (zr s) (xs (i + 1)) (xs (i + 2)) ((((xs (i + 3)).toInt64) <<< ((32 : Int32).toInt64 &&& 63)) ||| (((xs (i + 4)).toInt64) &&& 4294967295))).2)] h1 Q) from ⟨(show vp_in (nI (i + 2)) (rL h1 0) from by rw [ic1.1.2.2]; exact vp_in_nI (by omega) (by omega)), ?_⟩)
  rw [show (rI h1 0 ((nI (i + 2)).toNatClampNeg) : Int32) = xs (i + 2) from by rw [nI_clamp (by omega), ic1.1.2.1]]
  refine exf_go 4 (show Go (d + 150) true 0 1312 [.ref 0, .ref 10, .ref 130, .int (nI i)] [.int ((nI i) + 3), .ref 0, .int (xs (i + 2)), .int (xs (i + 1)), .ref 130, .long ((dWrite (zr s) (xs (i + 1)) (xs (i + 2)) ((((xs (i + 3)).toInt64) <<< ((32 : Int32).toInt64 &&& 63)) ||| (((xs (i + 4)).toInt64) &&& 4294967295))).2)] h1 Q from ?_)
  rw [show ((nI i) + 3 : Int32) = nI (i + 3) from nI_add i 3]
  refine exf_go 1 (show vp_in (nI (i + 3)) (al h1 0) ∧ (Go (d + 150) true 0 1313 [.ref 0, .ref 10, .ref 130, .int (nI i)] [.int (rI h1 0 ((nI (i + 3)).toNatClampNeg)), .int (xs (i + 2)), .int (xs (i + 1)), .ref 130, .long ((dWrite (zr s) (xs (i + 1)) (xs (i + 2)) ((((xs (i + 3)).toInt64) <<< ((32 : Int32).toInt64 &&& 63)) ||| (((xs (i + 4)).toInt64) &&& 4294967295))).2)] h1 Q) from ⟨(show vp_in (nI (i + 3)) (rL h1 0) from by rw [ic1.1.2.2]; exact vp_in_nI (by omega) (by omega)), ?_⟩)
  rw [show (rI h1 0 ((nI (i + 3)).toNatClampNeg) : Int32) = xs (i + 3) from by rw [nI_clamp (by omega), ic1.1.2.1]]
  refine exf_go 7 (show Go (d + 150) true 0 1321 [.ref 0, .ref 10, .ref 130, .int (nI i)] [.int ((nI i) + 4), .ref 0, .long (((xs (i + 3)).toInt64) <<< ((32 : Int32).toInt64 &&& 63)), .int (xs (i + 2)), .int (xs (i + 1)), .ref 130, .long ((dWrite (zr s) (xs (i + 1)) (xs (i + 2)) ((((xs (i + 3)).toInt64) <<< ((32 : Int32).toInt64 &&& 63)) ||| (((xs (i + 4)).toInt64) &&& 4294967295))).2)] h1 Q from ?_)
  rw [show ((nI i) + 4 : Int32) = nI (i + 4) from nI_add i 4]
  refine exf_go 1 (show vp_in (nI (i + 4)) (al h1 0) ∧ (Go (d + 150) true 0 1322 [.ref 0, .ref 10, .ref 130, .int (nI i)] [.int (rI h1 0 ((nI (i + 4)).toNatClampNeg)), .long (((xs (i + 3)).toInt64) <<< ((32 : Int32).toInt64 &&& 63)), .int (xs (i + 2)), .int (xs (i + 1)), .ref 130, .long ((dWrite (zr s) (xs (i + 1)) (xs (i + 2)) ((((xs (i + 3)).toInt64) <<< ((32 : Int32).toInt64 &&& 63)) ||| (((xs (i + 4)).toInt64) &&& 4294967295))).2)] h1 Q) from ⟨(show vp_in (nI (i + 4)) (rL h1 0) from by rw [ic1.1.2.2]; exact vp_in_nI (by omega) (by omega)), ?_⟩)
  rw [show (rI h1 0 ((nI (i + 4)).toNatClampNeg) : Int32) = xs (i + 4) from by rw [nI_clamp (by omega), ic1.1.2.1]]
  refine exf_go 5 (show wpC (d + 150) true 294 [.ref 130, .int (xs (i + 1)), .int (xs (i + 2)), .long ((((xs (i + 3)).toInt64) <<< ((32 : Int32).toInt64 &&& 63)) ||| (((xs (i + 4)).toInt64) &&& 4294967295))] h1 (fun r h' => Go (d + 150) true 0 1331 [.ref 0, .ref 10, .ref 130, .int (nI i)] [r, .long ((dWrite (zr s) (xs (i + 1)) (xs (i + 2)) ((((xs (i + 3)).toInt64) <<< ((32 : Int32).toInt64 &&& 63)) ||| (((xs (i + 4)).toInt64) &&& 4294967295))).2)] h' Q) from ?_)
  refine m_write (tr := zr s) im1.2.1 (fun h2 q2 ma2 => ?_)
  have im2 := im_Mt im1 q2 ma2; have ic2 := ic_cq ic1 (cq_f q2 (fun a i ha => fz_Mt ha)); have sb2 : SB (zg s, ze s, (dWrite (zr s) (xs (i + 1)) (xs (i + 2)) ((((xs (i + 3)).toInt64) <<< ((32 : Int32).toInt64 &&& 63)) ||| (((xs (i + 4)).toInt64) &&& 4294967295))).1, s.2.2.2) := ⟨sb.1, sb.2⟩
  show Go (d + 150) true 0 1331 [.ref 0, .ref 10, .ref 130, .int (nI i)] [.long ((dWrite (zr s) (xs (i + 1)) (xs (i + 2)) ((((xs (i + 3)).toInt64) <<< ((32 : Int32).toInt64 &&& 63)) ||| (((xs (i + 4)).toInt64) &&& 4294967295))).2), .long ((dWrite (zr s) (xs (i + 1)) (xs (i + 2)) ((((xs (i + 3)).toInt64) <<< ((32 : Int32).toInt64 &&& 63)) ||| (((xs (i + 4)).toInt64) &&& 4294967295))).2)] h2 Q
  refine exf_go 2 (show ((lg_cmp ((dWrite (zr s) (xs (i + 1)) (xs (i + 2)) ((((xs (i + 3)).toInt64) <<< ((32 : Int32).toInt64 &&& 63)) ||| (((xs (i + 4)).toInt64) &&& 4294967295))).2) ((dWrite (zr s) (xs (i + 1)) (xs (i + 2)) ((((xs (i + 3)).toInt64) <<< ((32 : Int32).toInt64 &&& 63)) ||| (((xs (i + 4)).toInt64) &&& 4294967295))).2)) = 0 → Go (d + 150) true 0 1429 [.ref 0, .ref 10, .ref 130, .int (nI i)] [] h2 Q) ∧ (¬ ((lg_cmp ((dWrite (zr s) (xs (i + 1)) (xs (i + 2)) ((((xs (i + 3)).toInt64) <<< ((32 : Int32).toInt64 &&& 63)) ||| (((xs (i + 4)).toInt64) &&& 4294967295))).2) ((dWrite (zr s) (xs (i + 1)) (xs (i + 2)) ((((xs (i + 3)).toInt64) <<< ((32 : Int32).toInt64 &&& 63)) ||| (((xs (i + 4)).toInt64) &&& 4294967295))).2)) = 0) → Go (d + 150) true 0 1335 [.ref 0, .ref 10, .ref 130, .int (nI i)] [] h2 Q) from ⟨fun c1 => ?_, fun c1 => ?_⟩)
  · skip
    have c1 : ((dWrite (zr s) (xs (i + 1)) (xs (i + 2)) ((((xs (i + 3)).toInt64) <<< ((32 : Int32).toInt64 &&& 63)) ||| (((xs (i + 4)).toInt64) &&& 4294967295))).2) = ((dWrite (zr s) (xs (i + 1)) (xs (i + 2)) ((((xs (i + 3)).toInt64) <<< ((32 : Int32).toInt64 &&& 63)) ||| (((xs (i + 4)).toInt64) &&& 4294967295))).2) := (lg_cmp_eq _ _).mp c1
    exact k _ h2 ic2 im2 sb2
  · skip
    have c1 : ¬ (((dWrite (zr s) (xs (i + 1)) (xs (i + 2)) ((((xs (i + 3)).toInt64) <<< ((32 : Int32).toInt64 &&& 63)) ||| (((xs (i + 4)).toInt64) &&& 4294967295))).2) = ((dWrite (zr s) (xs (i + 1)) (xs (i + 2)) ((((xs (i + 3)).toInt64) <<< ((32 : Int32).toInt64 &&& 63)) ||| (((xs (i + 4)).toInt64) &&& 4294967295))).2)) := fun q => c1 ((lg_cmp_eq _ _).mpr q)
    exact absurd rfl c1
theorem lw_copy {d : Nat} {h : Hp} {xs : Nat → Int32} {L i : Nat} {s : LwG} {Q : Po} (hL : L ≤ 3072) (hi : i + 6 ≤ L) (ic : IC xs L s h) (im : IMo s h) (sb : SB s) (k : ∀ s2 h2, IC xs L s2 h2 → IMo s2 h2 → SB s2 → Go (d + 150) true 0 1429 [.ref 0, .ref 10, .ref 130, .int (nI i)] [] h2 Q) : Go (d + 150) true 0 1337 [.ref 0, .ref 10, .ref 130, .int (nI i)] [] h Q := by
  refine exf_go 5 (show Go (d + 150) true 0 1342 [.ref 0, .ref 10, .ref 130, .int (nI i)] [.int ((nI i) + 1), .ref 0, .ref 10] h Q from ?_)
  rw [show ((nI i) + 1 : Int32) = nI (i + 1) from nI_add i 1]
  refine exf_go 1 (show vp_in (nI (i + 1)) (al h 0) ∧ (Go (d + 150) true 0 1343 [.ref 0, .ref 10, .ref 130, .int (nI i)] [.int (rI h 0 ((nI (i + 1)).toNatClampNeg)), .ref 10] h Q) from ⟨(show vp_in (nI (i + 1)) (rL h 0) from by rw [ic.1.2.2]; exact vp_in_nI (by omega) (by omega)), ?_⟩)
  rw [show (rI h 0 ((nI (i + 1)).toNatClampNeg) : Int32) = xs (i + 1) from by rw [nI_clamp (by omega), ic.1.2.1]]
  refine exf_go 1 (show wpC (d + 150) true 151 [.ref 10, .int (xs (i + 1))] h (fun r h' => Go (d + 150) true 0 1346 [.ref 0, .ref 10, .ref 130, .int (nI i)] [r] h' Q) from ?_)
  refine c_copy ic.1.1 ic.2.1 ic.2.2.1.1 ic.2.2.2.1 (fun h1 q1 ca1 => ?_)
  have ic1 := ic_T ic q1 ca1; have im1 := im_mq im (mq_g q1 (fun a i ha => fz_cp (by omega) (by omega)))
  show Go (d + 150) true 0 1346 [.ref 0, .ref 10, .ref 130, .int (nI i)] [.int ((dCopy (zg s) (ze s).1 (zr s) (xs (i + 1))).2)] h1 Q
  refine exf_go 5 (show Go (d + 150) true 0 1351 [.ref 0, .ref 10, .ref 130, .int (nI i)] [.int ((nI i) + 1), .ref 0, .ref 130, .int ((dCopy (zg s) (ze s).1 (zr s) (xs (i + 1))).2)] h1 Q from ?_)
  rw [show ((nI i) + 1 : Int32) = nI (i + 1) from nI_add i 1]
  refine exf_go 1 (show vp_in (nI (i + 1)) (al h1 0) ∧ (Go (d + 150) true 0 1352 [.ref 0, .ref 10, .ref 130, .int (nI i)] [.int (rI h1 0 ((nI (i + 1)).toNatClampNeg)), .ref 130, .int ((dCopy (zg s) (ze s).1 (zr s) (xs (i + 1))).2)] h1 Q) from ⟨(show vp_in (nI (i + 1)) (rL h1 0) from by rw [ic1.1.2.2]; exact vp_in_nI (by omega) (by omega)), ?_⟩)
  rw [show (rI h1 0 ((nI (i + 1)).toNatClampNeg) : Int32) = xs (i + 1) from by rw [nI_clamp (by omega), ic1.1.2.1]]
  refine exf_go 1 (show wpC (d + 150) true 295 [.ref 130, .int (xs (i + 1))] h1 (fun r h' => Go (d + 150) true 0 1355 [.ref 0, .ref 10, .ref 130, .int (nI i)] [r, .int ((dCopy (zg s) (ze s).1 (zr s) (xs (i + 1))).2)] h' Q) from ?_)
  refine m_copy (l := (ze s).1) (tr := zr s) im1.1.1 im1.2.1 (fun h2 q2 ma2 => ?_)
  have im2 := im_Mt im1 q2 ma2; have ic2 := ic_cq ic1 (cq_f q2 (fun a i ha => fz_Mt ha)); have sb2 : SB (zg s, ze s, (dCopy (zg s) (ze s).1 (zr s) (xs (i + 1))).1, s.2.2.2) := ⟨sb.1, sb.2⟩
  show Go (d + 150) true 0 1355 [.ref 0, .ref 10, .ref 130, .int (nI i)] [.int ((dCopy (zg s) (ze s).1 (zr s) (xs (i + 1))).2), .int ((dCopy (zg s) (ze s).1 (zr s) (xs (i + 1))).2)] h2 Q
  refine exf_go 1 (show (((dCopy (zg s) (ze s).1 (zr s) (xs (i + 1))).2) = ((dCopy (zg s) (ze s).1 (zr s) (xs (i + 1))).2) → Go (d + 150) true 0 1429 [.ref 0, .ref 10, .ref 130, .int (nI i)] [] h2 Q) ∧ (¬ (((dCopy (zg s) (ze s).1 (zr s) (xs (i + 1))).2) = ((dCopy (zg s) (ze s).1 (zr s) (xs (i + 1))).2)) → Go (d + 150) true 0 1358 [.ref 0, .ref 10, .ref 130, .int (nI i)] [] h2 Q) from ⟨fun c1 => ?_, fun c1 => ?_⟩)
  · skip
    exact k _ h2 ic2 im2 sb2
  · skip
    exact absurd rfl c1
theorem lw_restore {d : Nat} {h : Hp} {xs : Nat → Int32} {L i : Nat} {s : LwG} {Q : Po} (hL : L ≤ 3072) (hi : i + 6 ≤ L) (ic : IC xs L s h) (im : IMo s h) (sb : SB s) (k : ∀ s2 h2, IC xs L s2 h2 → IMo s2 h2 → SB s2 → Go (d + 150) true 0 1429 [.ref 0, .ref 10, .ref 130, .int (nI i)] [] h2 Q) : Go (d + 150) true 0 1383 [.ref 0, .ref 10, .ref 130, .int (nI i)] [] h Q := by
  refine exf_go 5 (show Go (d + 150) true 0 1388 [.ref 0, .ref 10, .ref 130, .int (nI i)] [.int ((nI i) + 1), .ref 0, .ref 10] h Q from ?_)
  rw [show ((nI i) + 1 : Int32) = nI (i + 1) from nI_add i 1]
  refine exf_go 1 (show vp_in (nI (i + 1)) (al h 0) ∧ (Go (d + 150) true 0 1389 [.ref 0, .ref 10, .ref 130, .int (nI i)] [.int (rI h 0 ((nI (i + 1)).toNatClampNeg)), .ref 10] h Q) from ⟨(show vp_in (nI (i + 1)) (rL h 0) from by rw [ic.1.2.2]; exact vp_in_nI (by omega) (by omega)), ?_⟩)
  rw [show (rI h 0 ((nI (i + 1)).toNatClampNeg) : Int32) = xs (i + 1) from by rw [nI_clamp (by omega), ic.1.2.1]]
  refine exf_go 1 (show wpC (d + 150) true 153 [.ref 10, .int (xs (i + 1))] h (fun r h' => Go (d + 150) true 0 1392 [.ref 0, .ref 10, .ref 130, .int (nI i)] [r] h' Q) from ?_)
  refine c_restore ic.1.1 ic.2.1 ic.2.2.1 ic.2.2.2.2.2.1 (fun h1 q1 cs1 cd1 => ?_)
  have ic1 := ic_Rs ic q1 cs1 cd1; have im1 := im_mq im (mq_g q1 (fun a i ha => fz_Rs (by omega) (by omega)))
  show Go (d + 150) true 0 1392 [.ref 0, .ref 10, .ref 130, .int (nI i)] [.int ((dRest (zm s) (xs (i + 1)) (zg s) (ze s)).2)] h1 Q
  refine exf_go 5 (show Go (d + 150) true 0 1397 [.ref 0, .ref 10, .ref 130, .int (nI i)] [.int ((nI i) + 1), .ref 0, .ref 130, .int ((dRest (zm s) (xs (i + 1)) (zg s) (ze s)).2)] h1 Q from ?_)
  rw [show ((nI i) + 1 : Int32) = nI (i + 1) from nI_add i 1]
  refine exf_go 1 (show vp_in (nI (i + 1)) (al h1 0) ∧ (Go (d + 150) true 0 1398 [.ref 0, .ref 10, .ref 130, .int (nI i)] [.int (rI h1 0 ((nI (i + 1)).toNatClampNeg)), .ref 130, .int ((dRest (zm s) (xs (i + 1)) (zg s) (ze s)).2)] h1 Q) from ⟨(show vp_in (nI (i + 1)) (rL h1 0) from by rw [ic1.1.2.2]; exact vp_in_nI (by omega) (by omega)), ?_⟩)
  rw [show (rI h1 0 ((nI (i + 1)).toNatClampNeg) : Int32) = xs (i + 1) from by rw [nI_clamp (by omega), ic1.1.2.1]]
  refine exf_go 1 (show wpC (d + 150) true 297 [.ref 130, .int (xs (i + 1))] h1 (fun r h' => Go (d + 150) true 0 1401 [.ref 0, .ref 10, .ref 130, .int (nI i)] [r, .int ((dRest (zm s) (xs (i + 1)) (zg s) (ze s)).2)] h' Q) from ?_)
  refine m_restore (g := zg s) (e := ze s) (m := zm s) im1.1 im1.2.2.2.1 (fun h2 q2 md2 => ?_)
  have im2 := im_Rm im1 q2 md2; have ic2 := ic_cq ic1 (cq_f q2 (fun a i ha => fz_Rm ha))
  have sbx := sb_rest (show SB2 (zg s) (ze s) from ⟨sb.1, sb.2.1⟩) sb.2.2 (xs (i + 1))
  have sb2 : SB ((dRest (zm s) (xs (i + 1)) (zg s) (ze s)).1.1, (dRest (zm s) (xs (i + 1)) (zg s) (ze s)).1.2, s.2.2) := ⟨sbx.1, sbx.2, sb.2.2⟩
  show Go (d + 150) true 0 1401 [.ref 0, .ref 10, .ref 130, .int (nI i)] [.int ((dRest (zm s) (xs (i + 1)) (zg s) (ze s)).2), .int ((dRest (zm s) (xs (i + 1)) (zg s) (ze s)).2)] h2 Q
  refine exf_go 1 (show (((dRest (zm s) (xs (i + 1)) (zg s) (ze s)).2) = ((dRest (zm s) (xs (i + 1)) (zg s) (ze s)).2) → Go (d + 150) true 0 1429 [.ref 0, .ref 10, .ref 130, .int (nI i)] [] h2 Q) ∧ (¬ (((dRest (zm s) (xs (i + 1)) (zg s) (ze s)).2) = ((dRest (zm s) (xs (i + 1)) (zg s) (ze s)).2)) → Go (d + 150) true 0 1404 [.ref 0, .ref 10, .ref 130, .int (nI i)] [] h2 Q) from ⟨fun c1 => ?_, fun c1 => ?_⟩)
  · skip
    exact k _ h2 ic2 im2 sb2
  · skip
    exact absurd rfl c1
theorem lw_count {d : Nat} {h : Hp} {xs : Nat → Int32} {L i : Nat} {s : LwG} {Q : Po} (hL : L ≤ 3072) (hi : i + 6 ≤ L) (ic : IC xs L s h) (im : IMo s h) (sb : SB s) (k : ∀ s2 h2, IC xs L s2 h2 → IMo s2 h2 → SB s2 → Go (d + 150) true 0 1429 [.ref 0, .ref 10, .ref 130, .int (nI i)] [] h2 Q) : Go (d + 150) true 0 1406 [.ref 0, .ref 10, .ref 130, .int (nI i)] [] h Q := by
  refine exf_go 5 (show Go (d + 150) true 0 1411 [.ref 0, .ref 10, .ref 130, .int (nI i)] [.int ((nI i) + 1), .ref 0, .ref 10] h Q from ?_)
  rw [show ((nI i) + 1 : Int32) = nI (i + 1) from nI_add i 1]
  refine exf_go 1 (show vp_in (nI (i + 1)) (al h 0) ∧ (Go (d + 150) true 0 1412 [.ref 0, .ref 10, .ref 130, .int (nI i)] [.int (rI h 0 ((nI (i + 1)).toNatClampNeg)), .ref 10] h Q) from ⟨(show vp_in (nI (i + 1)) (rL h 0) from by rw [ic.1.2.2]; exact vp_in_nI (by omega) (by omega)), ?_⟩)
  rw [show (rI h 0 ((nI (i + 1)).toNatClampNeg) : Int32) = xs (i + 1) from by rw [nI_clamp (by omega), ic.1.2.1]]
  refine exf_go 1 (show wpC (d + 150) true 154 [.ref 10, .int (xs (i + 1))] h (fun r h' => Go (d + 150) true 0 1415 [.ref 0, .ref 10, .ref 130, .int (nI i)] [r] h' Q) from ?_)
  obtain ⟨iP, hP1, hP2, hP3, hP4, hP5⟩ := ic.2.2.1.2
  refine c_count ic.2.1 ic.2.2.1.1 hP4 ic.2.2.2.2.1.2.1 ?_
  have ic1 := ic; have im1 := im
  show Go (d + 150) true 0 1415 [.ref 0, .ref 10, .ref 130, .int (nI i)] [.int (fCount (zg s) (ze s).1 (ze s).2.1 (zt s).1 (xs (i + 1)))] h Q
  refine exf_go 5 (show Go (d + 150) true 0 1420 [.ref 0, .ref 10, .ref 130, .int (nI i)] [.int ((nI i) + 1), .ref 0, .ref 130, .int (fCount (zg s) (ze s).1 (ze s).2.1 (zt s).1 (xs (i + 1)))] h Q from ?_)
  rw [show ((nI i) + 1 : Int32) = nI (i + 1) from nI_add i 1]
  refine exf_go 1 (show vp_in (nI (i + 1)) (al h 0) ∧ (Go (d + 150) true 0 1421 [.ref 0, .ref 10, .ref 130, .int (nI i)] [.int (rI h 0 ((nI (i + 1)).toNatClampNeg)), .ref 130, .int (fCount (zg s) (ze s).1 (ze s).2.1 (zt s).1 (xs (i + 1)))] h Q) from ⟨(show vp_in (nI (i + 1)) (rL h 0) from by rw [ic.1.2.2]; exact vp_in_nI (by omega) (by omega)), ?_⟩)
  rw [show (rI h 0 ((nI (i + 1)).toNatClampNeg) : Int32) = xs (i + 1) from by rw [nI_clamp (by omega), ic.1.2.1]]
  refine exf_go 1 (show wpC (d + 150) true 299 [.ref 130, .int (xs (i + 1))] h (fun r h' => Go (d + 150) true 0 1424 [.ref 0, .ref 10, .ref 130, .int (nI i)] [r, .int (fCount (zg s) (ze s).1 (ze s).2.1 (zt s).1 (xs (i + 1)))] h' Q) from ?_)
  refine m_count im1.1.1 im1.1.2.1 im1.2.2.1.2.1 (fun h2 q2 => ?_)
  have im2 := im_M im1 q2; have ic2 := ic_cq ic1 (cq_f q2 (fun a i ha => fz_M ha)); have sb2 := sb
  show Go (d + 150) true 0 1424 [.ref 0, .ref 10, .ref 130, .int (nI i)] [.int (fCount (zg s) (ze s).1 (ze s).2.1 (zt s).1 (xs (i + 1))), .int (fCount (zg s) (ze s).1 (ze s).2.1 (zt s).1 (xs (i + 1)))] h2 Q
  refine exf_go 1 (show ((fCount (zg s) (ze s).1 (ze s).2.1 (zt s).1 (xs (i + 1))) = (fCount (zg s) (ze s).1 (ze s).2.1 (zt s).1 (xs (i + 1))) → Go (d + 150) true 0 1429 [.ref 0, .ref 10, .ref 130, .int (nI i)] [] h2 Q) ∧ (¬ ((fCount (zg s) (ze s).1 (ze s).2.1 (zt s).1 (xs (i + 1))) = (fCount (zg s) (ze s).1 (ze s).2.1 (zt s).1 (xs (i + 1)))) → Go (d + 150) true 0 1427 [.ref 0, .ref 10, .ref 130, .int (nI i)] [] h2 Q) from ⟨fun c1 => ?_, fun c1 => ?_⟩)
  · skip
    exact k _ h2 ic2 im2 sb2
  · skip
    exact absurd rfl c1
theorem lw_image {d : Nat} {h : Hp} {xs : Nat → Int32} {L i : Nat} {s : LwG} {Q : Po} (hL : L ≤ 3072) (hi : i + 6 ≤ L) (ic : IC xs L s h) (im : IMo s h) (sb : SB s) (k : ∀ s2 h2, IC xs L s2 h2 → IMo s2 h2 → SB s2 → Go (d + 150) true 0 1429 [.ref 0, .ref 10, .ref 130, .int (nI i)] [] h2 Q) : Go (d + 150) true 0 1360 [.ref 0, .ref 10, .ref 130, .int (nI i)] [] h Q := by
  refine exf_go 5 (show Go (d + 150) true 0 1365 [.ref 0, .ref 10, .ref 130, .int (nI i)] [.int ((nI i) + 1), .ref 0, .ref 10] h Q from ?_)
  rw [show ((nI i) + 1 : Int32) = nI (i + 1) from nI_add i 1]
  refine exf_go 1 (show vp_in (nI (i + 1)) (al h 0) ∧ (Go (d + 150) true 0 1366 [.ref 0, .ref 10, .ref 130, .int (nI i)] [.int (rI h 0 ((nI (i + 1)).toNatClampNeg)), .ref 10] h Q) from ⟨(show vp_in (nI (i + 1)) (rL h 0) from by rw [ic.1.2.2]; exact vp_in_nI (by omega) (by omega)), ?_⟩)
  rw [show (rI h 0 ((nI (i + 1)).toNatClampNeg) : Int32) = xs (i + 1) from by rw [nI_clamp (by omega), ic.1.2.1]]
  refine exf_go 1 (show wpC (d + 150) true 152 [.ref 10, .int (xs (i + 1))] h (fun r h' => Go (d + 150) true 0 1369 [.ref 0, .ref 10, .ref 130, .int (nI i)] [r] h' Q) from ?_)
  refine c_image ic.1.1 ic.2.1 ic.2.2.1.1 ic.2.2.2.2.2.1 (fun hx => ?_) (fun j hx hj h1 q1 ci1 => ?_)
  · skip
    have eI : dImage (zm s) (xs (i + 1)) (zg s) (ze s).1 = (zm s, -2) := by unfold dImage; rw [hx]
    have ic1 : IC xs L (zg s, ze s, zr s, zt s, (dImage (zm s) (xs (i + 1)) (zg s) (ze s).1).1, s.2.2.2.2.2) h := by rw [eI]; exact ic
    have im1 := im
    have hvI : (-2 : Int32) = (dImage (zm s) (xs (i + 1)) (zg s) (ze s).1).2 := by rw [eI]
    show Go (d + 150) true 0 1369 [.ref 0, .ref 10, .ref 130, .int (nI i)] [.int (-2)] h Q
    refine exf_go 5 (show Go (d + 150) true 0 1374 [.ref 0, .ref 10, .ref 130, .int (nI i)] [.int ((nI i) + 1), .ref 0, .ref 130, .int (-2)] h Q from ?_)
    rw [show ((nI i) + 1 : Int32) = nI (i + 1) from nI_add i 1]
    refine exf_go 1 (show vp_in (nI (i + 1)) (al h 0) ∧ (Go (d + 150) true 0 1375 [.ref 0, .ref 10, .ref 130, .int (nI i)] [.int (rI h 0 ((nI (i + 1)).toNatClampNeg)), .ref 130, .int (-2)] h Q) from ⟨(show vp_in (nI (i + 1)) (rL h 0) from by rw [ic.1.2.2]; exact vp_in_nI (by omega) (by omega)), ?_⟩)
    rw [show (rI h 0 ((nI (i + 1)).toNatClampNeg) : Int32) = xs (i + 1) from by rw [nI_clamp (by omega), ic.1.2.1]]
    refine exf_go 1 (show wpC (d + 150) true 296 [.ref 130, .int (xs (i + 1))] h (fun r h' => Go (d + 150) true 0 1378 [.ref 0, .ref 10, .ref 130, .int (nI i)] [r, .int (-2)] h' Q) from ?_)
    refine m_image (g := zg s) (e := ze s) (m := zm s) im1.1 im1.2.2.2.1 (fun h2 q2 md2 mi2 => ?_)
    have im2 := im_Im im1 q2 md2 mi2; have ic2 := ic_cq ic1 (cq_f q2 (fun a i ha => fz_Im ha))
    have sb2 : SB (zg s, ze s, zr s, zt s, (dImage (zm s) (xs (i + 1)) (zg s) (ze s).1).1, s.2.2.2.2.2) := ⟨sb.1, sb.2.1, sb_img sb.1 sb.2.2 (xs (i + 1))⟩
    show Go (d + 150) true 0 1378 [.ref 0, .ref 10, .ref 130, .int (nI i)] [.int ((dImage (zm s) (xs (i + 1)) (zg s) (ze s).1).2), .int (-2)] h2 Q
    refine exf_go 1 (show ((-2) = ((dImage (zm s) (xs (i + 1)) (zg s) (ze s).1).2) → Go (d + 150) true 0 1429 [.ref 0, .ref 10, .ref 130, .int (nI i)] [] h2 Q) ∧ (¬ ((-2) = ((dImage (zm s) (xs (i + 1)) (zg s) (ze s).1).2)) → Go (d + 150) true 0 1381 [.ref 0, .ref 10, .ref 130, .int (nI i)] [] h2 Q) from ⟨fun c1 => ?_, fun c1 => ?_⟩)
    · skip
      exact k _ h2 ic2 im2 sb2
    · skip
      exact absurd hvI c1
  · skip
    have eI : dImage (zm s) (xs (i + 1)) (zg s) (ze s).1 = (va_up (zm s) j (some (zg s, (ze s).1)), 0) := by unfold dImage; rw [hx]
    have ic1 : IC xs L (zg s, ze s, zr s, zt s, (dImage (zm s) (xs (i + 1)) (zg s) (ze s).1).1, s.2.2.2.2.2) h1 := by rw [eI]; exact ic_Iq ic hj q1 ci1
    have im1 := im_mq im (mq_I hj q1)
    have hvI : (0 : Int32) = (dImage (zm s) (xs (i + 1)) (zg s) (ze s).1).2 := by rw [eI]
    show Go (d + 150) true 0 1369 [.ref 0, .ref 10, .ref 130, .int (nI i)] [.int 0] h1 Q
    refine exf_go 5 (show Go (d + 150) true 0 1374 [.ref 0, .ref 10, .ref 130, .int (nI i)] [.int ((nI i) + 1), .ref 0, .ref 130, .int 0] h1 Q from ?_)
    rw [show ((nI i) + 1 : Int32) = nI (i + 1) from nI_add i 1]
    refine exf_go 1 (show vp_in (nI (i + 1)) (al h1 0) ∧ (Go (d + 150) true 0 1375 [.ref 0, .ref 10, .ref 130, .int (nI i)] [.int (rI h1 0 ((nI (i + 1)).toNatClampNeg)), .ref 130, .int 0] h1 Q) from ⟨(show vp_in (nI (i + 1)) (rL h1 0) from by rw [ic1.1.2.2]; exact vp_in_nI (by omega) (by omega)), ?_⟩)
    rw [show (rI h1 0 ((nI (i + 1)).toNatClampNeg) : Int32) = xs (i + 1) from by rw [nI_clamp (by omega), ic1.1.2.1]]
    refine exf_go 1 (show wpC (d + 150) true 296 [.ref 130, .int (xs (i + 1))] h1 (fun r h' => Go (d + 150) true 0 1378 [.ref 0, .ref 10, .ref 130, .int (nI i)] [r, .int 0] h' Q) from ?_)
    refine m_image (g := zg s) (e := ze s) (m := zm s) im1.1 im1.2.2.2.1 (fun h2 q2 md2 mi2 => ?_)
    have im2 := im_Im im1 q2 md2 mi2; have ic2 := ic_cq ic1 (cq_f q2 (fun a i ha => fz_Im ha))
    have sb2 : SB (zg s, ze s, zr s, zt s, (dImage (zm s) (xs (i + 1)) (zg s) (ze s).1).1, s.2.2.2.2.2) := ⟨sb.1, sb.2.1, sb_img sb.1 sb.2.2 (xs (i + 1))⟩
    show Go (d + 150) true 0 1378 [.ref 0, .ref 10, .ref 130, .int (nI i)] [.int ((dImage (zm s) (xs (i + 1)) (zg s) (ze s).1).2), .int 0] h2 Q
    refine exf_go 1 (show (0 = ((dImage (zm s) (xs (i + 1)) (zg s) (ze s).1).2) → Go (d + 150) true 0 1429 [.ref 0, .ref 10, .ref 130, .int (nI i)] [] h2 Q) ∧ (¬ (0 = ((dImage (zm s) (xs (i + 1)) (zg s) (ze s).1).2)) → Go (d + 150) true 0 1381 [.ref 0, .ref 10, .ref 130, .int (nI i)] [] h2 Q) from ⟨fun c2 => ?_, fun c2 => ?_⟩)
    · skip
      exact k _ h2 ic2 im2 sb2
    · skip
      exact absurd hvI c2
theorem lw_shedX {d : Nat} {h : Hp} {xs : Nat → Int32} {L i : Nat} {s : LwG} {Q : Po} (hL : L ≤ 3072) (hi : i + 6 ≤ L) (ic : IC xs L s h) (im : IMo s h) (sb : SB s) (k : ∀ s2 h2, IC xs L s2 h2 → IMo s2 h2 → SB s2 → Go (d + 150) true 0 1429 [.ref 0, .ref 10, .ref 130, .int (nI i)] [] h2 Q) (hx : ixN (xs (i + 1)) ((zt s).1 + 1) = none) : Go (d + 150) true 0 283 [.ref 0, .ref 10, .ref 130, .int (nI i)] [] h Q := by
  refine exf_go 5 (show Go (d + 150) true 0 288 [.ref 0, .ref 10, .ref 130, .int (nI i)] [.int ((nI i) + 1), .ref 0, .ref 10] h Q from ?_)
  rw [show ((nI i) + 1 : Int32) = nI (i + 1) from nI_add i 1]
  refine exf_go 1 (show vp_in (nI (i + 1)) (al h 0) ∧ (Go (d + 150) true 0 289 [.ref 0, .ref 10, .ref 130, .int (nI i)] [.int (rI h 0 ((nI (i + 1)).toNatClampNeg)), .ref 10] h Q) from ⟨(show vp_in (nI (i + 1)) (rL h 0) from by rw [ic.1.2.2]; exact vp_in_nI (by omega) (by omega)), ?_⟩)
  rw [show (rI h 0 ((nI (i + 1)).toNatClampNeg) : Int32) = xs (i + 1) from by rw [nI_clamp (by omega), ic.1.2.1]]
  refine exf_go 1 (show wpC (d + 150) true 113 [.ref 10, .int (xs (i + 1))] h (fun r h' => Go (d + 150) true 0 292 [.ref 0, .ref 10, .ref 130, .int (nI i)] [r] h' Q) from ?_)
  refine c_shedX ic.2.2.2.2.1 hx ?_
  have ic1 := ic; have im1 := im
  show Go (d + 150) true 0 292 [.ref 0, .ref 10, .ref 130, .int (nI i)] [.int (-3)] h Q
  refine exf_go 5 (show Go (d + 150) true 0 297 [.ref 0, .ref 10, .ref 130, .int (nI i)] [.int ((nI i) + 1), .ref 0, .ref 130, .int (-3)] h Q from ?_)
  rw [show ((nI i) + 1 : Int32) = nI (i + 1) from nI_add i 1]
  refine exf_go 1 (show vp_in (nI (i + 1)) (al h 0) ∧ (Go (d + 150) true 0 298 [.ref 0, .ref 10, .ref 130, .int (nI i)] [.int (rI h 0 ((nI (i + 1)).toNatClampNeg)), .ref 130, .int (-3)] h Q) from ⟨(show vp_in (nI (i + 1)) (rL h 0) from by rw [ic.1.2.2]; exact vp_in_nI (by omega) (by omega)), ?_⟩)
  rw [show (rI h 0 ((nI (i + 1)).toNatClampNeg) : Int32) = xs (i + 1) from by rw [nI_clamp (by omega), ic.1.2.1]]
  refine exf_go 1 (show wpC (d + 150) true 216 [.ref 130, .int (xs (i + 1))] h (fun r h' => Go (d + 150) true 0 301 [.ref 0, .ref 10, .ref 130, .int (nI i)] [r, .int (-3)] h' Q) from ?_)
  refine m_shedX im1.2.2.1 hx (fun h2 q2 => ?_)
  have im2 := im_M im1 q2; have ic2 := ic_cq ic1 (cq_f q2 (fun a i ha => fz_M ha)); have sb2 := sb
  show Go (d + 150) true 0 301 [.ref 0, .ref 10, .ref 130, .int (nI i)] [.int (-3), .int (-3)] h2 Q
  refine exf_go 1 (show (((-3) : Int32) = (-3) → Go (d + 150) true 0 1429 [.ref 0, .ref 10, .ref 130, .int (nI i)] [] h2 Q) ∧ (¬ (((-3) : Int32) = (-3)) → Go (d + 150) true 0 304 [.ref 0, .ref 10, .ref 130, .int (nI i)] [] h2 Q) from ⟨fun c1 => ?_, fun c1 => ?_⟩)
  · skip
    exact k _ h2 ic2 im2 sb2
  · skip
    exact absurd (by decide) c1
theorem lw_shedN {d : Nat} {h : Hp} {xs : Nat → Int32} {L i : Nat} {s : LwG} {Q : Po} (hL : L ≤ 3072) (hi : i + 6 ≤ L) (ic : IC xs L s h) (im : IMo s h) (sb : SB s) (k : ∀ s2 h2, IC xs L s2 h2 → IMo s2 h2 → SB s2 → Go (d + 150) true 0 1429 [.ref 0, .ref 10, .ref 130, .int (nI i)] [] h2 Q) {j : Nat} (hjt : j ≤ (zt s).1) (hxj : xs (i + 1) = nI j) : Go (d + 150) true 0 283 [.ref 0, .ref 10, .ref 130, .int (nI i)] [] h Q := by
  refine exf_go 5 (show Go (d + 150) true 0 288 [.ref 0, .ref 10, .ref 130, .int (nI i)] [.int ((nI i) + 1), .ref 0, .ref 10] h Q from ?_)
  rw [show ((nI i) + 1 : Int32) = nI (i + 1) from nI_add i 1]
  refine exf_go 1 (show vp_in (nI (i + 1)) (al h 0) ∧ (Go (d + 150) true 0 289 [.ref 0, .ref 10, .ref 130, .int (nI i)] [.int (rI h 0 ((nI (i + 1)).toNatClampNeg)), .ref 10] h Q) from ⟨(show vp_in (nI (i + 1)) (rL h 0) from by rw [ic.1.2.2]; exact vp_in_nI (by omega) (by omega)), ?_⟩)
  rw [show (rI h 0 ((nI (i + 1)).toNatClampNeg) : Int32) = xs (i + 1) from by rw [nI_clamp (by omega), ic.1.2.1]]
  refine exf_go 1 (show wpC (d + 150) true 113 [.ref 10, .int (xs (i + 1))] h (fun r h' => Go (d + 150) true 0 292 [.ref 0, .ref 10, .ref 130, .int (nI i)] [r] h' Q) from ?_)
  obtain ⟨iP, hP1, hP2, hP3, hP4, hP5⟩ := ic.2.2.1.2
  rw [hxj]
  refine c_shedN (hl := (ze s).2.2) ic.1.1 ic.2.2.2.2.1 hjt hP1 hP3 (fun hz h1 q1 r10 r0 r1 => ?_) (fun hz h1 q1 r10 cs1 cd1 r0 r1 => ?_)
  · skip
    have ic1 := ic_Sf (p2 := some (qx (ys (rTx (zt s).2 j 900 y00)))) ic q1 r10 r0 r1; have im1 := im_mq (im_mq im (show ModQ h (hN3 h) from fun _ _ => ⟨rfl, rfl⟩)) (mq_g q1 (fun a i ha => fz_Sf (by omega) (by omega)))
    show Go (d + 150) true 0 292 [.ref 0, .ref 10, .ref 130, .int (nI i)] [.int ((-30) - nI (qe (ys (rTx (zt s).2 j 900 y00))))] h1 Q
    refine exf_go 5 (show Go (d + 150) true 0 297 [.ref 0, .ref 10, .ref 130, .int (nI i)] [.int ((nI i) + 1), .ref 0, .ref 130, .int ((-30) - nI (qe (ys (rTx (zt s).2 j 900 y00))))] h1 Q from ?_)
    rw [show ((nI i) + 1 : Int32) = nI (i + 1) from nI_add i 1]
    refine exf_go 1 (show vp_in (nI (i + 1)) (al h1 0) ∧ (Go (d + 150) true 0 298 [.ref 0, .ref 10, .ref 130, .int (nI i)] [.int (rI h1 0 ((nI (i + 1)).toNatClampNeg)), .ref 130, .int ((-30) - nI (qe (ys (rTx (zt s).2 j 900 y00))))] h1 Q) from ⟨(show vp_in (nI (i + 1)) (rL h1 0) from by rw [ic1.1.2.2]; exact vp_in_nI (by omega) (by omega)), ?_⟩)
    rw [show (rI h1 0 ((nI (i + 1)).toNatClampNeg) : Int32) = xs (i + 1) from by rw [nI_clamp (by omega), ic1.1.2.1]]
    refine exf_go 1 (show wpC (d + 150) true 216 [.ref 130, .int (xs (i + 1))] h1 (fun r h' => Go (d + 150) true 0 301 [.ref 0, .ref 10, .ref 130, .int (nI i)] [r, .int ((-30) - nI (qe (ys (rTx (zt s).2 j 900 y00))))] h' Q) from ?_)
    rw [hxj]
    refine m_shedN (hl := (ze s).2.2) im1.2.2.1 hjt (fun _ h2 q2 r5 r13 r14 => ?_) (fun hz2 => absurd hz2 hz)
    have im2 := im_S1 (p2 := some (qx (ys (rTx (zt s).2 j 900 y00)))) im1 q2 r5 r13 r14; have ic2 := ic_cq ic1 (cq_f q2 (fun a i ha => fz_S1 ha))
    have sb2 : SB (zg s, ze s, zr s, (0, (zt s).2), zm s, qe (ys (rTx (zt s).2 j 900 y00)), some (qx (ys (rTx (zt s).2 j 900 y00)))) := ⟨sb.1, sb.2⟩
    show Go (d + 150) true 0 301 [.ref 0, .ref 10, .ref 130, .int (nI i)] [.int ((-30) - nI (qe (ys (rTx (zt s).2 j 900 y00)))), .int ((-30) - nI (qe (ys (rTx (zt s).2 j 900 y00))))] h2 Q
    refine exf_go 1 (show (((-30) - nI (qe (ys (rTx (zt s).2 j 900 y00)))) = ((-30) - nI (qe (ys (rTx (zt s).2 j 900 y00)))) → Go (d + 150) true 0 1429 [.ref 0, .ref 10, .ref 130, .int (nI i)] [] h2 Q) ∧ (¬ (((-30) - nI (qe (ys (rTx (zt s).2 j 900 y00)))) = ((-30) - nI (qe (ys (rTx (zt s).2 j 900 y00))))) → Go (d + 150) true 0 304 [.ref 0, .ref 10, .ref 130, .int (nI i)] [] h2 Q) from ⟨fun c1 => ?_, fun c1 => ?_⟩)
    · skip
      exact k _ h2 ic2 im2 sb2
    · skip
      exact absurd rfl c1
  · skip
    have ic1 := ic_Sd ic q1 r10 cs1 cd1 r0 r1; have im1 := im_mq (im_mq im (show ModQ h (hN3 h) from fun _ _ => ⟨rfl, rfl⟩)) (mq_g q1 (fun a i ha => fz_Sd (by omega) (by omega) (by omega)))
    show Go (d + 150) true 0 292 [.ref 0, .ref 10, .ref 130, .int (nI i)] [.int (nI (sL (yg (rTx (zt s).2 j 900 y00))))] h1 Q
    refine exf_go 5 (show Go (d + 150) true 0 297 [.ref 0, .ref 10, .ref 130, .int (nI i)] [.int ((nI i) + 1), .ref 0, .ref 130, .int (nI (sL (yg (rTx (zt s).2 j 900 y00))))] h1 Q from ?_)
    rw [show ((nI i) + 1 : Int32) = nI (i + 1) from nI_add i 1]
    refine exf_go 1 (show vp_in (nI (i + 1)) (al h1 0) ∧ (Go (d + 150) true 0 298 [.ref 0, .ref 10, .ref 130, .int (nI i)] [.int (rI h1 0 ((nI (i + 1)).toNatClampNeg)), .ref 130, .int (nI (sL (yg (rTx (zt s).2 j 900 y00))))] h1 Q) from ⟨(show vp_in (nI (i + 1)) (rL h1 0) from by rw [ic1.1.2.2]; exact vp_in_nI (by omega) (by omega)), ?_⟩)
    rw [show (rI h1 0 ((nI (i + 1)).toNatClampNeg) : Int32) = xs (i + 1) from by rw [nI_clamp (by omega), ic1.1.2.1]]
    refine exf_go 1 (show wpC (d + 150) true 216 [.ref 130, .int (xs (i + 1))] h1 (fun r h' => Go (d + 150) true 0 301 [.ref 0, .ref 10, .ref 130, .int (nI i)] [r, .int (nI (sL (yg (rTx (zt s).2 j 900 y00))))] h' Q) from ?_)
    rw [hxj]
    refine m_shedN (hl := (ze s).2.2) im1.2.2.1 hjt (fun hz2 => absurd hz hz2) (fun _ h2 q2 r5 r13 r14 md2 => ?_)
    have im2 := im_Sm im1 q2 r5 r13 r14 md2; have ic2 := ic_cq ic1 (cq_f q2 (fun a i ha => fz_Sm ha))
    have sbx := sb_shed (bs_tx 900 y00 (b := (zt s).2) (n := j) bs_00) (ze s).2.2
    have sb2 : SB (gH (yg (rTx (zt s).2 j 900 y00)) (oY (rTx (zt s).2 j 900 y00)), (l0 (ya (rTx (zt s).2 j 900 y00)), 0, (ze s).2.2), zr s, (0, (zt s).2), zm s, 0, none) := ⟨sbx.1, sbx.2, sb.2.2⟩
    show Go (d + 150) true 0 301 [.ref 0, .ref 10, .ref 130, .int (nI i)] [.int (nI (sL (yg (rTx (zt s).2 j 900 y00)))), .int (nI (sL (yg (rTx (zt s).2 j 900 y00))))] h2 Q
    refine exf_go 1 (show ((nI (sL (yg (rTx (zt s).2 j 900 y00)))) = (nI (sL (yg (rTx (zt s).2 j 900 y00)))) → Go (d + 150) true 0 1429 [.ref 0, .ref 10, .ref 130, .int (nI i)] [] h2 Q) ∧ (¬ ((nI (sL (yg (rTx (zt s).2 j 900 y00)))) = (nI (sL (yg (rTx (zt s).2 j 900 y00))))) → Go (d + 150) true 0 304 [.ref 0, .ref 10, .ref 130, .int (nI i)] [] h2 Q) from ⟨fun c2 => ?_, fun c2 => ?_⟩)
    · skip
      exact k _ h2 ic2 im2 sb2
    · skip
      exact absurd rfl c2
theorem lw_shed {d : Nat} {h : Hp} {xs : Nat → Int32} {L i : Nat} {s : LwG} {Q : Po} (hL : L ≤ 3072) (hi : i + 6 ≤ L) (ic : IC xs L s h) (im : IMo s h) (sb : SB s) (k : ∀ s2 h2, IC xs L s2 h2 → IMo s2 h2 → SB s2 → Go (d + 150) true 0 1429 [.ref 0, .ref 10, .ref 130, .int (nI i)] [] h2 Q) : Go (d + 150) true 0 283 [.ref 0, .ref 10, .ref 130, .int (nI i)] [] h Q := by
  cases hx : ixN (xs (i + 1)) ((zt s).1 + 1) with
  | none => exact lw_shedX hL hi ic im sb k hx
  | some j =>
    have ht := ic.2.2.2.2.1.1.1
    obtain ⟨h1, h2⟩ := ix_sm (by omega) hx
    exact lw_shedN hL hi ic im sb k (by omega) h2

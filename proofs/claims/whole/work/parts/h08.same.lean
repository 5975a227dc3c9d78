/-! New objects: what they don't rest on. -/
def Sm (h h2 : Hp) : Prop := ((∀ a, a ≠ 0 → rI h a = rI h2 a) ∧ (∀ a, a ≠ 0 → rL h a = rL h2 a)) ∧ rN h = rN h2 ∧ rD h = rD h2
theorem sm_nw {h h2 : Hp} (s : Sm h h2) (z n : Nat) : Sm (nwH h z n) (nwH h2 z n) := by
  refine ⟨⟨fun a ha => ?_, fun a ha => ?_⟩, ?_, ?_⟩
  · show va_up h.1 z (fun _ => 0) a = va_up h2.1 z (fun _ => 0) a
    by_cases e : a = z
    · rw [e, up_eq, up_eq]
    · rw [up_ne e, up_ne e]; exact s.1.1 a ha
  · show va_up h.2.2.1 z n a = va_up h2.2.2.1 z n a
    by_cases e : a = z
    · rw [e, up_eq, up_eq]
    · rw [up_ne e, up_ne e]; exact s.1.2 a ha
  · show va_up (rN h) z (fun _ => false) = va_up (rN h2) z (fun _ => false)
    rw [s.2.1]
  · show va_up (rD h) z true = va_up (rD h2) z true
    rw [s.2.2]
theorem sm_uN {h h2 : Hp} (s : Sm h h2) (a k : Nat) : Sm (uN h a k true) (uN h2 a k true) := by
  refine ⟨s.1, ?_, s.2.2⟩
  show va_up (rN h) a (va_up (rN h a) k true) = va_up (rN h2) a (va_up (rN h2 a) k true)
  rw [s.2.1]
theorem sm_uI {h h2 : Hp} (s : Sm h h2) (a k : Nat) (v : Int32) : Sm (uI h a k v) (uI h2 a k v) := by
  refine ⟨⟨fun b hb => ?_, s.1.2⟩, s.2⟩
  funext j
  rw [rI_uI, rI_uI, s.1.1 b hb]
def Zr (h h2 : Hp) : Prop := rI h2 0 = rI h 0 ∧ rL h2 0 = rL h 0
theorem zr_nw {h h2 : Hp} (s : Zr h h2) (z n : Nat) (hz : 0 ≠ z) : Zr h (nwH h2 z n) := ⟨(up_ne hz).trans s.1, (up_ne hz).trans s.2⟩
theorem zr_uN {h h2 : Hp} (s : Zr h h2) (a k : Nat) : Zr h (uN h2 a k true) := s
theorem zr_uI {h h2 : Hp} (s : Zr h h2) (a k : Nat) (v : Int32) (ha : 0 ≠ a) : Zr h (uI h2 a k v) := ⟨(rI_uI_ne ha).trans s.1, s.2⟩
theorem shI12 {h h2 : Hp} (s : Sm h h2) : Sm (hI12 h) (hI12 h2) := (sm_uN (sm_nw (sm_uN (sm_nw (sm_uN (sm_nw s 13 901) 12 0) 14 901) 12 1) 15 901) 12 2)
theorem zhI12 {h0 h : Hp} (s : Zr h0 h) : Zr h0 (hI12 h) := (zr_uN (zr_nw (zr_uN (zr_nw (zr_uN (zr_nw s 13 901 (by decide)) 12 0) 14 901 (by decide)) 12 1) 15 901 (by decide)) 12 2)
theorem shI16 {h h2 : Hp} (s : Sm h h2) : Sm (hI16 h) (hI16 h2) := (sm_uI s 16 1 (-1))
theorem zhI16 {h0 h : Hp} (s : Zr h0 h) : Zr h0 (hI16 h) := (zr_uI s 16 1 (-1) (by decide))
theorem shI17 {h h2 : Hp} (s : Sm h h2) : Sm (hI17 h) (hI17 h2) := (sm_uN (sm_nw (sm_uN (sm_nw (sm_uN (sm_nw (sm_uN (sm_nw (sm_uN (sm_nw s 18 900) 17 0) 19 900) 17 1) 20 8) 17 3) 21 64) 17 5) 22 4) 17 7)
theorem zhI17 {h0 h : Hp} (s : Zr h0 h) : Zr h0 (hI17 h) := (zr_uN (zr_nw (zr_uN (zr_nw (zr_uN (zr_nw (zr_uN (zr_nw (zr_uN (zr_nw s 18 900 (by decide)) 17 0) 19 900 (by decide)) 17 1) 20 8 (by decide)) 17 3) 21 64 (by decide)) 17 5) 22 4 (by decide)) 17 7)
theorem shI23 {h h2 : Hp} (s : Sm h h2) : Sm (hI23 h) (hI23 h2) := (sm_uI (sm_uI (sm_uN (sm_nw (sm_uI (sm_uN (sm_nw (sm_uN (sm_nw (sm_uI (sm_uN (sm_uI (sm_uI (sm_uI (sm_uI (sm_nw (sm_uN (sm_nw (sm_uN (sm_uI (sm_uI (sm_uI (sm_uI (sm_nw (sm_uN (sm_uI (sm_uI (sm_uI (sm_uI (sm_nw s 24 4) 24 0 1) 24 1 1) 24 2 1) 24 3 1) 23 1) 25 4) 25 0 1) 25 1 1) 25 2 1) 25 3 1) 23 2) 26 4) 23 3) 27 4) 27 0 1) 27 1 1) 27 2 1) 27 3 1) 23 4) 23 5 1) 28 8) 23 7) 29 256) 23 8) 23 9 3) 30 4) 23 14) 23 15 (-1)) 29 0 1)
theorem zhI23 {h0 h : Hp} (s : Zr h0 h) : Zr h0 (hI23 h) := (zr_uI (zr_uI (zr_uN (zr_nw (zr_uI (zr_uN (zr_nw (zr_uN (zr_nw (zr_uI (zr_uN (zr_uI (zr_uI (zr_uI (zr_uI (zr_nw (zr_uN (zr_nw (zr_uN (zr_uI (zr_uI (zr_uI (zr_uI (zr_nw (zr_uN (zr_uI (zr_uI (zr_uI (zr_uI (zr_nw s 24 4 (by decide)) 24 0 1 (by decide)) 24 1 1 (by decide)) 24 2 1 (by decide)) 24 3 1 (by decide)) 23 1) 25 4 (by decide)) 25 0 1 (by decide)) 25 1 1 (by decide)) 25 2 1 (by decide)) 25 3 1 (by decide)) 23 2) 26 4 (by decide)) 23 3) 27 4 (by decide)) 27 0 1 (by decide)) 27 1 1 (by decide)) 27 2 1 (by decide)) 27 3 1 (by decide)) 23 4) 23 5 1 (by decide)) 28 8 (by decide)) 23 7) 29 256 (by decide)) 23 8) 23 9 3 (by decide)) 30 4 (by decide)) 23 14) 23 15 (-1) (by decide)) 29 0 1 (by decide))
theorem shI31 {h h2 : Hp} (s : Sm h h2) : Sm (hI31 h) (hI31 h2) := (sm_uI (sm_uI (sm_uN (sm_nw (sm_uI (sm_uN (sm_nw (sm_uN (sm_nw (sm_uI (sm_uN (sm_uI (sm_uI (sm_uI (sm_uI (sm_nw (sm_uN (sm_nw (sm_uN (sm_uI (sm_uI (sm_uI (sm_uI (sm_nw (sm_uN (sm_uI (sm_uI (sm_uI (sm_uI (sm_nw s 32 4) 32 0 1) 32 1 1) 32 2 1) 32 3 1) 31 1) 33 4) 33 0 1) 33 1 1) 33 2 1) 33 3 1) 31 2) 34 4) 31 3) 35 4) 35 0 1) 35 1 1) 35 2 1) 35 3 1) 31 4) 31 5 1) 36 8) 31 7) 37 256) 31 8) 31 9 3) 38 4) 31 14) 31 15 (-1)) 37 0 1)
theorem zhI31 {h0 h : Hp} (s : Zr h0 h) : Zr h0 (hI31 h) := (zr_uI (zr_uI (zr_uN (zr_nw (zr_uI (zr_uN (zr_nw (zr_uN (zr_nw (zr_uI (zr_uN (zr_uI (zr_uI (zr_uI (zr_uI (zr_nw (zr_uN (zr_nw (zr_uN (zr_uI (zr_uI (zr_uI (zr_uI (zr_nw (zr_uN (zr_uI (zr_uI (zr_uI (zr_uI (zr_nw s 32 4 (by decide)) 32 0 1 (by decide)) 32 1 1 (by decide)) 32 2 1 (by decide)) 32 3 1 (by decide)) 31 1) 33 4 (by decide)) 33 0 1 (by decide)) 33 1 1 (by decide)) 33 2 1 (by decide)) 33 3 1 (by decide)) 31 2) 34 4 (by decide)) 31 3) 35 4 (by decide)) 35 0 1 (by decide)) 35 1 1 (by decide)) 35 2 1 (by decide)) 35 3 1 (by decide)) 31 4) 31 5 1 (by decide)) 36 8 (by decide)) 31 7) 37 256 (by decide)) 31 8) 31 9 3 (by decide)) 38 4 (by decide)) 31 14) 31 15 (-1) (by decide)) 37 0 1 (by decide))
theorem shI39 {h h2 : Hp} (s : Sm h h2) : Sm (hI39 h) (hI39 h2) := (sm_uN (sm_nw (sm_uI (sm_uN (sm_nw s 40 1) 39 0) 39 1 1) 41 4) 39 2)
theorem zhI39 {h0 h : Hp} (s : Zr h0 h) : Zr h0 (hI39 h) := (zr_uN (zr_nw (zr_uI (zr_uN (zr_nw s 40 1 (by decide)) 39 0) 39 1 1 (by decide)) 41 4 (by decide)) 39 2)
theorem shI44 {h h2 : Hp} (s : Sm h h2) : Sm (hI44 h) (hI44 h2) := (sm_uN (sm_nw (sm_uN (sm_nw s 45 40) 44 0) 46 4) 44 2)
theorem zhI44 {h0 h : Hp} (s : Zr h0 h) : Zr h0 (hI44 h) := (zr_uN (zr_nw (zr_uN (zr_nw s 45 40 (by decide)) 44 0) 46 4 (by decide)) 44 2)
theorem shI47 {h h2 : Hp} (s : Sm h h2) : Sm (hI47 h) (hI47 h2) := (sm_uN (sm_nw (sm_uN (sm_nw s 48 40) 47 0) 49 4) 47 2)
theorem zhI47 {h0 h : Hp} (s : Zr h0 h) : Zr h0 (hI47 h) := (zr_uN (zr_nw (zr_uN (zr_nw s 48 40 (by decide)) 47 0) 49 4 (by decide)) 47 2)
theorem shI50 {h h2 : Hp} (s : Sm h h2) : Sm (hI50 h) (hI50 h2) := (sm_uN (sm_nw (sm_uN (sm_nw s 51 40) 50 0) 52 4) 50 2)
theorem zhI50 {h0 h : Hp} (s : Zr h0 h) : Zr h0 (hI50 h) := (zr_uN (zr_nw (zr_uN (zr_nw s 51 40 (by decide)) 50 0) 52 4 (by decide)) 50 2)
theorem shI53 {h h2 : Hp} (s : Sm h h2) : Sm (hI53 h) (hI53 h2) := (sm_uN (sm_nw (sm_uN (sm_nw s 54 40) 53 0) 55 4) 53 2)
theorem zhI53 {h0 h : Hp} (s : Zr h0 h) : Zr h0 (hI53 h) := (zr_uN (zr_nw (zr_uN (zr_nw s 54 40 (by decide)) 53 0) 55 4 (by decide)) 53 2)
theorem shI56 {h h2 : Hp} (s : Sm h h2) : Sm (hI56 h) (hI56 h2) := (sm_uN (sm_nw (sm_uN (sm_nw s 57 40) 56 0) 58 4) 56 2)
theorem zhI56 {h0 h : Hp} (s : Zr h0 h) : Zr h0 (hI56 h) := (zr_uN (zr_nw (zr_uN (zr_nw s 57 40 (by decide)) 56 0) 58 4 (by decide)) 56 2)
theorem shI59 {h h2 : Hp} (s : Sm h h2) : Sm (hI59 h) (hI59 h2) := (sm_uN (sm_nw (sm_uN (sm_nw s 60 40) 59 0) 61 4) 59 2)
theorem zhI59 {h0 h : Hp} (s : Zr h0 h) : Zr h0 (hI59 h) := (zr_uN (zr_nw (zr_uN (zr_nw s 60 40 (by decide)) 59 0) 61 4 (by decide)) 59 2)
theorem shI62 {h h2 : Hp} (s : Sm h h2) : Sm (hI62 h) (hI62 h2) := (sm_uN (sm_nw (sm_uN (sm_nw s 63 40) 62 0) 64 4) 62 2)
theorem zhI62 {h0 h : Hp} (s : Zr h0 h) : Zr h0 (hI62 h) := (zr_uN (zr_nw (zr_uN (zr_nw s 63 40 (by decide)) 62 0) 64 4 (by decide)) 62 2)
theorem shI65 {h h2 : Hp} (s : Sm h h2) : Sm (hI65 h) (hI65 h2) := (sm_uN (sm_nw (sm_uN (sm_nw s 66 40) 65 0) 67 4) 65 2)
theorem zhI65 {h0 h : Hp} (s : Zr h0 h) : Zr h0 (hI65 h) := (zr_uN (zr_nw (zr_uN (zr_nw s 66 40 (by decide)) 65 0) 67 4 (by decide)) 65 2)
theorem shI68 {h h2 : Hp} (s : Sm h h2) : Sm (hI68 h) (hI68 h2) := (sm_uN (sm_nw (sm_uN (sm_nw s 69 40) 68 0) 70 4) 68 2)
theorem zhI68 {h0 h : Hp} (s : Zr h0 h) : Zr h0 (hI68 h) := (zr_uN (zr_nw (zr_uN (zr_nw s 69 40 (by decide)) 68 0) 70 4 (by decide)) 68 2)
theorem shI71 {h h2 : Hp} (s : Sm h h2) : Sm (hI71 h) (hI71 h2) := (sm_uN (sm_nw (sm_uN (sm_nw (sm_uN (sm_nw (sm_uN (sm_nw (sm_uN (sm_nw s 72 1) 71 0) 73 256) 71 2) 74 256) 71 3) 75 256) 71 4) 76 256) 71 5)
theorem zhI71 {h0 h : Hp} (s : Zr h0 h) : Zr h0 (hI71 h) := (zr_uN (zr_nw (zr_uN (zr_nw (zr_uN (zr_nw (zr_uN (zr_nw (zr_uN (zr_nw s 72 1 (by decide)) 71 0) 73 256 (by decide)) 71 2) 74 256 (by decide)) 71 3) 75 256 (by decide)) 71 4) 76 256 (by decide)) 71 5)
theorem shI78 {h h2 : Hp} (s : Sm h h2) : Sm (hI78 h) (hI78 h2) := (sm_uN (sm_nw (sm_uN (sm_nw (sm_uN (sm_nw (sm_uN (sm_nw (sm_uN (sm_nw (sm_uN (sm_nw s 79 8) 78 0) 80 8) 78 2) 81 64) 78 3) 82 256) 78 4) 83 2048) 78 5) 84 8) 78 6)
theorem zhI78 {h0 h : Hp} (s : Zr h0 h) : Zr h0 (hI78 h) := (zr_uN (zr_nw (zr_uN (zr_nw (zr_uN (zr_nw (zr_uN (zr_nw (zr_uN (zr_nw (zr_uN (zr_nw s 79 8 (by decide)) 78 0) 80 8 (by decide)) 78 2) 81 64 (by decide)) 78 3) 82 256 (by decide)) 78 4) 83 2048 (by decide)) 78 5) 84 8 (by decide)) 78 6)
theorem shI85 {h h2 : Hp} (s : Sm h h2) : Sm (hI85 h) (hI85 h2) := (sm_uN (sm_nw s 86 1) 85 0)
theorem zhI85 {h0 h : Hp} (s : Zr h0 h) : Zr h0 (hI85 h) := (zr_uN (zr_nw s 86 1 (by decide)) 85 0)
theorem shI88 {h h2 : Hp} (s : Sm h h2) : Sm (hI88 h) (hI88 h2) := (sm_uI (sm_uN (sm_nw s 89 40) 88 0) 88 2 (-1))
theorem zhI88 {h0 h : Hp} (s : Zr h0 h) : Zr h0 (hI88 h) := (zr_uI (zr_uN (zr_nw s 89 40 (by decide)) 88 0) 88 2 (-1) (by decide))
theorem shI90 {h h2 : Hp} (s : Sm h h2) : Sm (hI90 h) (hI90 h2) := (sm_uI (sm_uN (sm_nw s 91 40) 90 0) 90 2 (-1))
theorem zhI90 {h0 h : Hp} (s : Zr h0 h) : Zr h0 (hI90 h) := (zr_uI (zr_uN (zr_nw s 91 40 (by decide)) 90 0) 90 2 (-1) (by decide))
theorem shI92 {h h2 : Hp} (s : Sm h h2) : Sm (hI92 h) (hI92 h2) := (sm_uI (sm_uN (sm_nw s 93 40) 92 0) 92 2 (-1))
theorem zhI92 {h0 h : Hp} (s : Zr h0 h) : Zr h0 (hI92 h) := (zr_uI (zr_uN (zr_nw s 93 40 (by decide)) 92 0) 92 2 (-1) (by decide))
theorem shI94 {h h2 : Hp} (s : Sm h h2) : Sm (hI94 h) (hI94 h2) := (sm_uI (sm_uN (sm_nw s 95 40) 94 0) 94 2 (-1))
theorem zhI94 {h0 h : Hp} (s : Zr h0 h) : Zr h0 (hI94 h) := (zr_uI (zr_uN (zr_nw s 95 40 (by decide)) 94 0) 94 2 (-1) (by decide))
theorem sstg1 {h h2 : Hp} (s : Sm h h2) : Sm (stg1 h) (stg1 h2) := (sm_nw (sm_uN (sm_nw s 43 9) 42 0) 44 7)
theorem zstg1 {h0 h : Hp} (s : Zr h0 h) : Zr h0 (stg1 h) := (zr_nw (zr_uN (zr_nw s 43 9 (by decide)) 42 0) 44 7 (by decide))
theorem sstg2 {h h2 : Hp} (s : Sm h h2) : Sm (stg2 h) (stg2 h2) := (sm_nw (sm_uN (shI44 (sstg1 s)) 43 0) 47 7)
theorem zstg2 {h0 h : Hp} (s : Zr h0 h) : Zr h0 (stg2 h) := (zr_nw (zr_uN (zhI44 (zstg1 s)) 43 0) 47 7 (by decide))
theorem sstg3 {h h2 : Hp} (s : Sm h h2) : Sm (stg3 h) (stg3 h2) := (sm_nw (sm_uN (shI47 (sstg2 s)) 43 1) 50 7)
theorem zstg3 {h0 h : Hp} (s : Zr h0 h) : Zr h0 (stg3 h) := (zr_nw (zr_uN (zhI47 (zstg2 s)) 43 1) 50 7 (by decide))
theorem sstg4 {h h2 : Hp} (s : Sm h h2) : Sm (stg4 h) (stg4 h2) := (sm_nw (sm_uN (shI50 (sstg3 s)) 43 2) 53 7)
theorem zstg4 {h0 h : Hp} (s : Zr h0 h) : Zr h0 (stg4 h) := (zr_nw (zr_uN (zhI50 (zstg3 s)) 43 2) 53 7 (by decide))
theorem sstg5 {h h2 : Hp} (s : Sm h h2) : Sm (stg5 h) (stg5 h2) := (sm_nw (sm_uN (shI53 (sstg4 s)) 43 3) 56 7)
theorem zstg5 {h0 h : Hp} (s : Zr h0 h) : Zr h0 (stg5 h) := (zr_nw (zr_uN (zhI53 (zstg4 s)) 43 3) 56 7 (by decide))
theorem sstg6 {h h2 : Hp} (s : Sm h h2) : Sm (stg6 h) (stg6 h2) := (sm_nw (sm_uN (shI56 (sstg5 s)) 43 4) 59 7)
theorem zstg6 {h0 h : Hp} (s : Zr h0 h) : Zr h0 (stg6 h) := (zr_nw (zr_uN (zhI56 (zstg5 s)) 43 4) 59 7 (by decide))
theorem sstg7 {h h2 : Hp} (s : Sm h h2) : Sm (stg7 h) (stg7 h2) := (sm_nw (sm_uN (shI59 (sstg6 s)) 43 5) 62 7)
theorem zstg7 {h0 h : Hp} (s : Zr h0 h) : Zr h0 (stg7 h) := (zr_nw (zr_uN (zhI59 (zstg6 s)) 43 5) 62 7 (by decide))
theorem sstg8 {h h2 : Hp} (s : Sm h h2) : Sm (stg8 h) (stg8 h2) := (sm_nw (sm_uN (shI62 (sstg7 s)) 43 6) 65 7)
theorem zstg8 {h0 h : Hp} (s : Zr h0 h) : Zr h0 (stg8 h) := (zr_nw (zr_uN (zhI62 (zstg7 s)) 43 6) 65 7 (by decide))
theorem sstg9 {h h2 : Hp} (s : Sm h h2) : Sm (stg9 h) (stg9 h2) := (sm_nw (sm_uN (shI65 (sstg8 s)) 43 7) 68 7)
theorem zstg9 {h0 h : Hp} (s : Zr h0 h) : Zr h0 (stg9 h) := (zr_nw (zr_uN (zhI65 (zstg8 s)) 43 7) 68 7 (by decide))
theorem shI42 {h h2 : Hp} (s : Sm h h2) : Sm (hI42 h) (hI42 h2) := (sm_uN (shI68 (sstg9 s)) 43 8)
theorem zhI42 {h0 h : Hp} (s : Zr h0 h) : Zr h0 (hI42 h) := (zr_uN (zhI68 (zstg9 s)) 43 8)
theorem sstg10 {h h2 : Hp} (s : Sm h h2) : Sm (stg10 h) (stg10 h2) := (sm_nw (sm_uN (sm_nw s 11 900) 10 0) 12 4)
theorem zstg10 {h0 h : Hp} (s : Zr h0 h) : Zr h0 (stg10 h) := (zr_nw (zr_uN (zr_nw s 11 900 (by decide)) 10 0) 12 4 (by decide))
theorem sstg11 {h h2 : Hp} (s : Sm h h2) : Sm (stg11 h) (stg11 h2) := (sm_nw (sm_uN (shI12 (sstg10 s)) 10 2) 16 7)
theorem zstg11 {h0 h : Hp} (s : Zr h0 h) : Zr h0 (stg11 h) := (zr_nw (zr_uN (zhI12 (zstg10 s)) 10 2) 16 7 (by decide))
theorem sstg12 {h h2 : Hp} (s : Sm h h2) : Sm (stg12 h) (stg12 h2) := (sm_nw (sm_uN (shI16 (sstg11 s)) 10 3) 17 12)
theorem zstg12 {h0 h : Hp} (s : Zr h0 h) : Zr h0 (stg12 h) := (zr_nw (zr_uN (zhI16 (zstg11 s)) 10 3) 17 12 (by decide))
theorem sstg13 {h h2 : Hp} (s : Sm h h2) : Sm (stg13 h) (stg13 h2) := (sm_nw (sm_uN (shI17 (sstg12 s)) 10 4) 23 18)
theorem zstg13 {h0 h : Hp} (s : Zr h0 h) : Zr h0 (stg13 h) := (zr_nw (zr_uN (zhI17 (zstg12 s)) 10 4) 23 18 (by decide))
theorem sstg14 {h h2 : Hp} (s : Sm h h2) : Sm (stg14 h) (stg14 h2) := (sm_nw (sm_uN (shI23 (sstg13 s)) 10 5) 31 18)
theorem zstg14 {h0 h : Hp} (s : Zr h0 h) : Zr h0 (stg14 h) := (zr_nw (zr_uN (zhI23 (zstg13 s)) 10 5) 31 18 (by decide))
theorem sstg15 {h h2 : Hp} (s : Sm h h2) : Sm (stg15 h) (stg15 h2) := (sm_nw (sm_uN (shI31 (sstg14 s)) 10 6) 39 8)
theorem zstg15 {h0 h : Hp} (s : Zr h0 h) : Zr h0 (stg15 h) := (zr_nw (zr_uN (zhI31 (zstg14 s)) 10 6) 39 8 (by decide))
theorem sstg16 {h h2 : Hp} (s : Sm h h2) : Sm (stg16 h) (stg16 h2) := (sm_nw (sm_uN (shI39 (sstg15 s)) 10 7) 42 3)
theorem zstg16 {h0 h : Hp} (s : Zr h0 h) : Zr h0 (stg16 h) := (zr_nw (zr_uN (zhI39 (zstg15 s)) 10 7) 42 3 (by decide))
theorem sstg17 {h h2 : Hp} (s : Sm h h2) : Sm (stg17 h) (stg17 h2) := (sm_nw (sm_uN (shI42 (sstg16 s)) 10 8) 71 6)
theorem zstg17 {h0 h : Hp} (s : Zr h0 h) : Zr h0 (stg17 h) := (zr_nw (zr_uN (zhI42 (zstg16 s)) 10 8) 71 6 (by decide))
theorem sstg18 {h h2 : Hp} (s : Sm h h2) : Sm (stg18 h) (stg18 h2) := (sm_nw (sm_uN (sm_nw (sm_uN (shI71 (sstg17 s)) 10 9) 77 256) 10 10) 78 8)
theorem zstg18 {h0 h : Hp} (s : Zr h0 h) : Zr h0 (stg18 h) := (zr_nw (zr_uN (zr_nw (zr_uN (zhI71 (zstg17 s)) 10 9) 77 256 (by decide)) 10 10) 78 8 (by decide))
theorem sstg19 {h h2 : Hp} (s : Sm h h2) : Sm (stg19 h) (stg19 h2) := (sm_nw (sm_uN (shI78 (sstg18 s)) 10 11) 85 1)
theorem zstg19 {h0 h : Hp} (s : Zr h0 h) : Zr h0 (stg19 h) := (zr_nw (zr_uN (zhI78 (zstg18 s)) 10 11) 85 1 (by decide))
theorem sstg20 {h h2 : Hp} (s : Sm h h2) : Sm (stg20 h) (stg20 h2) := (sm_nw (sm_uN (sm_nw (sm_uN (sm_nw (sm_uN (sm_nw (sm_uN (sm_nw (sm_uN (shI85 (sstg19 s)) 10 12) 87 4) 10 13) 96 2) 10 14) 97 2) 10 15) 98 1) 10 16) 88 3)
theorem zstg20 {h0 h : Hp} (s : Zr h0 h) : Zr h0 (stg20 h) := (zr_nw (zr_uN (zr_nw (zr_uN (zr_nw (zr_uN (zr_nw (zr_uN (zr_nw (zr_uN (zhI85 (zstg19 s)) 10 12) 87 4 (by decide)) 10 13) 96 2 (by decide)) 10 14) 97 2 (by decide)) 10 15) 98 1 (by decide)) 10 16) 88 3 (by decide))
theorem sstg21 {h h2 : Hp} (s : Sm h h2) : Sm (stg21 h) (stg21 h2) := (sm_nw (sm_uN (shI88 (sstg20 s)) 87 0) 90 3)
theorem zstg21 {h0 h : Hp} (s : Zr h0 h) : Zr h0 (stg21 h) := (zr_nw (zr_uN (zhI88 (zstg20 s)) 87 0) 90 3 (by decide))
theorem sstg22 {h h2 : Hp} (s : Sm h h2) : Sm (stg22 h) (stg22 h2) := (sm_nw (sm_uN (shI90 (sstg21 s)) 87 1) 92 3)
theorem zstg22 {h0 h : Hp} (s : Zr h0 h) : Zr h0 (stg22 h) := (zr_nw (zr_uN (zhI90 (zstg21 s)) 87 1) 92 3 (by decide))
theorem sstg23 {h h2 : Hp} (s : Sm h h2) : Sm (stg23 h) (stg23 h2) := (sm_nw (sm_uN (shI92 (sstg22 s)) 87 2) 94 3)
theorem zstg23 {h0 h : Hp} (s : Zr h0 h) : Zr h0 (stg23 h) := (zr_nw (zr_uN (zhI92 (zstg22 s)) 87 2) 94 3 (by decide))
theorem shI10 {h h2 : Hp} (s : Sm h h2) : Sm (hI10 h) (hI10 h2) := (sm_uN (shI94 (sstg23 s)) 87 3)
theorem zhI10 {h0 h : Hp} (s : Zr h0 h) : Zr h0 (hI10 h) := (zr_uN (zhI94 (zstg23 s)) 87 3)
theorem shI130 {h h2 : Hp} (s : Sm h h2) : Sm (hI130 h) (hI130 h2) := (sm_uN (sm_nw (sm_uN (sm_nw (sm_uN (sm_uI (sm_uI (sm_uI (sm_uI (sm_nw (sm_uN (sm_nw (sm_uN (sm_nw (sm_uN (sm_nw (sm_uN (sm_nw (sm_uN (sm_nw (sm_uN (sm_nw (sm_uN (sm_nw (sm_uN (sm_nw (sm_uN (sm_nw (sm_uN (sm_nw (sm_uN (sm_nw (sm_uN (sm_nw (sm_uN (sm_nw (sm_uN (sm_nw (sm_uI (sm_uN (sm_nw (sm_uN (sm_nw (sm_uN (sm_nw (sm_uN (sm_nw s 131 41523) 130 1) 132 2) 130 2) 133 900) 130 3) 134 13841) 130 4) 130 14 (-1)) 135 4) 130 16) 136 900) 130 17) 137 256) 130 18) 138 256) 130 19) 139 257) 130 20) 140 10000) 130 21) 141 321) 130 23) 142 8) 130 25) 143 8) 130 26) 144 10000) 130 29) 145 10000) 130 30) 146 10000) 130 31) 147 10000) 130 32) 148 10000) 130 33) 149 4) 149 0 (-1)) 149 1 (-1)) 149 2 (-1)) 149 3 (-1)) 130 35) 150 4) 130 36) 151 160) 130 37)
theorem zhI130 {h0 h : Hp} (s : Zr h0 h) : Zr h0 (hI130 h) := (zr_uN (zr_nw (zr_uN (zr_nw (zr_uN (zr_uI (zr_uI (zr_uI (zr_uI (zr_nw (zr_uN (zr_nw (zr_uN (zr_nw (zr_uN (zr_nw (zr_uN (zr_nw (zr_uN (zr_nw (zr_uN (zr_nw (zr_uN (zr_nw (zr_uN (zr_nw (zr_uN (zr_nw (zr_uN (zr_nw (zr_uN (zr_nw (zr_uN (zr_nw (zr_uN (zr_nw (zr_uN (zr_nw (zr_uI (zr_uN (zr_nw (zr_uN (zr_nw (zr_uN (zr_nw (zr_uN (zr_nw s 131 41523 (by decide)) 130 1) 132 2 (by decide)) 130 2) 133 900 (by decide)) 130 3) 134 13841 (by decide)) 130 4) 130 14 (-1) (by decide)) 135 4 (by decide)) 130 16) 136 900 (by decide)) 130 17) 137 256 (by decide)) 130 18) 138 256 (by decide)) 130 19) 139 257 (by decide)) 130 20) 140 10000 (by decide)) 130 21) 141 321 (by decide)) 130 23) 142 8 (by decide)) 130 25) 143 8 (by decide)) 130 26) 144 10000 (by decide)) 130 29) 145 10000 (by decide)) 130 30) 146 10000 (by decide)) 130 31) 147 10000 (by decide)) 130 32) 148 10000 (by decide)) 130 33) 149 4 (by decide)) 149 0 (-1) (by decide)) 149 1 (-1) (by decide)) 149 2 (-1) (by decide)) 149 3 (-1) (by decide)) 130 35) 150 4 (by decide)) 130 36) 151 160 (by decide)) 130 37)

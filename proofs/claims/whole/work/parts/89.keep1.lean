/-! The relation is kept, call by call. -/
theorem billR_fr {h h2 : AH} (e2 : h2 2 = h 2) (e4 : h2 4 = h 4) (e5 : h2 5 = h 5) (e6 : h2 6 = h 6) (e7 : h2 7 = h 7) (e8 : h2 8 = h 8) (e29 : h2 29 = h 29) : billR h2 = billR h := by
  have k : kC h2 = kC h := by unfold kC nC cAr cFc cKn cRd; rw [e2, e4, e5]
  have u : uC h2 = uC h := by unfold uC nC cAr cFc cKn cRd; rw [e2, e4, e5]
  have n : nC h2 = nC h := by unfold nC; rw [e2]
  have f : fitC h2 = fitC h := by unfold fitC; rw [k, u, n]; unfold cAr; rw [e4]
  have b : bC h2 = bC h := by unfold bC; rw [k, e5]
  have c : cHs h2 = cHs h := by funext f t; unfold cHs; rw [e6]
  unfold billR bbC
  rw [f, b, c, n, e2, e7, e8, e29]
theorem RL_fr {h h2 : AH} (e : ∀ t : Nat, t ≠ 40 → t ≠ 70 → (t < 10 ∨ 22 < t) → t ≠ 56 → h2 t = h t) (e40 : ∀ j : Nat, j ≠ 0 → (j < 25 ∨ 32 < j) → h2 40 0 j = h 40 0 j) (R : RL h) : RL h2 := by
  obtain ⟨⟨i1, i2, i3, i4, i5, i6, i7, i8, i9, i10, i11, i12, i13, i14, i15⟩, ⟨a1, a2, a3, a4, a5, a6, a7⟩, ⟨b1, b2, b3, b4, b5, b6, b7, b8, b9, b10⟩, ⟨p1, p2, p3, p4, p5, p6, p7, p8, p9⟩, d1, d2, d3⟩ := R
  have w1 : h2 1 = h 1 := e 1 (by decide) (by decide) (by decide) (by decide)
  have w2 : h2 2 = h 2 := e 2 (by decide) (by decide) (by decide) (by decide)
  have w4 : h2 4 = h 4 := e 4 (by decide) (by decide) (by decide) (by decide)
  have w5 : h2 5 = h 5 := e 5 (by decide) (by decide) (by decide) (by decide)
  have w6 : h2 6 = h 6 := e 6 (by decide) (by decide) (by decide) (by decide)
  have w7 : h2 7 = h 7 := e 7 (by decide) (by decide) (by decide) (by decide)
  have w8 : h2 8 = h 8 := e 8 (by decide) (by decide) (by decide) (by decide)
  have w9 : h2 9 = h 9 := e 9 (by decide) (by decide) (by decide) (by decide)
  have w23 : h2 23 = h 23 := e 23 (by decide) (by decide) (by decide) (by decide)
  have w25 : h2 25 = h 25 := e 25 (by decide) (by decide) (by decide) (by decide)
  have w26 : h2 26 = h 26 := e 26 (by decide) (by decide) (by decide) (by decide)
  have w27 : h2 27 = h 27 := e 27 (by decide) (by decide) (by decide) (by decide)
  have w28 : h2 28 = h 28 := e 28 (by decide) (by decide) (by decide) (by decide)
  have w29 : h2 29 = h 29 := e 29 (by decide) (by decide) (by decide) (by decide)
  have w30 : h2 30 = h 30 := e 30 (by decide) (by decide) (by decide) (by decide)
  have w41 : h2 41 = h 41 := e 41 (by decide) (by decide) (by decide) (by decide)
  have w42 : h2 42 = h 42 := e 42 (by decide) (by decide) (by decide) (by decide)
  have w43 : h2 43 = h 43 := e 43 (by decide) (by decide) (by decide) (by decide)
  have w44 : h2 44 = h 44 := e 44 (by decide) (by decide) (by decide) (by decide)
  have w45 : h2 45 = h 45 := e 45 (by decide) (by decide) (by decide) (by decide)
  have w46 : h2 46 = h 46 := e 46 (by decide) (by decide) (by decide) (by decide)
  have w47 : h2 47 = h 47 := e 47 (by decide) (by decide) (by decide) (by decide)
  have w48 : h2 48 = h 48 := e 48 (by decide) (by decide) (by decide) (by decide)
  have w49 : h2 49 = h 49 := e 49 (by decide) (by decide) (by decide) (by decide)
  have w50 : h2 50 = h 50 := e 50 (by decide) (by decide) (by decide) (by decide)
  have w51 : h2 51 = h 51 := e 51 (by decide) (by decide) (by decide) (by decide)
  have w52 : h2 52 = h 52 := e 52 (by decide) (by decide) (by decide) (by decide)
  have w53 : h2 53 = h 53 := e 53 (by decide) (by decide) (by decide) (by decide)
  have w54 : h2 54 = h 54 := e 54 (by decide) (by decide) (by decide) (by decide)
  have w55 : h2 55 = h 55 := e 55 (by decide) (by decide) (by decide) (by decide)
  have w40_1 : h2 40 0 1 = h 40 0 1 := e40 1 (by decide) (by decide)
  have w40_9 : h2 40 0 9 = h 40 0 9 := e40 9 (by decide) (by decide)
  have w40_10 : h2 40 0 10 = h 40 0 10 := e40 10 (by decide) (by decide)
  have w40_13 : h2 40 0 13 = h 40 0 13 := e40 13 (by decide) (by decide)
  have w40_14 : h2 40 0 14 = h 40 0 14 := e40 14 (by decide) (by decide)
  have w40_15 : h2 40 0 15 = h 40 0 15 := e40 15 (by decide) (by decide)
  have w40_16 : h2 40 0 16 = h 40 0 16 := e40 16 (by decide) (by decide)
  have w40_17 : h2 40 0 17 = h 40 0 17 := e40 17 (by decide) (by decide)
  have w40_19 : h2 40 0 19 = h 40 0 19 := e40 19 (by decide) (by decide)
  have eb : billR h2 = billR h := billR_fr w2 w4 w5 w6 w7 w8 w29
  unfold RL IC FIc FIv RA RB RP RDb RS nC cAr cFc cKn cRd
  simp only [w1, w2, w4, w5, w6, w7, w8, w9, w23, w25, w26, w27, w28, w29, w30, w41, w42, w43, w44, w45, w46, w47, w48, w49, w50, w51, w52, w53, w54, w55, w40_1, w40_9, w40_10, w40_13, w40_14, w40_15, w40_16, w40_17, w40_19, eb]
  exact ⟨⟨i1, i2, i3, i4, i5, i6, i7, i8, i9, i10, i11, i12, i13, i14, i15⟩, ⟨a1, a2, a3, a4, a5, a6, a7⟩, ⟨b1, b2, b3, b4, b5, b6, b7, b8, b9, b10⟩, ⟨p1, p2, p3, p4, p5, p6, p7, p8, p9⟩, d1, d2, d3⟩
theorem RL_thr {h : AH} (R : RL h) (v : Int) : RL (hset h 40 0 0 v) := RL_fr (fun t e _ _ _ => hset_fr _ _ _ _ e) (fun j e _ => hset_slot _ _ e) R
theorem RL_out {h : AH} (R : RL h) (v : Int) : RL (hset h 70 0 0 v) := RL_fr (fun t _ e _ _ => hset_fr _ _ _ _ e) (fun j _ _ => hset_tag _ _ (by decide)) R
theorem s_sideCosts {h h1 h2 : AH} {a : Int} (R : RL h) (he : (if a < 0 ∨ 20000 < a then some 0 else none) = none) (e1 : h1 = hset (hset h 1 0 12 0) 1 0 8 a) (e2 : h2 = hset (hset (hset h1 40 0 0 0) 40 0 14 a) 40 0 19 0) : RL h2 := by
  obtain ⟨⟨i1, i2, i3, i4, i5, i6, i7, i8, i9, i10, i11, i12, i13, i14, i15⟩, ⟨a1, a2, a3, a4, a5, a6, a7⟩, ⟨b1, b2, b3, b4, b5, b6, b7, b8, b9, b10⟩, ⟨p1, p2, p3, p4, p5, p6, p7, p8, p9⟩, d1, d2, d3⟩ := R
  (repeat' split at he) <;> (try cases he)
  have w1_8 : h2 1 0 8 = a := by rw [e2, e1]; rfl
  have w1_9 : h2 1 0 9 = h 1 0 9 := by rw [e2, e1]; rfl
  have w1_10 : h2 1 0 10 = h 1 0 10 := by rw [e2, e1]; rfl
  have w1_11 : h2 1 0 11 = h 1 0 11 := by rw [e2, e1]; rfl
  have w1_12 : h2 1 0 12 = 0 := by rw [e2, e1]; rfl
  have w2_1 : h2 2 0 1 = h 2 0 1 := by rw [e2, e1]; rfl
  have w7_2 : h2 7 0 2 = h 7 0 2 := by rw [e2, e1]; rfl
  have w7_3 : h2 7 0 3 = h 7 0 3 := by rw [e2, e1]; rfl
  have w23_4 : h2 23 0 4 = h 23 0 4 := by rw [e2, e1]; rfl
  have w40_1 : h2 40 0 1 = h 40 0 1 := by rw [e2, e1]; rfl
  have w40_9 : h2 40 0 9 = h 40 0 9 := by rw [e2, e1]; rfl
  have w40_10 : h2 40 0 10 = h 40 0 10 := by rw [e2, e1]; rfl
  have w40_13 : h2 40 0 13 = h 40 0 13 := by rw [e2, e1]; rfl
  have w40_14 : h2 40 0 14 = a := by rw [e2, e1]; rfl
  have w40_15 : h2 40 0 15 = h 40 0 15 := by rw [e2, e1]; rfl
  have w40_16 : h2 40 0 16 = h 40 0 16 := by rw [e2, e1]; rfl
  have w40_17 : h2 40 0 17 = h 40 0 17 := by rw [e2, e1]; rfl
  have w40_19 : h2 40 0 19 = 0 := by rw [e2, e1]; rfl
  have w4 : h2 4 = h 4 := by rw [e2, e1]; rfl
  have w5 : h2 5 = h 5 := by rw [e2, e1]; rfl
  have w6 : h2 6 = h 6 := by rw [e2, e1]; rfl
  have w25 : h2 25 = h 25 := by rw [e2, e1]; rfl
  have w8 : h2 8 0 = h 8 0 := by rw [e2, e1]; rfl
  have w9 : h2 9 0 = h 9 0 := by rw [e2, e1]; rfl
  have w26 : h2 26 0 = h 26 0 := by rw [e2, e1]; rfl
  have w27 : h2 27 0 = h 27 0 := by rw [e2, e1]; rfl
  have w28 : h2 28 0 = h 28 0 := by rw [e2, e1]; rfl
  have w29 : h2 29 0 = h 29 0 := by rw [e2, e1]; rfl
  have w30 : h2 30 0 = h 30 0 := by rw [e2, e1]; rfl
  have w41 : h2 41 0 = h 41 0 := by rw [e2, e1]; rfl
  have w42 : h2 42 0 = h 42 0 := by rw [e2, e1]; rfl
  have w43 : h2 43 0 = h 43 0 := by rw [e2, e1]; rfl
  have w44 : h2 44 0 = h 44 0 := by rw [e2, e1]; rfl
  have w45 : h2 45 0 = h 45 0 := by rw [e2, e1]; rfl
  have w46 : h2 46 0 = h 46 0 := by rw [e2, e1]; rfl
  have w47 : h2 47 0 = h 47 0 := by rw [e2, e1]; rfl
  have w48 : h2 48 0 = h 48 0 := by rw [e2, e1]; rfl
  have w49 : h2 49 0 = h 49 0 := by rw [e2, e1]; rfl
  have w50 : h2 50 0 = h 50 0 := by rw [e2, e1]; rfl
  have w51 : h2 51 0 = h 51 0 := by rw [e2, e1]; rfl
  have w52 : h2 52 0 = h 52 0 := by rw [e2, e1]; rfl
  have w53 : h2 53 0 = h 53 0 := by rw [e2, e1]; rfl
  have w54 : h2 54 0 = h 54 0 := by rw [e2, e1]; rfl
  have w55 : h2 55 0 = h 55 0 := by rw [e2, e1]; rfl
  have ic : (nC h : Nat) = (h 2 0 1).toNat := rfl
  unfold RL IC FIc FIv RA RB RP RDb RS nC cAr cFc cKn cRd
  simp only [w1_8, w1_9, w1_10, w1_11, w1_12, w2_1, w7_2, w7_3, w23_4, w40_1, w40_9, w40_10, w40_13, w40_14, w40_15, w40_16, w40_17, w40_19, w4, w5, w6, w25, w8, w9, w26, w27, w28, w29, w30, w41, w42, w43, w44, w45, w46, w47, w48, w49, w50, w51, w52, w53, w54, w55]
  exact ⟨⟨i1, i2, i3, i4, i5, i6, i7, i8, i9, i10, by omega, i12, i13, i14, i15⟩, ⟨a1, a2, a3, a4, a5, a6, a7⟩, ⟨b1, b2, b3, b4, b5, (by first | rfl | trivial), b7, b8, b9, b10⟩, ⟨p1, p2, p3, p4, p5, p6, p7, p8, p9⟩, (by first | rfl | trivial), (by first | exact Or.inl rfl | exact Or.inl trivial | trivial), fun z => absurd z (by decide)⟩
theorem s_water {h h1 h2 : AH} {a b : Int} (R : RL h) (he : (if a < -1 ∨ 10000000 < a ∨ b < 0 ∨ 100 < b then some 0 else none) = none) (e1 : h1 = hset (hset (hset h 1 0 12 0) 1 0 9 a) 1 0 10 b) (e2 : h2 = hset (hset (hset (hset h1 40 0 0 0) 40 0 15 a) 40 0 16 b) 40 0 19 0) : RL h2 := by
  obtain ⟨⟨i1, i2, i3, i4, i5, i6, i7, i8, i9, i10, i11, i12, i13, i14, i15⟩, ⟨a1, a2, a3, a4, a5, a6, a7⟩, ⟨b1, b2, b3, b4, b5, b6, b7, b8, b9, b10⟩, ⟨p1, p2, p3, p4, p5, p6, p7, p8, p9⟩, d1, d2, d3⟩ := R
  (repeat' split at he) <;> (try cases he)
  have w1_8 : h2 1 0 8 = h 1 0 8 := by rw [e2, e1]; rfl
  have w1_9 : h2 1 0 9 = a := by rw [e2, e1]; rfl
  have w1_10 : h2 1 0 10 = b := by rw [e2, e1]; rfl
  have w1_11 : h2 1 0 11 = h 1 0 11 := by rw [e2, e1]; rfl
  have w1_12 : h2 1 0 12 = 0 := by rw [e2, e1]; rfl
  have w2_1 : h2 2 0 1 = h 2 0 1 := by rw [e2, e1]; rfl
  have w7_2 : h2 7 0 2 = h 7 0 2 := by rw [e2, e1]; rfl
  have w7_3 : h2 7 0 3 = h 7 0 3 := by rw [e2, e1]; rfl
  have w23_4 : h2 23 0 4 = h 23 0 4 := by rw [e2, e1]; rfl
  have w40_1 : h2 40 0 1 = h 40 0 1 := by rw [e2, e1]; rfl
  have w40_9 : h2 40 0 9 = h 40 0 9 := by rw [e2, e1]; rfl
  have w40_10 : h2 40 0 10 = h 40 0 10 := by rw [e2, e1]; rfl
  have w40_13 : h2 40 0 13 = h 40 0 13 := by rw [e2, e1]; rfl
  have w40_14 : h2 40 0 14 = h 40 0 14 := by rw [e2, e1]; rfl
  have w40_15 : h2 40 0 15 = a := by rw [e2, e1]; rfl
  have w40_16 : h2 40 0 16 = b := by rw [e2, e1]; rfl
  have w40_17 : h2 40 0 17 = h 40 0 17 := by rw [e2, e1]; rfl
  have w40_19 : h2 40 0 19 = 0 := by rw [e2, e1]; rfl
  have w4 : h2 4 = h 4 := by rw [e2, e1]; rfl
  have w5 : h2 5 = h 5 := by rw [e2, e1]; rfl
  have w6 : h2 6 = h 6 := by rw [e2, e1]; rfl
  have w25 : h2 25 = h 25 := by rw [e2, e1]; rfl
  have w8 : h2 8 0 = h 8 0 := by rw [e2, e1]; rfl
  have w9 : h2 9 0 = h 9 0 := by rw [e2, e1]; rfl
  have w26 : h2 26 0 = h 26 0 := by rw [e2, e1]; rfl
  have w27 : h2 27 0 = h 27 0 := by rw [e2, e1]; rfl
  have w28 : h2 28 0 = h 28 0 := by rw [e2, e1]; rfl
  have w29 : h2 29 0 = h 29 0 := by rw [e2, e1]; rfl
  have w30 : h2 30 0 = h 30 0 := by rw [e2, e1]; rfl
  have w41 : h2 41 0 = h 41 0 := by rw [e2, e1]; rfl
  have w42 : h2 42 0 = h 42 0 := by rw [e2, e1]; rfl
  have w43 : h2 43 0 = h 43 0 := by rw [e2, e1]; rfl
  have w44 : h2 44 0 = h 44 0 := by rw [e2, e1]; rfl
  have w45 : h2 45 0 = h 45 0 := by rw [e2, e1]; rfl
  have w46 : h2 46 0 = h 46 0 := by rw [e2, e1]; rfl
  have w47 : h2 47 0 = h 47 0 := by rw [e2, e1]; rfl
  have w48 : h2 48 0 = h 48 0 := by rw [e2, e1]; rfl
  have w49 : h2 49 0 = h 49 0 := by rw [e2, e1]; rfl
  have w50 : h2 50 0 = h 50 0 := by rw [e2, e1]; rfl
  have w51 : h2 51 0 = h 51 0 := by rw [e2, e1]; rfl
  have w52 : h2 52 0 = h 52 0 := by rw [e2, e1]; rfl
  have w53 : h2 53 0 = h 53 0 := by rw [e2, e1]; rfl
  have w54 : h2 54 0 = h 54 0 := by rw [e2, e1]; rfl
  have w55 : h2 55 0 = h 55 0 := by rw [e2, e1]; rfl
  have ic : (nC h : Nat) = (h 2 0 1).toNat := rfl
  unfold RL IC FIc FIv RA RB RP RDb RS nC cAr cFc cKn cRd
  simp only [w1_8, w1_9, w1_10, w1_11, w1_12, w2_1, w7_2, w7_3, w23_4, w40_1, w40_9, w40_10, w40_13, w40_14, w40_15, w40_16, w40_17, w40_19, w4, w5, w6, w25, w8, w9, w26, w27, w28, w29, w30, w41, w42, w43, w44, w45, w46, w47, w48, w49, w50, w51, w52, w53, w54, w55]
  exact ⟨⟨i1, i2, i3, i4, i5, i6, i7, i8, i9, i10, i11, by omega, by omega, i14, i15⟩, ⟨a1, a2, a3, a4, a5, a6, a7⟩, ⟨b1, b2, b3, b4, b5, b6, (by first | rfl | trivial), (by first | rfl | trivial), b9, b10⟩, ⟨p1, p2, p3, p4, p5, p6, p7, p8, p9⟩, (by first | rfl | trivial), (by first | exact Or.inl rfl | exact Or.inl trivial | trivial), fun z => absurd z (by decide)⟩
theorem s_permille {h h1 h2 : AH} {a : Int} (R : RL h) (he : (if a < 300 ∨ 700 < a then some 0 else none) = none) (e1 : h1 = hset (hset h 1 0 12 0) 1 0 11 a) (e2 : h2 = hset (hset (hset h1 40 0 0 0) 40 0 17 a) 40 0 19 0) : RL h2 := by
  obtain ⟨⟨i1, i2, i3, i4, i5, i6, i7, i8, i9, i10, i11, i12, i13, i14, i15⟩, ⟨a1, a2, a3, a4, a5, a6, a7⟩, ⟨b1, b2, b3, b4, b5, b6, b7, b8, b9, b10⟩, ⟨p1, p2, p3, p4, p5, p6, p7, p8, p9⟩, d1, d2, d3⟩ := R
  (repeat' split at he) <;> (try cases he)
  have w1_8 : h2 1 0 8 = h 1 0 8 := by rw [e2, e1]; rfl
  have w1_9 : h2 1 0 9 = h 1 0 9 := by rw [e2, e1]; rfl
  have w1_10 : h2 1 0 10 = h 1 0 10 := by rw [e2, e1]; rfl
  have w1_11 : h2 1 0 11 = a := by rw [e2, e1]; rfl
  have w1_12 : h2 1 0 12 = 0 := by rw [e2, e1]; rfl
  have w2_1 : h2 2 0 1 = h 2 0 1 := by rw [e2, e1]; rfl
  have w7_2 : h2 7 0 2 = h 7 0 2 := by rw [e2, e1]; rfl
  have w7_3 : h2 7 0 3 = h 7 0 3 := by rw [e2, e1]; rfl
  have w23_4 : h2 23 0 4 = h 23 0 4 := by rw [e2, e1]; rfl
  have w40_1 : h2 40 0 1 = h 40 0 1 := by rw [e2, e1]; rfl
  have w40_9 : h2 40 0 9 = h 40 0 9 := by rw [e2, e1]; rfl
  have w40_10 : h2 40 0 10 = h 40 0 10 := by rw [e2, e1]; rfl
  have w40_13 : h2 40 0 13 = h 40 0 13 := by rw [e2, e1]; rfl
  have w40_14 : h2 40 0 14 = h 40 0 14 := by rw [e2, e1]; rfl
  have w40_15 : h2 40 0 15 = h 40 0 15 := by rw [e2, e1]; rfl
  have w40_16 : h2 40 0 16 = h 40 0 16 := by rw [e2, e1]; rfl
  have w40_17 : h2 40 0 17 = a := by rw [e2, e1]; rfl
  have w40_19 : h2 40 0 19 = 0 := by rw [e2, e1]; rfl
  have w4 : h2 4 = h 4 := by rw [e2, e1]; rfl
  have w5 : h2 5 = h 5 := by rw [e2, e1]; rfl
  have w6 : h2 6 = h 6 := by rw [e2, e1]; rfl
  have w25 : h2 25 = h 25 := by rw [e2, e1]; rfl
  have w8 : h2 8 0 = h 8 0 := by rw [e2, e1]; rfl
  have w9 : h2 9 0 = h 9 0 := by rw [e2, e1]; rfl
  have w26 : h2 26 0 = h 26 0 := by rw [e2, e1]; rfl
  have w27 : h2 27 0 = h 27 0 := by rw [e2, e1]; rfl
  have w28 : h2 28 0 = h 28 0 := by rw [e2, e1]; rfl
  have w29 : h2 29 0 = h 29 0 := by rw [e2, e1]; rfl
  have w30 : h2 30 0 = h 30 0 := by rw [e2, e1]; rfl
  have w41 : h2 41 0 = h 41 0 := by rw [e2, e1]; rfl
  have w42 : h2 42 0 = h 42 0 := by rw [e2, e1]; rfl
  have w43 : h2 43 0 = h 43 0 := by rw [e2, e1]; rfl
  have w44 : h2 44 0 = h 44 0 := by rw [e2, e1]; rfl
  have w45 : h2 45 0 = h 45 0 := by rw [e2, e1]; rfl
  have w46 : h2 46 0 = h 46 0 := by rw [e2, e1]; rfl
  have w47 : h2 47 0 = h 47 0 := by rw [e2, e1]; rfl
  have w48 : h2 48 0 = h 48 0 := by rw [e2, e1]; rfl
  have w49 : h2 49 0 = h 49 0 := by rw [e2, e1]; rfl
  have w50 : h2 50 0 = h 50 0 := by rw [e2, e1]; rfl
  have w51 : h2 51 0 = h 51 0 := by rw [e2, e1]; rfl
  have w52 : h2 52 0 = h 52 0 := by rw [e2, e1]; rfl
  have w53 : h2 53 0 = h 53 0 := by rw [e2, e1]; rfl
  have w54 : h2 54 0 = h 54 0 := by rw [e2, e1]; rfl
  have w55 : h2 55 0 = h 55 0 := by rw [e2, e1]; rfl
  have ic : (nC h : Nat) = (h 2 0 1).toNat := rfl
  unfold RL IC FIc FIv RA RB RP RDb RS nC cAr cFc cKn cRd
  simp only [w1_8, w1_9, w1_10, w1_11, w1_12, w2_1, w7_2, w7_3, w23_4, w40_1, w40_9, w40_10, w40_13, w40_14, w40_15, w40_16, w40_17, w40_19, w4, w5, w6, w25, w8, w9, w26, w27, w28, w29, w30, w41, w42, w43, w44, w45, w46, w47, w48, w49, w50, w51, w52, w53, w54, w55]
  exact ⟨⟨i1, i2, i3, i4, i5, i6, i7, i8, i9, i10, i11, i12, i13, by omega, i15⟩, ⟨a1, a2, a3, a4, a5, a6, a7⟩, ⟨b1, b2, b3, b4, b5, b6, b7, b8, (by first | rfl | trivial), b10⟩, ⟨p1, p2, p3, p4, p5, p6, p7, p8, p9⟩, (by first | rfl | trivial), (by first | exact Or.inl rfl | exact Or.inl trivial | trivial), fun z => absurd z (by decide)⟩
theorem s_endStock {h h1 h2 : AH} {a : Int} (R : RL h) (he : (if a < -1 ∨ sumF (h 7 0 2).toNat (h 8 0) < a then some 0 else none) = none) (e1 : h1 = hset (hset h 1 0 12 0) 7 0 3 a) (e2 : h2 = hset (hset (hset h1 40 0 0 0) 40 0 13 a) 40 0 19 0) : RL h2 := by
  obtain ⟨⟨i1, i2, i3, i4, i5, i6, i7, i8, i9, i10, i11, i12, i13, i14, i15⟩, ⟨a1, a2, a3, a4, a5, a6, a7⟩, ⟨b1, b2, b3, b4, b5, b6, b7, b8, b9, b10⟩, ⟨p1, p2, p3, p4, p5, p6, p7, p8, p9⟩, d1, d2, d3⟩ := R
  (repeat' split at he) <;> (try cases he)
  have w1_8 : h2 1 0 8 = h 1 0 8 := by rw [e2, e1]; rfl
  have w1_9 : h2 1 0 9 = h 1 0 9 := by rw [e2, e1]; rfl
  have w1_10 : h2 1 0 10 = h 1 0 10 := by rw [e2, e1]; rfl
  have w1_11 : h2 1 0 11 = h 1 0 11 := by rw [e2, e1]; rfl
  have w1_12 : h2 1 0 12 = 0 := by rw [e2, e1]; rfl
  have w2_1 : h2 2 0 1 = h 2 0 1 := by rw [e2, e1]; rfl
  have w7_2 : h2 7 0 2 = h 7 0 2 := by rw [e2, e1]; rfl
  have w7_3 : h2 7 0 3 = a := by rw [e2, e1]; rfl
  have w23_4 : h2 23 0 4 = h 23 0 4 := by rw [e2, e1]; rfl
  have w40_1 : h2 40 0 1 = h 40 0 1 := by rw [e2, e1]; rfl
  have w40_9 : h2 40 0 9 = h 40 0 9 := by rw [e2, e1]; rfl
  have w40_10 : h2 40 0 10 = h 40 0 10 := by rw [e2, e1]; rfl
  have w40_13 : h2 40 0 13 = a := by rw [e2, e1]; rfl
  have w40_14 : h2 40 0 14 = h 40 0 14 := by rw [e2, e1]; rfl
  have w40_15 : h2 40 0 15 = h 40 0 15 := by rw [e2, e1]; rfl
  have w40_16 : h2 40 0 16 = h 40 0 16 := by rw [e2, e1]; rfl
  have w40_17 : h2 40 0 17 = h 40 0 17 := by rw [e2, e1]; rfl
  have w40_19 : h2 40 0 19 = 0 := by rw [e2, e1]; rfl
  have w4 : h2 4 = h 4 := by rw [e2, e1]; rfl
  have w5 : h2 5 = h 5 := by rw [e2, e1]; rfl
  have w6 : h2 6 = h 6 := by rw [e2, e1]; rfl
  have w25 : h2 25 = h 25 := by rw [e2, e1]; rfl
  have w8 : h2 8 0 = h 8 0 := by rw [e2, e1]; rfl
  have w9 : h2 9 0 = h 9 0 := by rw [e2, e1]; rfl
  have w26 : h2 26 0 = h 26 0 := by rw [e2, e1]; rfl
  have w27 : h2 27 0 = h 27 0 := by rw [e2, e1]; rfl
  have w28 : h2 28 0 = h 28 0 := by rw [e2, e1]; rfl
  have w29 : h2 29 0 = h 29 0 := by rw [e2, e1]; rfl
  have w30 : h2 30 0 = h 30 0 := by rw [e2, e1]; rfl
  have w41 : h2 41 0 = h 41 0 := by rw [e2, e1]; rfl
  have w42 : h2 42 0 = h 42 0 := by rw [e2, e1]; rfl
  have w43 : h2 43 0 = h 43 0 := by rw [e2, e1]; rfl
  have w44 : h2 44 0 = h 44 0 := by rw [e2, e1]; rfl
  have w45 : h2 45 0 = h 45 0 := by rw [e2, e1]; rfl
  have w46 : h2 46 0 = h 46 0 := by rw [e2, e1]; rfl
  have w47 : h2 47 0 = h 47 0 := by rw [e2, e1]; rfl
  have w48 : h2 48 0 = h 48 0 := by rw [e2, e1]; rfl
  have w49 : h2 49 0 = h 49 0 := by rw [e2, e1]; rfl
  have w50 : h2 50 0 = h 50 0 := by rw [e2, e1]; rfl
  have w51 : h2 51 0 = h 51 0 := by rw [e2, e1]; rfl
  have w52 : h2 52 0 = h 52 0 := by rw [e2, e1]; rfl
  have w53 : h2 53 0 = h 53 0 := by rw [e2, e1]; rfl
  have w54 : h2 54 0 = h 54 0 := by rw [e2, e1]; rfl
  have w55 : h2 55 0 = h 55 0 := by rw [e2, e1]; rfl
  have su := su_bd i9 (Nat.le_refl (h 7 0 2).toNat)
  have l12 := i9.1
  have ic : (nC h : Nat) = (h 2 0 1).toNat := rfl
  unfold RL IC FIc FIv RA RB RP RDb RS nC cAr cFc cKn cRd
  simp only [w1_8, w1_9, w1_10, w1_11, w1_12, w2_1, w7_2, w7_3, w23_4, w40_1, w40_9, w40_10, w40_13, w40_14, w40_15, w40_16, w40_17, w40_19, w4, w5, w6, w25, w8, w9, w26, w27, w28, w29, w30, w41, w42, w43, w44, w45, w46, w47, w48, w49, w50, w51, w52, w53, w54, w55]
  exact ⟨⟨i1, i2, i3, i4, i5, i6, i7, i8, i9, by omega, i11, i12, i13, i14, i15⟩, ⟨a1, a2, a3, a4, a5, a6, a7⟩, ⟨b1, b2, b3, b4, (by first | rfl | trivial), b6, b7, b8, b9, b10⟩, ⟨p1, p2, p3, p4, p5, p6, p7, p8, p9⟩, (by first | rfl | trivial), (by first | exact Or.inl rfl | exact Or.inl trivial | trivial), fun z => absurd z (by decide)⟩
theorem s_degrees {h h1 h2 : AH} {a b : Int} (R : RL h) (he : (if a < 0 ∨ 11 < a then some 1 else if b < 0 ∨ 100 < b then some 0 else none) = none) (e1 : h1 = hset (hset h 1 0 12 0) 29 0 a.toNat b) (e2 : h2 = hset (hset (hset h1 40 0 0 0) 50 0 a.toNat b) 40 0 19 0) : RL h2 := by
  obtain ⟨⟨i1, i2, i3, i4, i5, i6, i7, i8, i9, i10, i11, i12, i13, i14, i15⟩, ⟨a1, a2, a3, a4, a5, a6, a7⟩, ⟨b1, b2, b3, b4, b5, b6, b7, b8, b9, b10⟩, ⟨p1, p2, p3, p4, p5, p6, p7, p8, p9⟩, d1, d2, d3⟩ := R
  (repeat' split at he) <;> (try cases he)
  have w1_8 : h2 1 0 8 = h 1 0 8 := by rw [e2, e1]; rfl
  have w1_9 : h2 1 0 9 = h 1 0 9 := by rw [e2, e1]; rfl
  have w1_10 : h2 1 0 10 = h 1 0 10 := by rw [e2, e1]; rfl
  have w1_11 : h2 1 0 11 = h 1 0 11 := by rw [e2, e1]; rfl
  have w1_12 : h2 1 0 12 = 0 := by rw [e2, e1]; rfl
  have w2_1 : h2 2 0 1 = h 2 0 1 := by rw [e2, e1]; rfl
  have w7_2 : h2 7 0 2 = h 7 0 2 := by rw [e2, e1]; rfl
  have w7_3 : h2 7 0 3 = h 7 0 3 := by rw [e2, e1]; rfl
  have w23_4 : h2 23 0 4 = h 23 0 4 := by rw [e2, e1]; rfl
  have w40_1 : h2 40 0 1 = h 40 0 1 := by rw [e2, e1]; rfl
  have w40_9 : h2 40 0 9 = h 40 0 9 := by rw [e2, e1]; rfl
  have w40_10 : h2 40 0 10 = h 40 0 10 := by rw [e2, e1]; rfl
  have w40_13 : h2 40 0 13 = h 40 0 13 := by rw [e2, e1]; rfl
  have w40_14 : h2 40 0 14 = h 40 0 14 := by rw [e2, e1]; rfl
  have w40_15 : h2 40 0 15 = h 40 0 15 := by rw [e2, e1]; rfl
  have w40_16 : h2 40 0 16 = h 40 0 16 := by rw [e2, e1]; rfl
  have w40_17 : h2 40 0 17 = h 40 0 17 := by rw [e2, e1]; rfl
  have w40_19 : h2 40 0 19 = 0 := by rw [e2, e1]; rfl
  have w4 : h2 4 = h 4 := by rw [e2, e1]; rfl
  have w5 : h2 5 = h 5 := by rw [e2, e1]; rfl
  have w6 : h2 6 = h 6 := by rw [e2, e1]; rfl
  have w25 : h2 25 = h 25 := by rw [e2, e1]; rfl
  have w8 : h2 8 0 = h 8 0 := by rw [e2, e1]; rfl
  have w9 : h2 9 0 = h 9 0 := by rw [e2, e1]; rfl
  have w26 : h2 26 0 = h 26 0 := by rw [e2, e1]; rfl
  have w27 : h2 27 0 = h 27 0 := by rw [e2, e1]; rfl
  have w28 : h2 28 0 = h 28 0 := by rw [e2, e1]; rfl
  have w30 : h2 30 0 = h 30 0 := by rw [e2, e1]; rfl
  have w41 : h2 41 0 = h 41 0 := by rw [e2, e1]; rfl
  have w42 : h2 42 0 = h 42 0 := by rw [e2, e1]; rfl
  have w43 : h2 43 0 = h 43 0 := by rw [e2, e1]; rfl
  have w44 : h2 44 0 = h 44 0 := by rw [e2, e1]; rfl
  have w45 : h2 45 0 = h 45 0 := by rw [e2, e1]; rfl
  have w46 : h2 46 0 = h 46 0 := by rw [e2, e1]; rfl
  have w47 : h2 47 0 = h 47 0 := by rw [e2, e1]; rfl
  have w48 : h2 48 0 = h 48 0 := by rw [e2, e1]; rfl
  have w49 : h2 49 0 = h 49 0 := by rw [e2, e1]; rfl
  have w51 : h2 51 0 = h 51 0 := by rw [e2, e1]; rfl
  have w52 : h2 52 0 = h 52 0 := by rw [e2, e1]; rfl
  have w53 : h2 53 0 = h 53 0 := by rw [e2, e1]; rfl
  have w54 : h2 54 0 = h 54 0 := by rw [e2, e1]; rfl
  have w55 : h2 55 0 = h 55 0 := by rw [e2, e1]; rfl
  have v29 : h2 29 0 = fun k => if k = a.toNat then b else h 29 0 k := by rw [e2, e1]; funext k; show hset h 29 0 a.toNat b 29 0 k = _; unfold hset; simp
  have v50 : h2 50 0 = fun k => if k = a.toNat then b else h 50 0 k := by rw [e2, e1]; funext k; show hset h 50 0 a.toNat b 50 0 k = _; unfold hset; simp
  have ic : (nC h : Nat) = (h 2 0 1).toNat := rfl
  unfold RL IC FIc FIv RA RB RP RDb RS nC cAr cFc cKn cRd
  simp only [w1_8, w1_9, w1_10, w1_11, w1_12, w2_1, w7_2, w7_3, w23_4, w40_1, w40_9, w40_10, w40_13, w40_14, w40_15, w40_16, w40_17, w40_19, w4, w5, w6, w25, w8, w9, w26, w27, w28, w30, w41, w42, w43, w44, w45, w46, w47, w48, w49, w51, w52, w53, w54, w55, v29, v50]
  exact ⟨⟨i1, i2, i3, i4, i5, i6, i7, i8, i9, i10, i11, i12, i13, i14, fun k hk => by have := i15 k hk; split <;> omega⟩, ⟨a1, a2, a3, a4, a5, a6, a7⟩, ⟨b1, b2, b3, b4, b5, b6, b7, b8, b9, by rw [b10]⟩, ⟨p1, p2, p3, p4, p5, p6, p7, p8, p9⟩, (by first | rfl | trivial), (by first | exact Or.inl rfl | exact Or.inl trivial | trivial), fun z => absurd z (by decide)⟩
theorem s_deliver {h h1 h2 : AH} {a b : Int} (R : RL h) (he : (if a < 1 ∨ 1000 < a ∨ b < 0 ∨ 20000 < b then some 0 else if h 7 0 2 = 12 then some 3 else none) = none) (e1 : h1 = hset (hset (hset (hset h 1 0 12 0) 8 0 (h 7 0 2).toNat a) 9 0 (h 7 0 2).toNat b) 7 0 2 (h 7 0 2 + 1)) (e2 : h2 = hset (hset (hset (hset (hset h1 40 0 0 0) 48 0 (h1 40 0 10).toNat a) 49 0 (h1 40 0 10).toNat b) 40 0 10 (h1 40 0 10 + 1)) 40 0 19 0) : RL h2 := by
  obtain ⟨⟨i1, i2, i3, i4, i5, i6, i7, i8, i9, i10, i11, i12, i13, i14, i15⟩, ⟨a1, a2, a3, a4, a5, a6, a7⟩, ⟨b1, b2, b3, b4, b5, b6, b7, b8, b9, b10⟩, ⟨p1, p2, p3, p4, p5, p6, p7, p8, p9⟩, d1, d2, d3⟩ := R
  (repeat' split at he) <;> (try cases he)
  have w1_8 : h2 1 0 8 = h 1 0 8 := by rw [e2, e1]; rfl
  have w1_9 : h2 1 0 9 = h 1 0 9 := by rw [e2, e1]; rfl
  have w1_10 : h2 1 0 10 = h 1 0 10 := by rw [e2, e1]; rfl
  have w1_11 : h2 1 0 11 = h 1 0 11 := by rw [e2, e1]; rfl
  have w1_12 : h2 1 0 12 = 0 := by rw [e2, e1]; rfl
  have w2_1 : h2 2 0 1 = h 2 0 1 := by rw [e2, e1]; rfl
  have w7_2 : h2 7 0 2 = h 7 0 2 + 1 := by rw [e2, e1]; rfl
  have w7_3 : h2 7 0 3 = h 7 0 3 := by rw [e2, e1]; rfl
  have w23_4 : h2 23 0 4 = h 23 0 4 := by rw [e2, e1]; rfl
  have w40_1 : h2 40 0 1 = h 40 0 1 := by rw [e2, e1]; rfl
  have w40_9 : h2 40 0 9 = h 40 0 9 := by rw [e2, e1]; rfl
  have w40_10 : h2 40 0 10 = h 40 0 10 + 1 := by rw [e2, e1]; rfl
  have w40_13 : h2 40 0 13 = h 40 0 13 := by rw [e2, e1]; rfl
  have w40_14 : h2 40 0 14 = h 40 0 14 := by rw [e2, e1]; rfl
  have w40_15 : h2 40 0 15 = h 40 0 15 := by rw [e2, e1]; rfl
  have w40_16 : h2 40 0 16 = h 40 0 16 := by rw [e2, e1]; rfl
  have w40_17 : h2 40 0 17 = h 40 0 17 := by rw [e2, e1]; rfl
  have w40_19 : h2 40 0 19 = 0 := by rw [e2, e1]; rfl
  have w4 : h2 4 = h 4 := by rw [e2, e1]; rfl
  have w5 : h2 5 = h 5 := by rw [e2, e1]; rfl
  have w6 : h2 6 = h 6 := by rw [e2, e1]; rfl
  have w25 : h2 25 = h 25 := by rw [e2, e1]; rfl
  have w26 : h2 26 0 = h 26 0 := by rw [e2, e1]; rfl
  have w27 : h2 27 0 = h 27 0 := by rw [e2, e1]; rfl
  have w28 : h2 28 0 = h 28 0 := by rw [e2, e1]; rfl
  have w29 : h2 29 0 = h 29 0 := by rw [e2, e1]; rfl
  have w30 : h2 30 0 = h 30 0 := by rw [e2, e1]; rfl
  have w41 : h2 41 0 = h 41 0 := by rw [e2, e1]; rfl
  have w42 : h2 42 0 = h 42 0 := by rw [e2, e1]; rfl
  have w43 : h2 43 0 = h 43 0 := by rw [e2, e1]; rfl
  have w44 : h2 44 0 = h 44 0 := by rw [e2, e1]; rfl
  have w45 : h2 45 0 = h 45 0 := by rw [e2, e1]; rfl
  have w46 : h2 46 0 = h 46 0 := by rw [e2, e1]; rfl
  have w47 : h2 47 0 = h 47 0 := by rw [e2, e1]; rfl
  have w50 : h2 50 0 = h 50 0 := by rw [e2, e1]; rfl
  have w51 : h2 51 0 = h 51 0 := by rw [e2, e1]; rfl
  have w52 : h2 52 0 = h 52 0 := by rw [e2, e1]; rfl
  have w53 : h2 53 0 = h 53 0 := by rw [e2, e1]; rfl
  have w54 : h2 54 0 = h 54 0 := by rw [e2, e1]; rfl
  have w55 : h2 55 0 = h 55 0 := by rw [e2, e1]; rfl
  have l12 := i9.1
  have v8 : h2 8 0 = fun k => if k = (h 7 0 2).toNat then a else h 8 0 k := by rw [e2, e1]; funext k; show hset h 8 0 (h 7 0 2).toNat a 8 0 k = _; unfold hset; simp
  have v9 : h2 9 0 = fun k => if k = (h 7 0 2).toNat then b else h 9 0 k := by rw [e2, e1]; funext k; show hset h 9 0 (h 7 0 2).toNat b 9 0 k = _; unfold hset; simp
  have v48 : h2 48 0 = fun k => if k = (h 40 0 10).toNat then a else h 48 0 k := by rw [e2, e1]; funext k; show hset h 48 0 (h 40 0 10).toNat a 48 0 k = _; unfold hset; simp
  have v49 : h2 49 0 = fun k => if k = (h 40 0 10).toNat then b else h 49 0 k := by rw [e2, e1]; funext k; show hset h 49 0 (h 40 0 10).toNat b 49 0 k = _; unfold hset; simp
  have ic : (nC h : Nat) = (h 2 0 1).toNat := rfl
  have i9n : ∀ k : Nat, k < (h 7 0 2 + 1).toNat → (1 ≤ (if k = (h 7 0 2).toNat then a else h 8 0 k) ∧ (if k = (h 7 0 2).toNat then a else h 8 0 k) ≤ 1000) ∧ (0 ≤ (if k = (h 7 0 2).toNat then b else h 9 0 k) ∧ (if k = (h 7 0 2).toNat then b else h 9 0 k) ≤ 20000) := by
    intro k hk
    by_cases z : k = (h 7 0 2).toNat
    · rw [if_pos z, if_pos z]; omega
    · rw [if_neg z, if_neg z]; exact i9.2 k (by omega)
  unfold RL IC FIc FIv RA RB RP RDb RS nC cAr cFc cKn cRd
  simp only [w1_8, w1_9, w1_10, w1_11, w1_12, w2_1, w7_2, w7_3, w23_4, w40_1, w40_9, w40_10, w40_13, w40_14, w40_15, w40_16, w40_17, w40_19, w4, w5, w6, w25, w26, w27, w28, w29, w30, w41, w42, w43, w44, w45, w46, w47, w50, w51, w52, w53, w54, w55, v8, v9, v48, v49]
  exact ⟨⟨i1, i2, i3, i4, i5, i6, i7, by omega, ⟨by omega, fun k hk => i9n k hk⟩, i10, i11, i12, i13, i14, i15⟩, ⟨a1, a2, a3, a4, a5, a6, a7⟩, ⟨b1, by rw [b2], by rw [b2, b3], by rw [b2, b4], b5, b6, b7, b8, b9, b10⟩, ⟨p1, p2, p3, p4, p5, p6, p7, p8, p9⟩, (by first | rfl | trivial), (by first | exact Or.inl rfl | exact Or.inl trivial | trivial), fun z => absurd z (by decide)⟩
theorem s_reading {h h1 h2 : AH} {a b c : Int} (R : RL h) (he : (if a < 0 ∨ h 2 0 1 ≤ a then some 1 else if b < 0 ∨ 12 < b then some 1 else if c < -1 ∨ 99 < c then some 0 else none) = none) (e1 : h1 = hset (hset h 1 0 12 0) 5 a.toNat b.toNat c) (e2 : h2 = hset (hset (hset h1 40 0 0 0) 44 0 (13 * a + b).toNat c) 40 0 19 0) : RL h2 := by
  obtain ⟨⟨i1, i2, i3, i4, i5, i6, i7, i8, i9, i10, i11, i12, i13, i14, i15⟩, ⟨a1, a2, a3, a4, a5, a6, a7⟩, ⟨b1, b2, b3, b4, b5, b6, b7, b8, b9, b10⟩, ⟨p1, p2, p3, p4, p5, p6, p7, p8, p9⟩, d1, d2, d3⟩ := R
  (repeat' split at he) <;> (try cases he)
  have w1_8 : h2 1 0 8 = h 1 0 8 := by rw [e2, e1]; rfl
  have w1_9 : h2 1 0 9 = h 1 0 9 := by rw [e2, e1]; rfl
  have w1_10 : h2 1 0 10 = h 1 0 10 := by rw [e2, e1]; rfl
  have w1_11 : h2 1 0 11 = h 1 0 11 := by rw [e2, e1]; rfl
  have w1_12 : h2 1 0 12 = 0 := by rw [e2, e1]; rfl
  have w2_1 : h2 2 0 1 = h 2 0 1 := by rw [e2, e1]; rfl
  have w7_2 : h2 7 0 2 = h 7 0 2 := by rw [e2, e1]; rfl
  have w7_3 : h2 7 0 3 = h 7 0 3 := by rw [e2, e1]; rfl
  have w23_4 : h2 23 0 4 = h 23 0 4 := by rw [e2, e1]; rfl
  have w40_1 : h2 40 0 1 = h 40 0 1 := by rw [e2, e1]; rfl
  have w40_9 : h2 40 0 9 = h 40 0 9 := by rw [e2, e1]; rfl
  have w40_10 : h2 40 0 10 = h 40 0 10 := by rw [e2, e1]; rfl
  have w40_13 : h2 40 0 13 = h 40 0 13 := by rw [e2, e1]; rfl
  have w40_14 : h2 40 0 14 = h 40 0 14 := by rw [e2, e1]; rfl
  have w40_15 : h2 40 0 15 = h 40 0 15 := by rw [e2, e1]; rfl
  have w40_16 : h2 40 0 16 = h 40 0 16 := by rw [e2, e1]; rfl
  have w40_17 : h2 40 0 17 = h 40 0 17 := by rw [e2, e1]; rfl
  have w40_19 : h2 40 0 19 = 0 := by rw [e2, e1]; rfl
  have w4 : h2 4 = h 4 := by rw [e2, e1]; rfl
  have w6 : h2 6 = h 6 := by rw [e2, e1]; rfl
  have w25 : h2 25 = h 25 := by rw [e2, e1]; rfl
  have w8 : h2 8 0 = h 8 0 := by rw [e2, e1]; rfl
  have w9 : h2 9 0 = h 9 0 := by rw [e2, e1]; rfl
  have w26 : h2 26 0 = h 26 0 := by rw [e2, e1]; rfl
  have w27 : h2 27 0 = h 27 0 := by rw [e2, e1]; rfl
  have w28 : h2 28 0 = h 28 0 := by rw [e2, e1]; rfl
  have w29 : h2 29 0 = h 29 0 := by rw [e2, e1]; rfl
  have w30 : h2 30 0 = h 30 0 := by rw [e2, e1]; rfl
  have w41 : h2 41 0 = h 41 0 := by rw [e2, e1]; rfl
  have w42 : h2 42 0 = h 42 0 := by rw [e2, e1]; rfl
  have w43 : h2 43 0 = h 43 0 := by rw [e2, e1]; rfl
  have w45 : h2 45 0 = h 45 0 := by rw [e2, e1]; rfl
  have w46 : h2 46 0 = h 46 0 := by rw [e2, e1]; rfl
  have w47 : h2 47 0 = h 47 0 := by rw [e2, e1]; rfl
  have w48 : h2 48 0 = h 48 0 := by rw [e2, e1]; rfl
  have w49 : h2 49 0 = h 49 0 := by rw [e2, e1]; rfl
  have w50 : h2 50 0 = h 50 0 := by rw [e2, e1]; rfl
  have w51 : h2 51 0 = h 51 0 := by rw [e2, e1]; rfl
  have w52 : h2 52 0 = h 52 0 := by rw [e2, e1]; rfl
  have w53 : h2 53 0 = h 53 0 := by rw [e2, e1]; rfl
  have w54 : h2 54 0 = h 54 0 := by rw [e2, e1]; rfl
  have w55 : h2 55 0 = h 55 0 := by rw [e2, e1]; rfl
  have v5 : ∀ f j : Nat, h2 5 f j = if f = a.toNat ∧ j = b.toNat then c else h 5 f j := by intro f j; rw [e2, e1]; show hset h 5 a.toNat b.toNat c 5 f j = _; unfold hset; simp
  have v44 : h2 44 0 = fun k => if k = (13 * a + b).toNat then c else h 44 0 k := by rw [e2, e1]; funext k; show hset h 44 0 (13 * a + b).toNat c 44 0 k = _; unfold hset; simp
  have ic : (nC h : Nat) = (h 2 0 1).toNat := rfl
  have a3n : ∀ f t : Nat, f < (h 2 0 1).toNat → t < 13 → (if 13 * f + t = (13 * a + b).toNat then c else h 44 0 (13 * f + t)) = if f = a.toNat ∧ t = b.toNat then c else h 5 f t := by
    intro f t hf ht
    by_cases z : f = a.toNat ∧ t = b.toNat
    · rw [if_pos z, if_pos (by omega)]
    · rw [if_neg z, if_neg (by omega)]; exact a3 f t hf ht
  unfold RL IC FIc FIv RA RB RP RDb RS nC cAr cFc cKn cRd
  simp only [w1_8, w1_9, w1_10, w1_11, w1_12, w2_1, w7_2, w7_3, w23_4, w40_1, w40_9, w40_10, w40_13, w40_14, w40_15, w40_16, w40_17, w40_19, w4, w6, w25, w8, w9, w26, w27, w28, w29, w30, w41, w42, w43, w45, w46, w47, w48, w49, w50, w51, w52, w53, w54, w55, v5, v44]
  exact ⟨⟨i1, fun f hf => ⟨(i2 f hf).1, (i2 f hf).2.1, (i2 f hf).2.2.1, fun t ht => by have z : -1 ≤ h 5 f t ∧ h 5 f t ≤ 99 := (i2 f hf).2.2.2 t ht; split <;> omega⟩, i3, i4, i5, i6, i7, i8, i9, i10, i11, i12, i13, i14, i15⟩, ⟨a1, a2, fun f t hf ht => a3n f t hf ht, a4, a5, fun f t hf h6 ht => by rw [if_neg (by omega)]; exact a6 f t hf h6 ht, a7⟩, ⟨b1, b2, b3, b4, b5, b6, b7, b8, b9, b10⟩, ⟨p1, p2, p3, p4, p5, p6, p7, p8, p9⟩, (by first | rfl | trivial), (by first | exact Or.inl rfl | exact Or.inl trivial | trivial), fun z => absurd z (by decide)⟩
theorem s_leave {h h1 h2 : AH} {a b : Int} (R : RL h) (he : (if a < 0 ∨ h 2 0 1 ≤ a then some 1 else if b < 0 ∨ 11 < b then some 1 else if h 6 a.toNat b.toNat = -2 then none else some 2) = none) (e1 : h1 = hset (hset h 1 0 12 0) 6 a.toNat b.toNat (-1)) (e2 : h2 = hset (hset (hset h1 40 0 0 0) 45 0 (12 * a + b).toNat (-1)) 40 0 19 0) : RL h2 := by
  obtain ⟨⟨i1, i2, i3, i4, i5, i6, i7, i8, i9, i10, i11, i12, i13, i14, i15⟩, ⟨a1, a2, a3, a4, a5, a6, a7⟩, ⟨b1, b2, b3, b4, b5, b6, b7, b8, b9, b10⟩, ⟨p1, p2, p3, p4, p5, p6, p7, p8, p9⟩, d1, d2, d3⟩ := R
  (repeat' split at he) <;> (try cases he)
  have w1_8 : h2 1 0 8 = h 1 0 8 := by rw [e2, e1]; rfl
  have w1_9 : h2 1 0 9 = h 1 0 9 := by rw [e2, e1]; rfl
  have w1_10 : h2 1 0 10 = h 1 0 10 := by rw [e2, e1]; rfl
  have w1_11 : h2 1 0 11 = h 1 0 11 := by rw [e2, e1]; rfl
  have w1_12 : h2 1 0 12 = 0 := by rw [e2, e1]; rfl
  have w2_1 : h2 2 0 1 = h 2 0 1 := by rw [e2, e1]; rfl
  have w7_2 : h2 7 0 2 = h 7 0 2 := by rw [e2, e1]; rfl
  have w7_3 : h2 7 0 3 = h 7 0 3 := by rw [e2, e1]; rfl
  have w23_4 : h2 23 0 4 = h 23 0 4 := by rw [e2, e1]; rfl
  have w40_1 : h2 40 0 1 = h 40 0 1 := by rw [e2, e1]; rfl
  have w40_9 : h2 40 0 9 = h 40 0 9 := by rw [e2, e1]; rfl
  have w40_10 : h2 40 0 10 = h 40 0 10 := by rw [e2, e1]; rfl
  have w40_13 : h2 40 0 13 = h 40 0 13 := by rw [e2, e1]; rfl
  have w40_14 : h2 40 0 14 = h 40 0 14 := by rw [e2, e1]; rfl
  have w40_15 : h2 40 0 15 = h 40 0 15 := by rw [e2, e1]; rfl
  have w40_16 : h2 40 0 16 = h 40 0 16 := by rw [e2, e1]; rfl
  have w40_17 : h2 40 0 17 = h 40 0 17 := by rw [e2, e1]; rfl
  have w40_19 : h2 40 0 19 = 0 := by rw [e2, e1]; rfl
  have w4 : h2 4 = h 4 := by rw [e2, e1]; rfl
  have w5 : h2 5 = h 5 := by rw [e2, e1]; rfl
  have w25 : h2 25 = h 25 := by rw [e2, e1]; rfl
  have w8 : h2 8 0 = h 8 0 := by rw [e2, e1]; rfl
  have w9 : h2 9 0 = h 9 0 := by rw [e2, e1]; rfl
  have w26 : h2 26 0 = h 26 0 := by rw [e2, e1]; rfl
  have w27 : h2 27 0 = h 27 0 := by rw [e2, e1]; rfl
  have w28 : h2 28 0 = h 28 0 := by rw [e2, e1]; rfl
  have w29 : h2 29 0 = h 29 0 := by rw [e2, e1]; rfl
  have w30 : h2 30 0 = h 30 0 := by rw [e2, e1]; rfl
  have w41 : h2 41 0 = h 41 0 := by rw [e2, e1]; rfl
  have w42 : h2 42 0 = h 42 0 := by rw [e2, e1]; rfl
  have w43 : h2 43 0 = h 43 0 := by rw [e2, e1]; rfl
  have w44 : h2 44 0 = h 44 0 := by rw [e2, e1]; rfl
  have w46 : h2 46 0 = h 46 0 := by rw [e2, e1]; rfl
  have w47 : h2 47 0 = h 47 0 := by rw [e2, e1]; rfl
  have w48 : h2 48 0 = h 48 0 := by rw [e2, e1]; rfl
  have w49 : h2 49 0 = h 49 0 := by rw [e2, e1]; rfl
  have w50 : h2 50 0 = h 50 0 := by rw [e2, e1]; rfl
  have w51 : h2 51 0 = h 51 0 := by rw [e2, e1]; rfl
  have w52 : h2 52 0 = h 52 0 := by rw [e2, e1]; rfl
  have w53 : h2 53 0 = h 53 0 := by rw [e2, e1]; rfl
  have w54 : h2 54 0 = h 54 0 := by rw [e2, e1]; rfl
  have w55 : h2 55 0 = h 55 0 := by rw [e2, e1]; rfl
  have v6 : ∀ f j : Nat, h2 6 f j = if f = a.toNat ∧ j = b.toNat then (-1) else h 6 f j := by intro f j; rw [e2, e1]; show hset h 6 a.toNat b.toNat (-1) 6 f j = _; unfold hset; simp
  have v45 : h2 45 0 = fun k => if k = (12 * a + b).toNat then (-1) else h 45 0 k := by rw [e2, e1]; funext k; show hset h 45 0 (12 * a + b).toNat (-1) 45 0 k = _; unfold hset; simp
  have ic : (nC h : Nat) = (h 2 0 1).toNat := rfl
  have a4n : ∀ f t : Nat, f < (h 2 0 1).toNat → t < 12 → (if 12 * f + t = (12 * a + b).toNat then -1 else h 45 0 (12 * f + t)) = cg (if f = a.toNat ∧ t = b.toNat then -1 else h 6 f t) := by
    intro f t hf ht
    by_cases z : f = a.toNat ∧ t = b.toNat
    · rw [if_pos z, if_pos (by omega)]; unfold cg; rw [if_neg (by omega)]; skip
    · rw [if_neg z, if_neg (by omega)]; exact a4 f t hf ht
  unfold RL IC FIc FIv RA RB RP RDb RS nC cAr cFc cKn cRd
  simp only [w1_8, w1_9, w1_10, w1_11, w1_12, w2_1, w7_2, w7_3, w23_4, w40_1, w40_9, w40_10, w40_13, w40_14, w40_15, w40_16, w40_17, w40_19, w4, w5, w25, w8, w9, w26, w27, w28, w29, w30, w41, w42, w43, w44, w46, w47, w48, w49, w50, w51, w52, w53, w54, w55, v6, v45]
  exact ⟨⟨i1, i2, i3, i4, i5, i6, fun f t hf ht => by have z := i7 f t hf ht; split <;> omega, i8, i9, i10, i11, i12, i13, i14, i15⟩, ⟨a1, a2, a3, fun f t hf ht => a4n f t hf ht, a5, a6, fun f t hf h6 ht => by rw [if_neg (by omega)]; exact a7 f t hf h6 ht⟩, ⟨b1, b2, b3, b4, b5, b6, b7, b8, b9, b10⟩, ⟨p1, p2, p3, p4, p5, p6, p7, p8, p9⟩, (by first | rfl | trivial), (by first | exact Or.inl rfl | exact Or.inl trivial | trivial), fun z => absurd z (by decide)⟩
theorem s_enter {h h1 h2 : AH} {a b : Int} (R : RL h) (he : (if a < 0 ∨ h 2 0 1 ≤ a then some 1 else if b < 0 ∨ 11 < b then some 1 else if h 6 a.toNat b.toNat = -2 then (if h 23 0 4 = 20 then some 3 else none) else some 2) = none) (e1 : h1 = hset (hset (hset (hset h 1 0 12 0) 23 0 4 (h 23 0 4 + 1)) 6 a.toNat b.toNat (h 23 0 4)) 70 0 0 (h 23 0 4)) (e2 : h2 = hset (hset (hset (hset h1 40 0 0 0) 45 0 (12 * a + b).toNat (h1 40 0 9)) 40 0 9 (h1 40 0 9 + 1)) 40 0 19 0) : RL h2 := by
  obtain ⟨⟨i1, i2, i3, i4, i5, i6, i7, i8, i9, i10, i11, i12, i13, i14, i15⟩, ⟨a1, a2, a3, a4, a5, a6, a7⟩, ⟨b1, b2, b3, b4, b5, b6, b7, b8, b9, b10⟩, ⟨p1, p2, p3, p4, p5, p6, p7, p8, p9⟩, d1, d2, d3⟩ := R
  (repeat' split at he) <;> (try cases he)
  have w1_8 : h2 1 0 8 = h 1 0 8 := by rw [e2, e1]; rfl
  have w1_9 : h2 1 0 9 = h 1 0 9 := by rw [e2, e1]; rfl
  have w1_10 : h2 1 0 10 = h 1 0 10 := by rw [e2, e1]; rfl
  have w1_11 : h2 1 0 11 = h 1 0 11 := by rw [e2, e1]; rfl
  have w1_12 : h2 1 0 12 = 0 := by rw [e2, e1]; rfl
  have w2_1 : h2 2 0 1 = h 2 0 1 := by rw [e2, e1]; rfl
  have w7_2 : h2 7 0 2 = h 7 0 2 := by rw [e2, e1]; rfl
  have w7_3 : h2 7 0 3 = h 7 0 3 := by rw [e2, e1]; rfl
  have w23_4 : h2 23 0 4 = h 23 0 4 + 1 := by rw [e2, e1]; rfl
  have w40_1 : h2 40 0 1 = h 40 0 1 := by rw [e2, e1]; rfl
  have w40_9 : h2 40 0 9 = h 40 0 9 + 1 := by rw [e2, e1]; rfl
  have w40_10 : h2 40 0 10 = h 40 0 10 := by rw [e2, e1]; rfl
  have w40_13 : h2 40 0 13 = h 40 0 13 := by rw [e2, e1]; rfl
  have w40_14 : h2 40 0 14 = h 40 0 14 := by rw [e2, e1]; rfl
  have w40_15 : h2 40 0 15 = h 40 0 15 := by rw [e2, e1]; rfl
  have w40_16 : h2 40 0 16 = h 40 0 16 := by rw [e2, e1]; rfl
  have w40_17 : h2 40 0 17 = h 40 0 17 := by rw [e2, e1]; rfl
  have w40_19 : h2 40 0 19 = 0 := by rw [e2, e1]; rfl
  have w4 : h2 4 = h 4 := by rw [e2, e1]; rfl
  have w5 : h2 5 = h 5 := by rw [e2, e1]; rfl
  have w25 : h2 25 = h 25 := by rw [e2, e1]; rfl
  have w8 : h2 8 0 = h 8 0 := by rw [e2, e1]; rfl
  have w9 : h2 9 0 = h 9 0 := by rw [e2, e1]; rfl
  have w26 : h2 26 0 = h 26 0 := by rw [e2, e1]; rfl
  have w27 : h2 27 0 = h 27 0 := by rw [e2, e1]; rfl
  have w28 : h2 28 0 = h 28 0 := by rw [e2, e1]; rfl
  have w29 : h2 29 0 = h 29 0 := by rw [e2, e1]; rfl
  have w30 : h2 30 0 = h 30 0 := by rw [e2, e1]; rfl
  have w41 : h2 41 0 = h 41 0 := by rw [e2, e1]; rfl
  have w42 : h2 42 0 = h 42 0 := by rw [e2, e1]; rfl
  have w43 : h2 43 0 = h 43 0 := by rw [e2, e1]; rfl
  have w44 : h2 44 0 = h 44 0 := by rw [e2, e1]; rfl
  have w46 : h2 46 0 = h 46 0 := by rw [e2, e1]; rfl
  have w47 : h2 47 0 = h 47 0 := by rw [e2, e1]; rfl
  have w48 : h2 48 0 = h 48 0 := by rw [e2, e1]; rfl
  have w49 : h2 49 0 = h 49 0 := by rw [e2, e1]; rfl
  have w50 : h2 50 0 = h 50 0 := by rw [e2, e1]; rfl
  have w51 : h2 51 0 = h 51 0 := by rw [e2, e1]; rfl
  have w52 : h2 52 0 = h 52 0 := by rw [e2, e1]; rfl
  have w53 : h2 53 0 = h 53 0 := by rw [e2, e1]; rfl
  have w54 : h2 54 0 = h 54 0 := by rw [e2, e1]; rfl
  have w55 : h2 55 0 = h 55 0 := by rw [e2, e1]; rfl
  have v6 : ∀ f j : Nat, h2 6 f j = if f = a.toNat ∧ j = b.toNat then (h 23 0 4) else h 6 f j := by intro f j; rw [e2, e1]; show hset h 6 a.toNat b.toNat (h 23 0 4) 6 f j = _; unfold hset; simp
  have v45 : h2 45 0 = fun k => if k = (12 * a + b).toNat then (h 40 0 9) else h 45 0 k := by rw [e2, e1]; funext k; show hset h 45 0 (12 * a + b).toNat (h 40 0 9) 45 0 k = _; unfold hset; simp
  have ic : (nC h : Nat) = (h 2 0 1).toNat := rfl
  have a4n : ∀ f t : Nat, f < (h 2 0 1).toNat → t < 12 → (if 12 * f + t = (12 * a + b).toNat then h 40 0 9 else h 45 0 (12 * f + t)) = cg (if f = a.toNat ∧ t = b.toNat then h 23 0 4 else h 6 f t) := by
    intro f t hf ht
    by_cases z : f = a.toNat ∧ t = b.toNat
    · rw [if_pos z, if_pos (by omega)]; unfold cg; rw [if_neg (by omega)]; exact b1
    · rw [if_neg z, if_neg (by omega)]; exact a4 f t hf ht
  unfold RL IC FIc FIv RA RB RP RDb RS nC cAr cFc cKn cRd
  simp only [w1_8, w1_9, w1_10, w1_11, w1_12, w2_1, w7_2, w7_3, w23_4, w40_1, w40_9, w40_10, w40_13, w40_14, w40_15, w40_16, w40_17, w40_19, w4, w5, w25, w8, w9, w26, w27, w28, w29, w30, w41, w42, w43, w44, w46, w47, w48, w49, w50, w51, w52, w53, w54, w55, v6, v45]
  exact ⟨⟨i1, i2, i3, i4, by omega, fun f hf => by have z := i6 f hf; omega, fun f t hf ht => by have z := i7 f t hf ht; split <;> omega, i8, i9, i10, i11, i12, i13, i14, i15⟩, ⟨a1, a2, a3, fun f t hf ht => a4n f t hf ht, a5, a6, fun f t hf h6 ht => by rw [if_neg (by omega)]; exact a7 f t hf h6 ht⟩, ⟨by rw [b1], b2, b3, b4, b5, b6, b7, b8, b9, b10⟩, ⟨p1, p2, p3, p4, p5, fun r hr ht => p6 r hr (by omega), p7, p8, p9⟩, (by first | rfl | trivial), (by first | exact Or.inl rfl | exact Or.inl trivial | trivial), fun z => absurd z (by decide)⟩
theorem s_flat {h h1 h2 : AH} {a b c : Int} (R : RL h) (he : (if a < 1 ∨ 50 < a ∨ b < 0 ∨ 50 < b ∨ c < 1 ∨ 2 < c then some 0 else if h 2 0 1 = 6 then some 3 else none) = none) (e1 : h1 = hset (hset (hset (hset (hset (hset h 1 0 12 0) 4 (h 2 0 1).toNat 0 a) 4 (h 2 0 1).toNat 1 b) 4 (h 2 0 1).toNat 2 c) 2 0 1 (h 2 0 1 + 1)) 70 0 0 (h 2 0 1)) (e2 : h2 = hset (hset (hfill (hfill (hset (hset (hset (hset (hset (hset h1 40 0 0 0) 41 0 (h1 40 0 1).toNat a) 42 0 (h1 40 0 1).toNat b) 43 0 (h1 40 0 1).toNat c) 46 0 (h1 40 0 1).toNat (-1)) 47 0 (h1 40 0 1).toNat (-1)) 44 0 (13 * (h1 40 0 1).toNat) 13 (-1)) 45 0 (12 * (h1 40 0 1).toNat) 12 (-5)) 40 0 1 (h1 40 0 1 + 1)) 40 0 19 0) : RL h2 := by
  obtain ⟨⟨i1, i2, i3, i4, i5, i6, i7, i8, i9, i10, i11, i12, i13, i14, i15⟩, ⟨a1, a2, a3, a4, a5, a6, a7⟩, ⟨b1, b2, b3, b4, b5, b6, b7, b8, b9, b10⟩, ⟨p1, p2, p3, p4, p5, p6, p7, p8, p9⟩, d1, d2, d3⟩ := R
  (repeat' split at he) <;> (try cases he)
  have w1_8 : h2 1 0 8 = h 1 0 8 := by rw [e2, e1]; rfl
  have w1_9 : h2 1 0 9 = h 1 0 9 := by rw [e2, e1]; rfl
  have w1_10 : h2 1 0 10 = h 1 0 10 := by rw [e2, e1]; rfl
  have w1_11 : h2 1 0 11 = h 1 0 11 := by rw [e2, e1]; rfl
  have w1_12 : h2 1 0 12 = 0 := by rw [e2, e1]; rfl
  have w2_1 : h2 2 0 1 = h 2 0 1 + 1 := by rw [e2, e1]; rfl
  have w7_2 : h2 7 0 2 = h 7 0 2 := by rw [e2, e1]; rfl
  have w7_3 : h2 7 0 3 = h 7 0 3 := by rw [e2, e1]; rfl
  have w23_4 : h2 23 0 4 = h 23 0 4 := by rw [e2, e1]; rfl
  have w40_1 : h2 40 0 1 = h 40 0 1 + 1 := by rw [e2, e1]; rfl
  have w40_9 : h2 40 0 9 = h 40 0 9 := by rw [e2, e1]; rfl
  have w40_10 : h2 40 0 10 = h 40 0 10 := by rw [e2, e1]; rfl
  have w40_13 : h2 40 0 13 = h 40 0 13 := by rw [e2, e1]; rfl
  have w40_14 : h2 40 0 14 = h 40 0 14 := by rw [e2, e1]; rfl
  have w40_15 : h2 40 0 15 = h 40 0 15 := by rw [e2, e1]; rfl
  have w40_16 : h2 40 0 16 = h 40 0 16 := by rw [e2, e1]; rfl
  have w40_17 : h2 40 0 17 = h 40 0 17 := by rw [e2, e1]; rfl
  have w40_19 : h2 40 0 19 = 0 := by rw [e2, e1]; rfl
  have w5 : h2 5 = h 5 := by rw [e2, e1]; rfl
  have w6 : h2 6 = h 6 := by rw [e2, e1]; rfl
  have w25 : h2 25 = h 25 := by rw [e2, e1]; rfl
  have w8 : h2 8 0 = h 8 0 := by rw [e2, e1]; rfl
  have w9 : h2 9 0 = h 9 0 := by rw [e2, e1]; rfl
  have w26 : h2 26 0 = h 26 0 := by rw [e2, e1]; rfl
  have w27 : h2 27 0 = h 27 0 := by rw [e2, e1]; rfl
  have w28 : h2 28 0 = h 28 0 := by rw [e2, e1]; rfl
  have w29 : h2 29 0 = h 29 0 := by rw [e2, e1]; rfl
  have w30 : h2 30 0 = h 30 0 := by rw [e2, e1]; rfl
  have w48 : h2 48 0 = h 48 0 := by rw [e2, e1]; rfl
  have w49 : h2 49 0 = h 49 0 := by rw [e2, e1]; rfl
  have w50 : h2 50 0 = h 50 0 := by rw [e2, e1]; rfl
  have w51 : h2 51 0 = h 51 0 := by rw [e2, e1]; rfl
  have w52 : h2 52 0 = h 52 0 := by rw [e2, e1]; rfl
  have w53 : h2 53 0 = h 53 0 := by rw [e2, e1]; rfl
  have w54 : h2 54 0 = h 54 0 := by rw [e2, e1]; rfl
  have w55 : h2 55 0 = h 55 0 := by rw [e2, e1]; rfl
  have v4 : ∀ f j : Nat, h2 4 f j = if f = (h 2 0 1).toNat then (if j = 2 then c else if j = 1 then b else if j = 0 then a else h 4 f j) else h 4 f j := by intro f j; rw [e2, e1]; show hset (hset (hset h 4 (h 2 0 1).toNat 0 a) 4 (h 2 0 1).toNat 1 b) 4 (h 2 0 1).toNat 2 c 4 f j = _; unfold hset; by_cases z : f = (h 2 0 1).toNat <;> simp [z]
  have u0 : ∀ f : Nat, h2 4 f 0 = if f = (h 2 0 1).toNat then a else h 4 f 0 := fun f => by rw [v4]; split <;> rfl
  have u1 : ∀ f : Nat, h2 4 f 1 = if f = (h 2 0 1).toNat then b else h 4 f 1 := fun f => by rw [v4]; split <;> rfl
  have u2 : ∀ f : Nat, h2 4 f 2 = if f = (h 2 0 1).toNat then c else h 4 f 2 := fun f => by rw [v4]; split <;> rfl
  have u3 : ∀ f : Nat, h2 4 f 3 = h 4 f 3 := fun f => by rw [v4]; split <;> rfl
  have u4 : ∀ f : Nat, h2 4 f 4 = h 4 f 4 := fun f => by rw [v4]; split <;> rfl
  have v41 : h2 41 0 = fun k => if k = (h 2 0 1).toNat then a else h 41 0 k := by rw [e2, e1]; funext k; show hset h 41 0 (h 40 0 1).toNat a 41 0 k = _; rw [a1]; unfold hset; simp
  have v42 : h2 42 0 = fun k => if k = (h 2 0 1).toNat then b else h 42 0 k := by rw [e2, e1]; funext k; show hset h 42 0 (h 40 0 1).toNat b 42 0 k = _; rw [a1]; unfold hset; simp
  have v43 : h2 43 0 = fun k => if k = (h 2 0 1).toNat then c else h 43 0 k := by rw [e2, e1]; funext k; show hset h 43 0 (h 40 0 1).toNat c 43 0 k = _; rw [a1]; unfold hset; simp
  have v46 : h2 46 0 = fun k => if k = (h 2 0 1).toNat then (-1) else h 46 0 k := by rw [e2, e1]; funext k; show hset h 46 0 (h 40 0 1).toNat (-1) 46 0 k = _; rw [a1]; unfold hset; simp
  have v47 : h2 47 0 = fun k => if k = (h 2 0 1).toNat then (-1) else h 47 0 k := by rw [e2, e1]; funext k; show hset h 47 0 (h 40 0 1).toNat (-1) 47 0 k = _; rw [a1]; unfold hset; simp
  have v44 : h2 44 0 = fun k => if 13 * (h 2 0 1).toNat ≤ k ∧ k < 13 * (h 2 0 1).toNat + 13 then (-1) else h 44 0 k := by rw [e2, e1]; funext k; show hfill h 44 0 (13 * (h 40 0 1).toNat) 13 (-1) 44 0 k = _; rw [a1]; unfold hfill; simp
  have v45 : h2 45 0 = fun k => if 12 * (h 2 0 1).toNat ≤ k ∧ k < 12 * (h 2 0 1).toNat + 12 then (-5) else h 45 0 k := by rw [e2, e1]; funext k; show hfill h 45 0 (12 * (h 40 0 1).toNat) 12 (-5) 45 0 k = _; rw [a1]; unfold hfill; simp
  have ic : (nC h : Nat) = (h 2 0 1).toNat := rfl
  have i3n : ∀ f : Nat, f < (h 2 0 1 + 1).toNat → 1 ≤ if f = (h 2 0 1).toNat then a else h 4 f 0 := by
    intro f hf
    by_cases z : f = (h 2 0 1).toNat
    · rw [if_pos z]; omega
    · rw [if_neg z]; exact i3 f (by show f < (h 2 0 1).toNat; omega)
  have a2n : ∀ f : Nat, f < (h 2 0 1 + 1).toNat → (if f = (h 2 0 1).toNat then a else h 41 0 f) = (if f = (h 2 0 1).toNat then a else h 4 f 0) ∧ (if f = (h 2 0 1).toNat then b else h 42 0 f) = (if f = (h 2 0 1).toNat then b else h 4 f 1) ∧ (if f = (h 2 0 1).toNat then c else h 43 0 f) = (if f = (h 2 0 1).toNat then c else h 4 f 2) ∧ (if f = (h 2 0 1).toNat then -1 else h 46 0 f) = h 4 f 3 ∧ (if f = (h 2 0 1).toNat then -1 else h 47 0 f) = h 4 f 4 := by
    intro f hf
    by_cases z : f = (h 2 0 1).toNat
    · simp only [if_pos z]
      have y := a5 f (by show (h 2 0 1).toNat ≤ f; omega) (by omega)
      exact ⟨trivial, trivial, trivial, y.1.symm, y.2.symm⟩
    · simp only [if_neg z]
      exact a2 f (by show f < (h 2 0 1).toNat; omega)
  have a3n : ∀ f t : Nat, f < (h 2 0 1 + 1).toNat → t < 13 → (if 13 * (h 2 0 1).toNat ≤ 13 * f + t ∧ 13 * f + t < 13 * (h 2 0 1).toNat + 13 then -1 else h 44 0 (13 * f + t)) = h 5 f t := by
    intro f t hf ht
    by_cases z : f = (h 2 0 1).toNat
    · rw [if_pos (by omega)]; exact (a6 f t (by show (h 2 0 1).toNat ≤ f; omega) (by omega) ht).symm
    · rw [if_neg (by omega)]; exact a3 f t (by show f < (h 2 0 1).toNat; omega) ht
  have a4n : ∀ f t : Nat, f < (h 2 0 1 + 1).toNat → t < 12 → (if 12 * (h 2 0 1).toNat ≤ 12 * f + t ∧ 12 * f + t < 12 * (h 2 0 1).toNat + 12 then -5 else h 45 0 (12 * f + t)) = cg (h 6 f t) := by
    intro f t hf ht
    by_cases z : f = (h 2 0 1).toNat
    · rw [if_pos (by omega), a7 f t (by show (h 2 0 1).toNat ≤ f; omega) (by omega) ht]; rfl
    · rw [if_neg (by omega)]; exact a4 f t (by show f < (h 2 0 1).toNat; omega) ht
  unfold RL IC FIc FIv RA RB RP RDb RS nC cAr cFc cKn cRd
  simp only [w1_8, w1_9, w1_10, w1_11, w1_12, w2_1, w7_2, w7_3, w23_4, w40_1, w40_9, w40_10, w40_13, w40_14, w40_15, w40_16, w40_17, w40_19, w5, w6, w25, w8, w9, w26, w27, w28, w29, w30, w48, w49, w50, w51, w52, w53, w54, w55, u0, u1, u2, u3, u4, v41, v42, v43, v44, v45, v46, v47]
  exact ⟨⟨by omega, fun f hf => ⟨by have z : 0 ≤ h 4 f 0 ∧ h 4 f 0 ≤ 50 := (i2 f hf).1; split <;> omega, by have z : 0 ≤ h 4 f 2 ∧ h 4 f 2 ≤ 2 := (i2 f hf).2.1; split <;> omega, (i2 f hf).2.2.1, (i2 f hf).2.2.2⟩, fun f hf => i3n f hf, fun f hf => by have z := i4 f hf; split <;> omega, i5, i6, i7, i8, i9, i10, i11, i12, i13, i14, i15⟩, ⟨by rw [a1], fun f hf => a2n f hf, fun f t hf ht => a3n f t hf ht, fun f t hf ht => a4n f t hf ht, fun f hf h6 => a5 f (by show (h 2 0 1).toNat ≤ f; omega) h6, fun f t hf h6 ht => a6 f t (by show (h 2 0 1).toNat ≤ f; omega) h6 ht, fun f t hf h6 ht => a7 f t (by show (h 2 0 1).toNat ≤ f; omega) h6 ht⟩, ⟨b1, b2, b3, b4, b5, b6, b7, b8, b9, b10⟩, ⟨p1, p2, p3, p4, p5, p6, p7, p8, p9⟩, (by first | rfl | trivial), (by first | exact Or.inl rfl | exact Or.inl trivial | trivial), fun z => absurd z (by decide)⟩
theorem s_prepay {h h1 h2 : AH} {a b : Int} (R : RL h) (he : (if a < 0 ∨ h 23 0 4 ≤ a then some 1 else if b < 0 ∨ 20000 < b ∨ 1000000 < h 27 0 a.toNat + b then some 0 else none) = none) (e1 : h1 = hset h 27 0 a.toNat (h 27 0 a.toNat + b)) (e2 : h2 = hset (hset h1 40 0 0 0) 53 0 a.toNat (h1 53 0 a.toNat + b)) : RL h2 := by
  obtain ⟨⟨i1, i2, i3, i4, i5, i6, i7, i8, i9, i10, i11, i12, i13, i14, i15⟩, ⟨a1, a2, a3, a4, a5, a6, a7⟩, ⟨b1, b2, b3, b4, b5, b6, b7, b8, b9, b10⟩, ⟨p1, p2, p3, p4, p5, p6, p7, p8, p9⟩, d1, d2, d3⟩ := R
  (repeat' split at he) <;> (try cases he)
  have w1_8 : h2 1 0 8 = h 1 0 8 := by rw [e2, e1]; rfl
  have w1_9 : h2 1 0 9 = h 1 0 9 := by rw [e2, e1]; rfl
  have w1_10 : h2 1 0 10 = h 1 0 10 := by rw [e2, e1]; rfl
  have w1_11 : h2 1 0 11 = h 1 0 11 := by rw [e2, e1]; rfl
  have w1_12 : h2 1 0 12 = h 1 0 12 := by rw [e2, e1]; rfl
  have w2_1 : h2 2 0 1 = h 2 0 1 := by rw [e2, e1]; rfl
  have w7_2 : h2 7 0 2 = h 7 0 2 := by rw [e2, e1]; rfl
  have w7_3 : h2 7 0 3 = h 7 0 3 := by rw [e2, e1]; rfl
  have w23_4 : h2 23 0 4 = h 23 0 4 := by rw [e2, e1]; rfl
  have w40_1 : h2 40 0 1 = h 40 0 1 := by rw [e2, e1]; rfl
  have w40_9 : h2 40 0 9 = h 40 0 9 := by rw [e2, e1]; rfl
  have w40_10 : h2 40 0 10 = h 40 0 10 := by rw [e2, e1]; rfl
  have w40_13 : h2 40 0 13 = h 40 0 13 := by rw [e2, e1]; rfl
  have w40_14 : h2 40 0 14 = h 40 0 14 := by rw [e2, e1]; rfl
  have w40_15 : h2 40 0 15 = h 40 0 15 := by rw [e2, e1]; rfl
  have w40_16 : h2 40 0 16 = h 40 0 16 := by rw [e2, e1]; rfl
  have w40_17 : h2 40 0 17 = h 40 0 17 := by rw [e2, e1]; rfl
  have w40_19 : h2 40 0 19 = h 40 0 19 := by rw [e2, e1]; rfl
  have w4 : h2 4 = h 4 := by rw [e2, e1]; rfl
  have w5 : h2 5 = h 5 := by rw [e2, e1]; rfl
  have w6 : h2 6 = h 6 := by rw [e2, e1]; rfl
  have w25 : h2 25 = h 25 := by rw [e2, e1]; rfl
  have w8 : h2 8 0 = h 8 0 := by rw [e2, e1]; rfl
  have w9 : h2 9 0 = h 9 0 := by rw [e2, e1]; rfl
  have w26 : h2 26 0 = h 26 0 := by rw [e2, e1]; rfl
  have w28 : h2 28 0 = h 28 0 := by rw [e2, e1]; rfl
  have w29 : h2 29 0 = h 29 0 := by rw [e2, e1]; rfl
  have w30 : h2 30 0 = h 30 0 := by rw [e2, e1]; rfl
  have w41 : h2 41 0 = h 41 0 := by rw [e2, e1]; rfl
  have w42 : h2 42 0 = h 42 0 := by rw [e2, e1]; rfl
  have w43 : h2 43 0 = h 43 0 := by rw [e2, e1]; rfl
  have w44 : h2 44 0 = h 44 0 := by rw [e2, e1]; rfl
  have w45 : h2 45 0 = h 45 0 := by rw [e2, e1]; rfl
  have w46 : h2 46 0 = h 46 0 := by rw [e2, e1]; rfl
  have w47 : h2 47 0 = h 47 0 := by rw [e2, e1]; rfl
  have w48 : h2 48 0 = h 48 0 := by rw [e2, e1]; rfl
  have w49 : h2 49 0 = h 49 0 := by rw [e2, e1]; rfl
  have w50 : h2 50 0 = h 50 0 := by rw [e2, e1]; rfl
  have w51 : h2 51 0 = h 51 0 := by rw [e2, e1]; rfl
  have w52 : h2 52 0 = h 52 0 := by rw [e2, e1]; rfl
  have w54 : h2 54 0 = h 54 0 := by rw [e2, e1]; rfl
  have w55 : h2 55 0 = h 55 0 := by rw [e2, e1]; rfl
  have v27 : h2 27 0 = fun k => if k = a.toNat then h 27 0 a.toNat + b else h 27 0 k := by rw [e2, e1]; funext k; show hset h 27 0 a.toNat (h 27 0 a.toNat + b) 27 0 k = _; unfold hset; simp
  have v53 : h2 53 0 = fun k => if k = a.toNat then h 53 0 a.toNat + b else h 53 0 k := by rw [e2, e1]; funext k; show hset h 53 0 a.toNat (h 53 0 a.toNat + b) 53 0 k = _; unfold hset; simp
  have eb : billR h2 = billR h := billR_fr (by rw [e2, e1]; rfl) (by rw [e2, e1]; rfl) (by rw [e2, e1]; rfl) (by rw [e2, e1]; rfl) (by rw [e2, e1]; rfl) (by rw [e2, e1]; rfl) (by rw [e2, e1]; rfl)
  have y := p2 a.toNat (by omega)
  have ic : (nC h : Nat) = (h 2 0 1).toNat := rfl
  unfold RL IC FIc FIv RA RB RP RDb RS nC cAr cFc cKn cRd
  simp only [w1_8, w1_9, w1_10, w1_11, w1_12, w2_1, w7_2, w7_3, w23_4, w40_1, w40_9, w40_10, w40_13, w40_14, w40_15, w40_16, w40_17, w40_19, w4, w5, w6, w25, w8, w9, w26, w28, w29, w30, w41, w42, w43, w44, w45, w46, w47, w48, w49, w50, w51, w52, w54, w55, v27, v53, eb]
  exact ⟨⟨i1, i2, i3, i4, i5, i6, i7, i8, i9, i10, i11, i12, i13, i14, i15⟩, ⟨a1, a2, a3, a4, a5, a6, a7⟩, ⟨b1, b2, b3, b4, b5, b6, b7, b8, b9, b10⟩, ⟨by rw [p1], fun k hk => by have z := p2 k hk; split <;> omega, p3, p4, p5, p6, p7, p8, p9⟩, d1, d2, d3⟩

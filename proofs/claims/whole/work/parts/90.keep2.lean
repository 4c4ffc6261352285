/-! The relation is kept: sending, billing. -/
theorem sumF_tail {g : Nat → Int} {T : Nat} : ∀ {n : Nat}, T ≤ n → (∀ k, T ≤ k → k < n → g k = 0) → sumF n g = sumF T g := by
  intro n
  induction n with
  | zero => intro h _; rw [show T = 0 by omega]
  | succ n ih =>
    intro h hz
    by_cases c : T = n + 1
    · rw [c]
    · rw [sumF_succ, ih (by omega) (fun k h1 h2 => hz k h1 (by omega)), hz n (by omega) (by omega), Int.add_zero]
theorem so_ow {h : AH} (S : RS h) : soR h 20 = owC h 0 ∧ (∀ r : Nat, r < 20 → soR h r = owC h (r + 1)) ∧ ∀ r : Nat, r < 20 → h 23 0 4 ≤ (r : Int) → owC h (r + 1) = 0 := by
  obtain ⟨s1, s2, s3⟩ := S
  refine ⟨?_, fun r hr => ?_, fun r hr ht => ?_⟩
  · unfold soR owC
    rw [show 3 * 20 = 60 + 0 from rfl, show 60 + 0 + 1 = 60 + 1 from rfl, show 60 + 0 + 2 = 60 + 2 from rfl, s1 0 (by omega), s1 1 (by omega), s1 2 (by omega)]
  · have a := s2 r 0 hr (by omega)
    rw [Nat.add_zero] at a
    unfold soR owC
    rw [a, s2 r 1 hr (by omega), s2 r 2 hr (by omega)]
  · unfold owC
    rw [s3 r 0 hr (by omega) ht, s3 r 1 hr (by omega) ht, s3 r 2 hr (by omega) ht]
    rfl
theorem s_send {h h1 h2 : AH} {v : Int} (R : RL h) (hb : h 1 0 12 ≠ 0) (e1 : h1 = hset (PO h (h 23 0 4 + 1).toNat) 70 0 0 v) (e2 : h2 = PR (hset h1 40 0 0 0) 21) : RL h2 ∧ sumF (h 23 0 4 + 1).toNat (dfC h) = sumF 21 (dfR (hset h1 40 0 0 0)) := by
  obtain ⟨⟨i1, i2, i3, i4, i5, i6, i7, i8, i9, i10, i11, i12, i13, i14, i15⟩, ⟨a1, a2, a3, a4, a5, a6, a7⟩, ⟨b1, b2, b3, b4, b5, b6, b7, b8, b9, b10⟩, ⟨p1, p2, p3, p4, p5, p6, p7, p8, p9⟩, d1, d2, d3⟩ := R
  have hb1 : h 1 0 12 = 1 := by omega
  obtain ⟨bn, pt, S⟩ := d3 hb1
  obtain ⟨o1, o2, o3⟩ := so_ow S
  have k52 : hset h1 40 0 0 0 52 = h 52 := by rw [hset_fr _ _ _ _ (by decide), e1, hset_fr _ _ _ _ (by decide), PO_fr _ _ (by decide)]
  have k54 : hset h1 40 0 0 0 54 = h 54 := by rw [hset_fr _ _ _ _ (by decide), e1, hset_fr _ _ _ _ (by decide), PO_fr _ _ (by decide)]
  have k55 : hset h1 40 0 0 0 55 = h 55 := by rw [hset_fr _ _ _ _ (by decide), e1, hset_fr _ _ _ _ (by decide), PO_fr _ _ (by decide)]
  have ks : soR (hset h1 40 0 0 0) = soR h := by funext r; unfold soR; rw [k52]
  have kd : dfR (hset h1 40 0 0 0) = fun j => if soR h j - h 54 0 j ≠ 0 then 1 else 0 := by funext j; unfold dfR; rw [ks, k54]
  have v54 : ∀ j : Nat, h2 54 0 j = if j < 21 then soR h j else h 54 0 j := fun j => by rw [e2]; unfold PR; rw [if_neg (by omega), ks, k54]; by_cases z : j < 21 <;> simp [z]
  have v55 : ∀ j : Nat, h2 55 0 j = if j < 21 then soR h j - h 54 0 j else h 55 0 j := fun j => by rw [e2]; unfold PR; rw [ks, k54, k55]; by_cases z : j < 21 <;> simp [z]
  have g26 : h2 26 = PO h (h 23 0 4 + 1).toNat 26 := by rw [e2, PR_fr _ _ (by decide), hset_fr _ _ _ _ (by decide), e1, hset_fr _ _ _ _ (by decide)]
  have g28 : h2 28 = PO h (h 23 0 4 + 1).toNat 28 := by rw [e2, PR_fr _ _ (by decide), hset_fr _ _ _ _ (by decide), e1, hset_fr _ _ _ _ (by decide)]
  have v26 : ∀ j : Nat, h2 26 0 j = if j < (h 23 0 4 + 1).toNat then owC h j - h 28 0 j else h 26 0 j := fun j => by rw [g26]; unfold PO; by_cases z : j < (h 23 0 4 + 1).toNat <;> simp [z]
  have v28 : ∀ j : Nat, h2 28 0 j = if j < (h 23 0 4 + 1).toNat then owC h j else h 28 0 j := fun j => by rw [g28]; unfold PO; by_cases z : j < (h 23 0 4 + 1).toNat <;> simp [z]
  have w1_8 : h2 1 0 8 = h 1 0 8 := by rw [e2, PR_fr _ _ (by decide), hset_tag _ _ (by decide), e1, hset_tag _ _ (by decide), PO_fr _ _ (by decide)]
  have w1_9 : h2 1 0 9 = h 1 0 9 := by rw [e2, PR_fr _ _ (by decide), hset_tag _ _ (by decide), e1, hset_tag _ _ (by decide), PO_fr _ _ (by decide)]
  have w1_10 : h2 1 0 10 = h 1 0 10 := by rw [e2, PR_fr _ _ (by decide), hset_tag _ _ (by decide), e1, hset_tag _ _ (by decide), PO_fr _ _ (by decide)]
  have w1_11 : h2 1 0 11 = h 1 0 11 := by rw [e2, PR_fr _ _ (by decide), hset_tag _ _ (by decide), e1, hset_tag _ _ (by decide), PO_fr _ _ (by decide)]
  have w1_12 : h2 1 0 12 = h 1 0 12 := by rw [e2, PR_fr _ _ (by decide), hset_tag _ _ (by decide), e1, hset_tag _ _ (by decide), PO_fr _ _ (by decide)]
  have w2_1 : h2 2 0 1 = h 2 0 1 := by rw [e2, PR_fr _ _ (by decide), hset_tag _ _ (by decide), e1, hset_tag _ _ (by decide), PO_fr _ _ (by decide)]
  have w7_2 : h2 7 0 2 = h 7 0 2 := by rw [e2, PR_fr _ _ (by decide), hset_tag _ _ (by decide), e1, hset_tag _ _ (by decide), PO_fr _ _ (by decide)]
  have w7_3 : h2 7 0 3 = h 7 0 3 := by rw [e2, PR_fr _ _ (by decide), hset_tag _ _ (by decide), e1, hset_tag _ _ (by decide), PO_fr _ _ (by decide)]
  have w23_4 : h2 23 0 4 = h 23 0 4 := by rw [e2, PR_fr _ _ (by decide), hset_tag _ _ (by decide), e1, hset_tag _ _ (by decide), PO_fr _ _ (by decide)]
  have w40_1 : h2 40 0 1 = h 40 0 1 := by rw [e2, PR_fr _ _ (by decide), hset_slot _ _ (by decide), e1, hset_tag _ _ (by decide), PO_fr _ _ (by decide)]
  have w40_9 : h2 40 0 9 = h 40 0 9 := by rw [e2, PR_fr _ _ (by decide), hset_slot _ _ (by decide), e1, hset_tag _ _ (by decide), PO_fr _ _ (by decide)]
  have w40_10 : h2 40 0 10 = h 40 0 10 := by rw [e2, PR_fr _ _ (by decide), hset_slot _ _ (by decide), e1, hset_tag _ _ (by decide), PO_fr _ _ (by decide)]
  have w40_13 : h2 40 0 13 = h 40 0 13 := by rw [e2, PR_fr _ _ (by decide), hset_slot _ _ (by decide), e1, hset_tag _ _ (by decide), PO_fr _ _ (by decide)]
  have w40_14 : h2 40 0 14 = h 40 0 14 := by rw [e2, PR_fr _ _ (by decide), hset_slot _ _ (by decide), e1, hset_tag _ _ (by decide), PO_fr _ _ (by decide)]
  have w40_15 : h2 40 0 15 = h 40 0 15 := by rw [e2, PR_fr _ _ (by decide), hset_slot _ _ (by decide), e1, hset_tag _ _ (by decide), PO_fr _ _ (by decide)]
  have w40_16 : h2 40 0 16 = h 40 0 16 := by rw [e2, PR_fr _ _ (by decide), hset_slot _ _ (by decide), e1, hset_tag _ _ (by decide), PO_fr _ _ (by decide)]
  have w40_17 : h2 40 0 17 = h 40 0 17 := by rw [e2, PR_fr _ _ (by decide), hset_slot _ _ (by decide), e1, hset_tag _ _ (by decide), PO_fr _ _ (by decide)]
  have w40_19 : h2 40 0 19 = h 40 0 19 := by rw [e2, PR_fr _ _ (by decide), hset_slot _ _ (by decide), e1, hset_tag _ _ (by decide), PO_fr _ _ (by decide)]
  have w4 : h2 4 = h 4 := by rw [e2, PR_fr _ _ (by decide), hset_fr _ _ _ _ (by decide), e1, hset_fr _ _ _ _ (by decide), PO_fr _ _ (by decide)]
  have w5 : h2 5 = h 5 := by rw [e2, PR_fr _ _ (by decide), hset_fr _ _ _ _ (by decide), e1, hset_fr _ _ _ _ (by decide), PO_fr _ _ (by decide)]
  have w6 : h2 6 = h 6 := by rw [e2, PR_fr _ _ (by decide), hset_fr _ _ _ _ (by decide), e1, hset_fr _ _ _ _ (by decide), PO_fr _ _ (by decide)]
  have w25 : h2 25 = h 25 := by rw [e2, PR_fr _ _ (by decide), hset_fr _ _ _ _ (by decide), e1, hset_fr _ _ _ _ (by decide), PO_fr _ _ (by decide)]
  have w8 : h2 8 = h 8 := by rw [e2, PR_fr _ _ (by decide), hset_fr _ _ _ _ (by decide), e1, hset_fr _ _ _ _ (by decide), PO_fr _ _ (by decide)]
  have w9 : h2 9 = h 9 := by rw [e2, PR_fr _ _ (by decide), hset_fr _ _ _ _ (by decide), e1, hset_fr _ _ _ _ (by decide), PO_fr _ _ (by decide)]
  have w27 : h2 27 = h 27 := by rw [e2, PR_fr _ _ (by decide), hset_fr _ _ _ _ (by decide), e1, hset_fr _ _ _ _ (by decide), PO_fr _ _ (by decide)]
  have w29 : h2 29 = h 29 := by rw [e2, PR_fr _ _ (by decide), hset_fr _ _ _ _ (by decide), e1, hset_fr _ _ _ _ (by decide), PO_fr _ _ (by decide)]
  have w30 : h2 30 = h 30 := by rw [e2, PR_fr _ _ (by decide), hset_fr _ _ _ _ (by decide), e1, hset_fr _ _ _ _ (by decide), PO_fr _ _ (by decide)]
  have w41 : h2 41 = h 41 := by rw [e2, PR_fr _ _ (by decide), hset_fr _ _ _ _ (by decide), e1, hset_fr _ _ _ _ (by decide), PO_fr _ _ (by decide)]
  have w42 : h2 42 = h 42 := by rw [e2, PR_fr _ _ (by decide), hset_fr _ _ _ _ (by decide), e1, hset_fr _ _ _ _ (by decide), PO_fr _ _ (by decide)]
  have w43 : h2 43 = h 43 := by rw [e2, PR_fr _ _ (by decide), hset_fr _ _ _ _ (by decide), e1, hset_fr _ _ _ _ (by decide), PO_fr _ _ (by decide)]
  have w44 : h2 44 = h 44 := by rw [e2, PR_fr _ _ (by decide), hset_fr _ _ _ _ (by decide), e1, hset_fr _ _ _ _ (by decide), PO_fr _ _ (by decide)]
  have w45 : h2 45 = h 45 := by rw [e2, PR_fr _ _ (by decide), hset_fr _ _ _ _ (by decide), e1, hset_fr _ _ _ _ (by decide), PO_fr _ _ (by decide)]
  have w46 : h2 46 = h 46 := by rw [e2, PR_fr _ _ (by decide), hset_fr _ _ _ _ (by decide), e1, hset_fr _ _ _ _ (by decide), PO_fr _ _ (by decide)]
  have w47 : h2 47 = h 47 := by rw [e2, PR_fr _ _ (by decide), hset_fr _ _ _ _ (by decide), e1, hset_fr _ _ _ _ (by decide), PO_fr _ _ (by decide)]
  have w48 : h2 48 = h 48 := by rw [e2, PR_fr _ _ (by decide), hset_fr _ _ _ _ (by decide), e1, hset_fr _ _ _ _ (by decide), PO_fr _ _ (by decide)]
  have w49 : h2 49 = h 49 := by rw [e2, PR_fr _ _ (by decide), hset_fr _ _ _ _ (by decide), e1, hset_fr _ _ _ _ (by decide), PO_fr _ _ (by decide)]
  have w50 : h2 50 = h 50 := by rw [e2, PR_fr _ _ (by decide), hset_fr _ _ _ _ (by decide), e1, hset_fr _ _ _ _ (by decide), PO_fr _ _ (by decide)]
  have w51 : h2 51 = h 51 := by rw [e2, PR_fr _ _ (by decide), hset_fr _ _ _ _ (by decide), e1, hset_fr _ _ _ _ (by decide), PO_fr _ _ (by decide)]
  have w52 : h2 52 = h 52 := by rw [e2, PR_fr _ _ (by decide), hset_fr _ _ _ _ (by decide), e1, hset_fr _ _ _ _ (by decide), PO_fr _ _ (by decide)]
  have w53 : h2 53 = h 53 := by rw [e2, PR_fr _ _ (by decide), hset_fr _ _ _ _ (by decide), e1, hset_fr _ _ _ _ (by decide), PO_fr _ _ (by decide)]
  have eb : billR h2 = billR h := billR_fr (by rw [e2, PR_fr _ _ (by decide), hset_fr _ _ _ _ (by decide), e1, hset_fr _ _ _ _ (by decide), PO_fr _ _ (by decide)]) w4 w5 w6 (by rw [e2, PR_fr _ _ (by decide), hset_fr _ _ _ _ (by decide), e1, hset_fr _ _ _ _ (by decide), PO_fr _ _ (by decide)]) w8 w29
  have p5n : ∀ r : Nat, r < 20 → (if r < 21 then soR h r else h 54 0 r) = (if r + 1 < (h 23 0 4 + 1).toNat then owC h (r + 1) else h 28 0 (r + 1)) ∧ (if r < 21 then soR h r - h 54 0 r else h 55 0 r) = (if r + 1 < (h 23 0 4 + 1).toNat then owC h (r + 1) - h 28 0 (r + 1) else h 26 0 (r + 1)) := by
    intro r hr
    have q := o2 r hr
    have y := p5 r hr
    by_cases z : r + 1 < (h 23 0 4 + 1).toNat
    · simp only [if_pos z, if_pos (show r < 21 by omega)]; omega
    · have x := p6 r hr (by omega)
      have u := o3 r hr (by omega)
      simp only [if_neg z, if_pos (show r < 21 by omega)]; omega
  have p9n : ∀ j : Nat, j < 21 → 0 ≤ (if j < (h 23 0 4 + 1).toNat then owC h j else h 28 0 j) ∧ (if j < (h 23 0 4 + 1).toNat then owC h j else h 28 0 j) ≤ 60000000 := by
    intro j hj
    have q0 := p7 0 j (by omega) hj
    have q1 := p7 1 j (by omega) hj
    have q2 := p7 2 j (by omega) hj
    have q3 := p9 j hj
    have ow : owC h j = h 25 0 j + h 25 1 j + h 25 2 j := rfl
    split <;> omega
  refine ⟨?_, ?_⟩
  · unfold RL IC FIc FIv RA RB RP RDb RS nC cAr cFc cKn cRd
    simp only [w1_8, w1_9, w1_10, w1_11, w1_12, w2_1, w7_2, w7_3, w23_4, w40_1, w40_9, w40_10, w40_13, w40_14, w40_15, w40_16, w40_17, w40_19, w4, w5, w6, w25, w8, w9, w27, w29, w30, w41, w42, w43, w44, w45, w46, w47, w48, w49, w50, w51, w52, w53, v26, v28, v54, v55, eb]
    exact ⟨⟨i1, i2, i3, i4, i5, i6, i7, i8, i9, i10, i11, i12, i13, i14, i15⟩, ⟨a1, a2, a3, a4, a5, a6, a7⟩, ⟨b1, b2, b3, b4, b5, b6, b7, b8, b9, b10⟩, ⟨p1, p2, by rw [if_pos (by omega), if_pos (by omega)]; exact o1, by rw [if_pos (by omega), if_pos (by omega), o1, p3], p5n, fun r hr ht => by rw [if_neg (by omega), if_neg (by omega)]; exact p6 r hr ht, p7, p8, p9n⟩, d1, d2, d3⟩
  · have g0 : ∀ r : Nat, r < 20 → dfR (hset h1 40 0 0 0) r = dfC h (r + 1) := by
      intro r hr
      rw [kd]
      unfold dfC
      rw [← o2 r hr, ← (p5 r hr).1]
    have gz : ∀ r : Nat, (h 23 0 4).toNat ≤ r → r < 20 → dfR (hset h1 40 0 0 0) r = 0 := by
      intro r h1r h2r
      rw [g0 r h2r]
      unfold dfC
      rw [o3 r h2r (by omega), (p6 r h2r (by omega)).1, if_neg (by decide)]
    have g20 : dfR (hset h1 40 0 0 0) 20 = dfC h 0 := by
      rw [kd]
      unfold dfC
      rw [← o1, ← p3]
    rw [show (h 23 0 4 + 1).toNat = (h 23 0 4).toNat + 1 by omega, sumF_shift, sumF_succ 20, g20, sumF_tail (T := (h 23 0 4).toNat) (n := 20) (by omega) gz, sumF_congr (g' := fun k => dfC h (k + 1)) fun k hk => g0 k (by omega)]
    omega
/-- what a bill is made of, in a heap that agrees -/
theorem ABC_fr {h h2 : AH} (I : IC h) (A : RA h) (B : RB h) (e1 : ∀ j : Nat, j ≠ 12 → h2 1 0 j = h 1 0 j) (e : ∀ t : Nat, (1 < t ∧ t < 10) ∨ t = 23 ∨ t = 29 ∨ (40 < t ∧ t < 51) → h2 t = h t) (e40 : ∀ j : Nat, j < 25 → j ≠ 0 → j ≠ 19 → h2 40 0 j = h 40 0 j) : IC h2 ∧ RA h2 ∧ RB h2 ∧ billR h2 = billR h ∧ bbC h2 = bbC h ∧ coC h2 = coC h ∧ p2C h2 = p2C h ∧ p3C h2 = p3C h ∧ p4C h2 = p4C h ∧ SC h2 = SC h ∧ nC h2 = nC h ∧ cAr h2 = cAr h ∧ g1C h2 = g1C h ∧ g2C h2 = g2C h := by
  obtain ⟨i1, i2, i3, i4, i5, i6, i7, i8, i9, i10, i11, i12, i13, i14, i15⟩ := I
  obtain ⟨a1, a2, a3, a4, a5, a6, a7⟩ := A
  obtain ⟨b1, b2, b3, b4, b5, b6, b7, b8, b9, b10⟩ := B
  have w2 : h2 2 = h 2 := e 2 (by omega)
  have w4 : h2 4 = h 4 := e 4 (by omega)
  have w5 : h2 5 = h 5 := e 5 (by omega)
  have w6 : h2 6 = h 6 := e 6 (by omega)
  have w7 : h2 7 = h 7 := e 7 (by omega)
  have w8 : h2 8 = h 8 := e 8 (by omega)
  have w9 : h2 9 = h 9 := e 9 (by omega)
  have w23 : h2 23 = h 23 := e 23 (by omega)
  have w29 : h2 29 = h 29 := e 29 (by omega)
  have w41 : h2 41 = h 41 := e 41 (by omega)
  have w42 : h2 42 = h 42 := e 42 (by omega)
  have w43 : h2 43 = h 43 := e 43 (by omega)
  have w44 : h2 44 = h 44 := e 44 (by omega)
  have w45 : h2 45 = h 45 := e 45 (by omega)
  have w46 : h2 46 = h 46 := e 46 (by omega)
  have w47 : h2 47 = h 47 := e 47 (by omega)
  have w48 : h2 48 = h 48 := e 48 (by omega)
  have w49 : h2 49 = h 49 := e 49 (by omega)
  have w50 : h2 50 = h 50 := e 50 (by omega)
  have w40_1 : h2 40 0 1 = h 40 0 1 := e40 1 (by decide) (by decide) (by decide)
  have w40_9 : h2 40 0 9 = h 40 0 9 := e40 9 (by decide) (by decide) (by decide)
  have w40_10 : h2 40 0 10 = h 40 0 10 := e40 10 (by decide) (by decide) (by decide)
  have w40_13 : h2 40 0 13 = h 40 0 13 := e40 13 (by decide) (by decide) (by decide)
  have w40_14 : h2 40 0 14 = h 40 0 14 := e40 14 (by decide) (by decide) (by decide)
  have w40_15 : h2 40 0 15 = h 40 0 15 := e40 15 (by decide) (by decide) (by decide)
  have w40_16 : h2 40 0 16 = h 40 0 16 := e40 16 (by decide) (by decide) (by decide)
  have w40_17 : h2 40 0 17 = h 40 0 17 := e40 17 (by decide) (by decide) (by decide)
  have w1_8 : h2 1 0 8 = h 1 0 8 := e1 8 (by decide)
  have w1_9 : h2 1 0 9 = h 1 0 9 := e1 9 (by decide)
  have w1_10 : h2 1 0 10 = h 1 0 10 := e1 10 (by decide)
  have w1_11 : h2 1 0 11 = h 1 0 11 := e1 11 (by decide)
  have eb : billR h2 = billR h := billR_fr w2 w4 w5 w6 w7 w8 w29
  have n : nC h2 = nC h := by unfold nC; rw [w2]
  have ar : cAr h2 = cAr h := by unfold cAr; rw [w4]
  have k : kC h2 = kC h := by unfold kC nC cAr cFc cKn cRd; rw [w2, w4, w5]
  have u : uC h2 = uC h := by unfold uC nC cAr cFc cKn cRd; rw [w2, w4, w5]
  have s : sC h2 = sC h := by unfold sC nC cAr cKn cRd; rw [w2, w4, w5]
  have f : fitC h2 = fitC h := by unfold fitC; rw [k, u, n, ar]
  have c1 : bbC h2 = bbC h := by unfold bbC; rw [w7, w8]
  have c2 : coC h2 = coC h := by unfold coC; rw [w7, w8, w9, w1_8]
  have c3 : p2C h2 = p2C h := by unfold p2C; rw [c1, c2, w1_9, w1_10]
  have c4 : p3C h2 = p3C h := by unfold p3C; rw [c2, c3, w1_11]
  have c5 : p4C h2 = p4C h := by unfold p4C; rw [c2, c3, c4]
  have sp : SC h2 = SC h := by
    have q1 : cHs h2 = cHs h := by funext f t; unfold cHs; rw [w6]
    have q2 : cVl h2 = cVl h := by funext f t; show h2 6 f t = h 6 f t; rw [w6]
    unfold SC
    rw [q1, q2, n, w4]
  have g1 : g1C h2 = g1C h := by
    unfold g1C
    rw [f, k, u, s, ar]
    unfold cFc cRd
    rw [w4, w5, w29]
  have wt : watC h2 = watC h := by unfold watC; rw [n, w4]
  have g2 : g2C h2 = g2C h := by unfold g2C; rw [wt, ar, w4]
  refine ⟨?_, ?_, ?_, eb, c1, c2, c3, c4, c5, sp, n, ar, g1, g2⟩
  · unfold IC FIc FIv nC cAr cFc cKn cRd
    simp only [w2, w4, w5, w6, w7, w8, w9, w23, w29, w41, w42, w43, w44, w45, w46, w47, w48, w49, w50, w40_1, w40_9, w40_10, w40_13, w40_14, w40_15, w40_16, w40_17, w1_8, w1_9, w1_10, w1_11]
    exact ⟨i1, i2, i3, i4, i5, i6, i7, i8, i9, i10, i11, i12, i13, i14, i15⟩
  · unfold RA nC
    simp only [w2, w4, w5, w6, w7, w8, w9, w23, w29, w41, w42, w43, w44, w45, w46, w47, w48, w49, w50, w40_1, w40_9, w40_10, w40_13, w40_14, w40_15, w40_16, w40_17, w1_8, w1_9, w1_10, w1_11]
    exact ⟨a1, a2, a3, a4, a5, a6, a7⟩
  · unfold RB
    simp only [w2, w4, w5, w6, w7, w8, w9, w23, w29, w41, w42, w43, w44, w45, w46, w47, w48, w49, w50, w40_1, w40_9, w40_10, w40_13, w40_14, w40_15, w40_16, w40_17, w1_8, w1_9, w1_10, w1_11]
    exact ⟨b1, b2, b3, b4, b5, b6, b7, b8, b9, b10⟩
theorem outs_bd {h : AH} (I : IR h) (n1 : 1 ≤ nR h) (hb : h 40 0 13 ≠ -1 ∧ 0 < bbR h) (j : Nat) : (0 ≤ outF (SR h (nR h)) (gaA (rAr h)) (nR h) (p3R h) j ∧ outF (SR h (nR h)) (gaA (rAr h)) (nR h) (p3R h) j ≤ 20000000) ∧ (0 ≤ outF (SR h (nR h)) (g1R h) (nR h) (p4R h) j ∧ outF (SR h (nR h)) (g1R h) (nR h) (p4R h) j ≤ 20000000) ∧ (0 ≤ outF (SR h (nR h)) (g2R h) (nR h) (p2R h) j ∧ outF (SR h (nR h)) (g2R h) (nR h) (p2R h) j ≤ 20000000) := by
  have pb := partsR_bd I hb
  have har : ∀ f : Nat, f < nR h → 0 ≤ h 41 0 f ∧ h 41 0 f ≤ 50 := fun f hf => (I.2.1 f hf).1
  have hA : 0 < sumF (nR h) (h 41 0) := sumF_pos (fun f hf => (har f hf).1) ⟨0, by omega, by have := I.2.2.1 0 (by omega); omega⟩
  have hlen : 1 ≤ (SR h (nR h)).length ∧ (SR h (nR h)).length ≤ 72 := ⟨spA_pos n1, by have := SR_len h (nR h); have := I.n6; omega⟩
  have aA : ∀ p : Int, 0 ≤ p ∧ p ≤ 260000 → 0 ≤ outF (SR h (nR h)) (gaA (rAr h)) (nR h) p j ∧ outF (SR h (nR h)) (gaA (rAr h)) (nR h) p j ≤ 20000000 := fun p hp => by
    have K := area_ok (hs := rHs h) (vl := rVl h) (fh := fun f => h 46 0 f) (n := nR h) (p := p) (ar := rAr h) I.n6 hp har hA
    exact out_bd hp hlen K.1 K.2.1 j
  refine ⟨aA _ pb.2.1, ?_, ?_⟩
  · unfold g1R
    by_cases c : fitR h = 1
    · rw [if_pos c]
      have hd := I.2.2.2.2.2.2.2.2.2.2.2.2.2.2
      have KM : ∀ f, f < nR h → MOK (kRv h f) (rFc h f) (sRv h) (uRv h f) (rRd h f) := fun f hf => kV_mok (n := nR h) (ar := rAr h) (fc := rFc h) (kn := rKn h) (rd := rRd h) I.2.1 I.n6 hf
      have K := meter_ok (hs := rHs h) (vl := rVl h) (fh := fun f => h 46 0 f) (n := nR h) (p := p4R h) (kd := kRv h) (fc := rFc h) (un := uRv h) (td := tR h) (dg := h 50 0) (sc := sRv h) (be := eR h) (K := KK (nR h) (rFc h) (rKn h) (rRd h)) (rd := rRd h) I.n6 pb.2.2 hd KK_pos (sc_be (ar := rAr h) (fc := rFc h) (kn := rKn h) (rd := rRd h) I.2.2.1) (fun f hf => un_td (ar := rAr h) I.2.2.1 f) KM (fun f hf => (I.tm hf).1) (fitR_u I c)
      exact out_bd pb.2.2 hlen K.1 K.2.1 j
    · rw [if_neg c]
      exact aA _ pb.2.2
  · unfold g2R
    by_cases c : watR h = true
    · rw [if_pos c]
      have K := area_ok (hs := rHs h) (vl := rVl h) (fh := fun f => h 46 0 f) (n := nR h) (p := p2R h) (ar := fun f => h 42 0 f) I.n6 pb.1 I.2.2.2.1 ((wat_iff I).mp c)
      exact out_bd pb.1 hlen K.1 K.2.1 j
    · rw [if_neg c]
      exact aA _ pb.1
theorem s_bill {h h1 h2 : AH} (R : RL h) (q1 : if billR h = -1 then (∀ t : Nat, (t < 10 ∨ 17 < t) → h1 t = h t) else billH h h1) (q2 : if rbR h1 = -1 then rbN h1 h2 else rbH h1 h2) : rbR h1 = billR h ∧ RL h2 := by
  have R0 := R
  obtain ⟨I, A, B, PP, DD⟩ := R
  have fr : (∀ j : Nat, j ≠ 12 → h1 1 0 j = h 1 0 j) ∧ ∀ t : Nat, (1 < t ∧ t < 10) ∨ t = 23 ∨ t = 29 ∨ (26 ≤ t ∧ t < 30) ∨ 40 ≤ t → h1 t = h t := by
    by_cases c : billR h = -1
    · rw [if_pos c] at q1
      exact ⟨fun j _ => by rw [q1 1 (by omega)], fun t ht => q1 t (by omega)⟩
    · rw [if_neg c] at q1
      exact ⟨fun j hj => by rw [q1.2.1, hset_slot _ _ hj], fun t ht => q1.1 t (by omega) (by omega) (by omega) (by omega)⟩
  obtain ⟨I1, A1, B1, eb, c1, c2, c3, c4, c5, sp, nn, ar, g1, g2⟩ := ABC_fr I A B fr.1 (fun t ht => fr.2 t (by omega)) (fun j _ _ _ => by rw [fr.2 40 (by omega)])
  have be := bill_eq I1 A1 B1
  have e0 : rbR h1 = billR h := by rw [be, eb]
  refine ⟨e0, ?_⟩
  by_cases c : billR h = -1
  · rw [if_pos c] at q1
    rw [if_pos (by rw [e0]; exact c)] at q2
    obtain ⟨n1, n2, n3, n4⟩ := q2
    have hz : h 1 0 12 = 0 := by
      rcases DD.2.1 with z | z
      · exact z
      · exact absurd c (DD.2.2 z).1
    refine RL_fr (fun t t40 t70 tt t56 => by rw [n1 t t40 t56, q1 t (by omega)]) (fun j j0 jj => ?_) R0
    by_cases z : j = 19
    · rw [z, n4, DD.1, hz]
    · rw [n2 j jj j0 z, q1 40 (by omega)]
  · rw [if_neg c] at q1
    rw [if_neg (by rw [e0]; exact c)] at q2
    obtain ⟨b1, b2, b3, b4, b5, b6⟩ := q1
    obtain ⟨r1, r2, r3, r4, r5, r6⟩ := q2
    have IR1 := IR_of I1 A1 B1
    have pe := parts_eq B1
    have hbr : h 2 0 1 ≠ 0 ∧ (h 7 0 3 ≠ -1 ∧ 0 < bbC h) := by
      by_cases z : h 2 0 1 = 0 ∨ ¬ (h 7 0 3 ≠ -1 ∧ 0 < bbC h)
      · exact absurd (billR_0 z) c
      · exact ⟨fun y => z (Or.inl y), by
          by_cases y : h 7 0 3 ≠ -1 ∧ 0 < bbC h
          · exact y
          · exact absurd (Or.inr y) z⟩
    have nr1 : nR h1 = nC h := by rw [RA.n A1, nn]
    have n1 : 1 ≤ nR h1 := by rw [nr1]; have := I.1; unfold nC; omega
    have hb1 : h1 40 0 13 ≠ -1 ∧ 0 < bbR h1 := by
      rw [pe.1, c1, B1.2.2.2.2.1, fr.2 7 (by omega)]
      exact hbr.2
    have O0 := ot_eq I1 A1 (p := p3R h1) (g0_eq A1)
    have O1 := ot_eq I1 A1 (p := p4R h1) (g1_eq A1 B1)
    have O2 := ot_eq I1 A1 (p := p2R h1) (g2_eq A1)
    rw [pe.2.2.2.1, c4, sp, nn, ar] at O0
    rw [pe.2.2.2.2, c5, sp, nn, g1] at O1
    rw [pe.2.2.1, c3, sp, nn, g2] at O2
    rw [pe.2.2.2.1, c4, pe.2.2.2.2, c5, pe.2.2.1, c3] at r6
    have T1 : h1 23 0 4 = h 23 0 4 := by rw [fr.2 23 (by omega)]
    rw [T1] at O0 O1 O2
    have bd : ∀ j : Nat, (0 ≤ outF (SC h) (gaA (cAr h)) (nC h) (p3C h) j ∧ outF (SC h) (gaA (cAr h)) (nC h) (p3C h) j ≤ 20000000) ∧ (0 ≤ outF (SC h) (g1C h) (nC h) (p4C h) j ∧ outF (SC h) (g1C h) (nC h) (p4C h) j ≤ 20000000) ∧ (0 ≤ outF (SC h) (g2C h) (nC h) (p2C h) j ∧ outF (SC h) (g2C h) (nC h) (p2C h) j ≤ 20000000) := by
      intro j
      have z := outs_bd IR1 n1 hb1 j
      rw [SR_SC I1 A1, RA.n A1, sp, nn, pe.2.2.2.1, pe.2.2.2.2, pe.2.2.1, c3, c4, c5] at z
      have x0 : outF (SC h) (gaA (rAr h1)) (nC h) (p3C h) j = outF (SC h) (gaA (cAr h)) (nC h) (p3C h) j := outF_cg (fun f hf x h0 hx => by have y := g0_eq A1 f (by rw [nn]; exact hf) x h0 hx; rw [ar] at y; exact y) j
      have x1 : outF (SC h) (g1R h1) (nC h) (p4C h) j = outF (SC h) (g1C h) (nC h) (p4C h) j := outF_cg (fun f hf x h0 hx => by have y := g1_eq A1 B1 f (by rw [nn]; exact hf) x h0 hx; rw [g1] at y; exact y) j
      have x2 : outF (SC h) (g2R h1) (nC h) (p2C h) j = outF (SC h) (g2C h) (nC h) (p2C h) j := outF_cg (fun f hf x h0 hx => by have y := g2_eq A1 f (by rw [nn]; exact hf) x h0 hx; rw [g2] at y; exact y) j
      rw [x0, x1, x2] at z
      exact z
    have h25 : h2 25 = h1 25 := r1 25 (by omega)
    have rows : ∀ i j : Nat, i < 3 → j < 21 → 0 ≤ h1 25 i j ∧ h1 25 i j ≤ 20000000 := by
      intro i j hi hj
      have z := bd j
      rcases (show i = 0 ∨ i = 1 ∨ i = 2 by omega) with e | e | e
      · rw [e, b4 j hj]; exact z.1
      · rw [e, b5 j hj]; exact z.2.1
      · rw [e, b6 j hj]; exact z.2.2
    have S : RS h2 := by
      unfold RS
      rw [h25, r1 23 (by omega), T1]
      refine ⟨fun i hi => ?_, fun r i hr hi => ?_, fun r i hr hi ht => ?_⟩
      · have z := r6 20 (by omega)
        rcases (show i = 0 ∨ i = 1 ∨ i = 2 by omega) with e | e | e
        · rw [e, b4 0 (by omega)]; exact z.1.trans O0.1
        · rw [e, b5 0 (by omega)]; exact z.2.1.trans O1.1
        · rw [e, b6 0 (by omega)]; exact z.2.2.trans O2.1
      · have z := r6 r (by omega)
        rcases (show i = 0 ∨ i = 1 ∨ i = 2 by omega) with e | e | e
        · rw [e, b4 (r + 1) (by omega)]; exact z.1.trans (O0.2.1 r hr)
        · rw [e, b5 (r + 1) (by omega)]; exact z.2.1.trans (O1.2.1 r hr)
        · rw [e, b6 (r + 1) (by omega)]; exact z.2.2.trans (O2.2.1 r hr)
      · rcases (show i = 0 ∨ i = 1 ∨ i = 2 by omega) with e | e | e
        · rw [e, b4 (r + 1) (by omega)]; exact O0.2.2 r ht
        · rw [e, b5 (r + 1) (by omega)]; exact O1.2.2 r ht
        · rw [e, b6 (r + 1) (by omega)]; exact O2.2.2 r ht
    have S52 : ∀ j : Nat, j < 63 → 0 ≤ h2 52 0 j ∧ h2 52 0 j ≤ 20000000 := by
      intro j hj
      by_cases z : j < 60
      · have y := S.2.1 (j / 3) (j % 3) (by omega) (by omega)
        rw [show 3 * (j / 3) + j % 3 = j by omega, h25] at y
        rw [y]; exact rows _ _ (by omega) (by omega)
      · have y := S.1 (j - 60) (by omega)
        rw [show 60 + (j - 60) = j by omega, h25] at y
        rw [y]; exact rows _ _ (by omega) (by omega)
    have f12 : h2 1 0 12 = 1 := by rw [r1 1 (by omega), b2]; exact hset_same _ _ _ _ _
    obtain ⟨I2, A2, B2, eb2, -⟩ := ABC_fr I1 A1 B1 (h2 := h2) (fun j _ => by rw [r1 1 (by omega)]) (fun t ht => r1 t (by omega)) (fun j j1 j2 j3 => r2 j (by omega) j2 j3)
    obtain ⟨p1, p2, p3, p4, p5, p6, p7, p8, p9⟩ := PP
    have k : ∀ t : Nat, t = 23 ∨ (26 ≤ t ∧ t < 30) ∨ (52 < t ∧ t < 56) → h2 t = h t := fun t ht => by rw [r1 t (by omega), fr.2 t (by omega)]
    refine ⟨I2, A2, B2, ?_, ?_, ?_, ?_⟩
    · unfold RP
      rw [k 53 (by omega), k 27 (by omega), k 54 (by omega), k 28 (by omega), k 55 (by omega), k 26 (by omega), k 23 (by omega), h25]
      exact ⟨p1, p2, p3, p4, p5, p6, rows, S52, p9⟩
    · rw [r4, f12]
    · exact Or.inr f12
    · intro _
      refine ⟨by rw [eb2, eb]; exact c, fun q hq => ?_, S⟩
      rw [r1 30 (by omega)]
      rcases (show q = 0 ∨ q = 1 ∨ q = 2 ∨ q = 3 ∨ q = 4 by omega) with e | e | e | e | e
      · rw [e, r5.1, b3.1, pe.1, c1]
      · rw [e, r5.2.1, b3.2.1, pe.2.1, c2]
      · rw [e, r5.2.2.1, b3.2.2.1, pe.2.2.1, c3]
      · rw [e, r5.2.2.2.1, b3.2.2.2.1, pe.2.2.2.1, c4]
      · rw [e, r5.2.2.2.2, b3.2.2.2.2, pe.2.2.2.2, c5]

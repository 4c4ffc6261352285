/-! The relation is kept: the year's close. -/
theorem NY_44 (h : AH) (f : Nat) (w : Int) (k : Nat) : NY h f w 44 0 k = if 13 * f + 1 ≤ k ∧ k < 13 * f + 13 then -1 else if k = 13 * f then h 44 0 (13 * f + 12) else h 44 0 k := by
  unfold NY NYa
  rw [hfill_tag _ _ _ _ _ (by decide)]
  unfold hfill hset
  simp only [true_and, Nat.reduceEqDiff, false_and, if_false]
theorem NY_45 (h : AH) (f : Nat) (w : Int) (k : Nat) : NY h f w 45 0 k = if 12 * f ≤ k ∧ k < 12 * f + 12 then -5 else h 45 0 k := by
  unfold NY NYa hfill hset
  simp only [true_and, Nat.reduceEqDiff, false_and, if_false]
theorem NY_46 (h : AH) (f : Nat) (w : Int) (k : Nat) : NY h f w 46 0 k = if k = f then hoE (rHs h f) (rVl h f) (h 46 0 f) 12 else h 46 0 k := by
  unfold NY NYa hfill hset
  simp only [true_and, Nat.reduceEqDiff, false_and, if_false]
theorem NY_47 (h : AH) (f : Nat) (w : Int) (k : Nat) : NY h f w 47 0 k = if k = f then w else h 47 0 k := by
  unfold NY NYa hfill hset
  simp only [true_and, Nat.reduceEqDiff, false_and, if_false]
theorem ny_44 (g : AH) : ∀ n k : Nat, nyR g n 44 0 k = if k < 13 * n then (if k % 13 = 0 then g 44 0 (k + 12) else -1) else g 44 0 k := by
  intro n
  induction n with
  | zero => intro k; rw [if_neg (by omega)]; rfl
  | succ n ih =>
    intro k
    show NY (nyR g n) n _ 44 0 k = _
    rw [NY_44, ih, ih]
    by_cases c : k < 13 * n
    · rw [if_neg (by omega), if_neg (by omega), if_pos c, if_pos (show k < 13 * (n + 1) by omega)]
    · by_cases d : k = 13 * n
      · rw [if_neg (by omega), if_pos d, if_neg (by omega), if_pos (by omega), if_pos (by omega), d]
      · by_cases e : k < 13 * n + 13
        · rw [if_pos (by omega), if_pos (by omega), if_neg (by omega)]
        · rw [if_neg (by omega), if_neg d, if_neg c, if_neg (by omega)]
theorem ny_45 (g : AH) : ∀ n k : Nat, nyR g n 45 0 k = if k < 12 * n then -5 else g 45 0 k := by
  intro n
  induction n with
  | zero => intro k; rw [if_neg (by omega)]; rfl
  | succ n ih =>
    intro k
    show NY (nyR g n) n _ 45 0 k = _
    rw [NY_45, ih]
    by_cases c : k < 12 * n
    · rw [if_neg (by omega), if_pos c, if_pos (by omega)]
    · by_cases e : k < 12 * n + 12
      · rw [if_pos (by omega), if_pos (by omega)]
      · rw [if_neg (by omega), if_neg c, if_neg (by omega)]
theorem ny_46 (g : AH) : ∀ n k : Nat, nyR g n 46 0 k = if k < n then hoE (rHs g k) (rVl g k) (g 46 0 k) 12 else g 46 0 k := by
  intro n
  induction n with
  | zero => intro k; rw [if_neg (by omega)]; rfl
  | succ n ih =>
    intro k
    show NY (nyR g n) n _ 46 0 k = _
    have e1 : rHs (nyR g n) n = rHs g n := by funext t; unfold rHs; rw [ny_45, if_neg (by omega)]
    have e2 : rVl (nyR g n) n = rVl g n := by funext t; show nyR g n 45 0 (12 * n + t) = g 45 0 (12 * n + t); rw [ny_45, if_neg (by omega)]
    rw [NY_46, ih, ih, e1, e2, if_neg (show ¬ n < n by omega)]
    by_cases d : k = n
    · rw [if_pos d, if_pos (by omega), d]
    · by_cases c : k < n
      · rw [if_neg d, if_pos c, if_pos (by omega)]
      · rw [if_neg d, if_neg c, if_neg (by omega)]
theorem ny_47 (g : AH) : ∀ n k : Nat, nyR g n 47 0 k = if k < n then whR (g 56 0 k) (g 40 0 30) else g 47 0 k := by
  intro n
  induction n with
  | zero => intro k; rw [if_neg (by omega)]; rfl
  | succ n ih =>
    intro k
    show NY (nyR g n) n _ 47 0 k = _
    rw [NY_47, ih]
    by_cases d : k = n
    · rw [if_pos d, if_pos (by omega), d]
    · by_cases c : k < n
      · rw [if_neg d, if_pos c, if_pos (by omega)]
      · rw [if_neg d, if_neg c, if_neg (by omega)]
theorem hoE_rng {hs : Nat → Bool} {vl : Nat → Int} {fh T : Int} (hf : -1 ≤ fh ∧ fh < T) : ∀ {n : Nat}, (∀ x, x < n → hs x = true → -1 ≤ vl x ∧ vl x < T) → -1 ≤ hoE hs vl fh n ∧ hoE hs vl fh n < T := by
  intro n
  induction n with
  | zero => intro _; exact hf
  | succ n ih =>
    intro h
    by_cases c : hs n = true
    · rw [hoE_yes c]; exact h n (by omega) c
    · rw [hoE_no (Bool.eq_false_iff.mpr c)]; exact ih (fun x hx => h x (by omega))
theorem wh_eq {u t s e K : Int} (hK : 1 ≤ K) (h1 : u = K * t) (h2 : s = K * e) : u / s = t / e := by
  rw [h1, h2]
  exact Int.mul_ediv_mul_of_pos _ _ (by omega)
theorem cy_fr (h : AH) {t : Nat} (e : t = 2 ∨ (12 < t ∧ t < 26) ∨ 28 < t) : cyH h t = h t := by
  unfold cyH ksH
  rw [hset_fr _ _ _ _ (by omega), hset_fr _ _ _ _ (by omega), hset_fr _ _ _ _ (by omega), hset_fr _ _ _ _ (by omega), hset_fr _ _ _ _ (by omega), KR_fr _ _ _ (by omega), cyG_fr h (by omega) (by omega) (by omega)]
theorem cy_G (h : AH) {t : Nat} (e : t = 4 ∨ t = 5 ∨ t = 6 ∨ (26 ≤ t ∧ t ≤ 28)) : cyH h t = cyG h t := by
  unfold cyH ksH
  rw [hset_fr _ _ _ _ (by omega), hset_fr _ _ _ _ (by omega), hset_fr _ _ _ _ (by omega), hset_fr _ _ _ _ (by omega), hset_fr _ _ _ _ (by omega), KR_fr _ _ _ (by omega)]
theorem lay4 (h : AH) {t : Nat} (e : t = 4 ∨ t = 5 ∨ t = 6) : lC (ayH h) t = h t := by rw [lC_fr _ (by omega), ayH_fr _ (by omega)]
theorem cy_4 (h : AH) (f j : Nat) : cyH h 4 f j = if f < nC h ∧ j = 3 then hoE (cHs h f) (cVl h f) (h 4 f 3) 12 else if f < nC h ∧ j = 4 then whC h f else h 4 f j := by
  rw [cy_G h (by omega)]
  unfold cyG CY
  have q1 : cHs (lC (ayH h)) = cHs h := by funext f t; unfold cHs; rw [lay4 h (by omega)]
  have q2 : cVl (lC (ayH h)) = cVl h := by funext f t; show lC (ayH h) 6 f t = h 6 f t; rw [lay4 h (by omega)]
  rw [q1, q2, lay4 h (show 4 = 4 ∨ 4 = 5 ∨ 4 = 6 by omega)]
  simp only [true_and, Nat.reduceEqDiff, false_and, and_false, if_false]
theorem cy_5 (h : AH) (f j : Nat) : cyH h 5 f j = if f < nC h ∧ j < 13 then (if j = 0 then h 5 f 12 else -1) else h 5 f j := by
  rw [cy_G h (by omega)]
  unfold cyG CY
  rw [lay4 h (show 5 = 4 ∨ 5 = 5 ∨ 5 = 6 by omega)]
  simp only [true_and, Nat.reduceEqDiff, false_and, and_false, if_false]
theorem cy_6 (h : AH) (f j : Nat) : cyH h 6 f j = if f < nC h ∧ j < 12 then -2 else h 6 f j := by
  rw [cy_G h (by omega)]
  unfold cyG CY
  rw [lay4 h (show 6 = 4 ∨ 6 = 5 ∨ 6 = 6 by omega)]
  simp only [true_and, Nat.reduceEqDiff, false_and, and_false, if_false]
theorem cyG_a (h : AH) {t : Nat} (e : 26 ≤ t ∧ t ≤ 28) : cyG h t = ayH h t := by
  unfold cyG
  rw [CY_fr _ _ _ (by omega), lC_fr _ (by omega)]
theorem cy_26 (h : AH) {j : Nat} (hj : j < 21) : cyH h 26 0 j = 0 ∧ cyH h 28 0 j = 0 := by
  rw [cy_G h (by omega), cy_G h (by omega), cyG_a h (by omega), cyG_a h (by omega)]
  unfold ayH
  constructor
  · rw [hfill_tag _ _ _ _ _ (by decide), hfill_tag _ _ _ _ _ (by decide)]
    unfold hfill
    rw [if_pos ⟨rfl, rfl, by omega, by omega⟩]
  · rw [hfill_tag _ _ _ _ _ (by decide)]
    unfold hfill
    rw [if_pos ⟨rfl, rfl, by omega, by omega⟩]
theorem cy_27 (h : AH) : cyH h 27 0 = fun k => if k < 20 then 0 else h 27 0 k := by
  rw [cy_G h (by omega), cyG_a h (by omega)]
  funext k
  unfold ayH
  show hfill _ 27 0 0 20 0 27 0 k = _
  unfold hfill
  by_cases c : k < 20
  · rw [if_pos ⟨rfl, rfl, by omega, by omega⟩, if_pos c]
  · rw [if_neg (by omega), if_neg c, if_neg (by omega), if_neg (by omega), PO_fr _ _ (by decide)]
theorem cyG_v (h : AH) : vK (cyG h) = vK h ∧ qK (cyG h) = qK h ∧ cyG h 8 = h 8 ∧ cyG h 9 = h 9 := by
  have e7 : cyG h 7 = h 7 := cyG_fr h (by omega) (by omega) (by omega)
  have e8 : cyG h 8 = h 8 := cyG_fr h (by omega) (by omega) (by omega)
  have e9 : cyG h 9 = h 9 := cyG_fr h (by omega) (by omega) (by omega)
  exact ⟨vK_fr e7 e8, qK_fr e7 e8 e9, e8, e9⟩
theorem cy_8 (h : AH) : cyH h 8 0 = krow (vK h) (vK h) (h 8 0) (h 7 0 2).toNat ∧ cyH h 9 0 = krow (vK h) (qK h) (h 9 0) (h 7 0 2).toNat := by
  obtain ⟨a, b, c, d⟩ := cyG_v h
  unfold cyH ksH
  rw [a, b, c, d]
  constructor
  · rw [hset_fr _ _ _ _ (by decide), hset_fr _ _ _ _ (by decide), hset_fr _ _ _ _ (by decide), hset_fr _ _ _ _ (by decide), hset_fr _ _ _ _ (by decide), KR_8]
  · rw [hset_fr _ _ _ _ (by decide), hset_fr _ _ _ _ (by decide), hset_fr _ _ _ _ (by decide), hset_fr _ _ _ _ (by decide), hset_fr _ _ _ _ (by decide), KR_9]
theorem cy_1 (h : AH) : cyH h 1 0 8 = 0 ∧ cyH h 1 0 9 = -1 ∧ cyH h 1 0 10 = h 1 0 10 ∧ cyH h 1 0 11 = h 1 0 11 ∧ cyH h 1 0 12 = 0 ∧ cyH h 7 0 2 = (nuC h : Nat) ∧ cyH h 7 0 3 = -1 := by
  have e1 : ksH (cyG h) (h 7 0 2).toNat 1 = h 1 := by unfold ksH; rw [KR_fr _ _ _ (by decide), cyG_fr h (by omega) (by omega) (by omega)]
  refine ⟨rfl, rfl, ?_, ?_, rfl, rfl, rfl⟩
  · show ksH (cyG h) (h 7 0 2).toNat 1 0 10 = _; rw [e1]
  · show ksH (cyG h) (h 7 0 2).toNat 1 0 11 = _; rw [e1]
/-- the reference's tags are those of h -/
theorem cr_v {h h1 : AH} (e : ∀ t : Nat, 40 ≤ t → t ≤ 61 → h1 t = h t) : vR (h1R h1) = vR h ∧ qR (h1R h1) = qR h ∧ h1R h1 48 = h 48 ∧ h1R h1 49 = h 49 ∧ h1R h1 40 0 10 = h 40 0 10 := by
  have e1 : h1R h1 48 = h 48 := by rw [h1R_fr h1 (by decide), e 48 (by decide) (by decide)]
  have e2 : h1R h1 49 = h 49 := by rw [h1R_fr h1 (by decide), e 49 (by decide) (by decide)]
  have e3 : h1R h1 40 0 10 = h 40 0 10 := by rw [h1R_40 h1 (by decide), e 40 (by decide) (by decide)]
  have e4 : h1R h1 40 0 13 = h 40 0 13 := by rw [h1R_40 h1 (by decide), e 40 (by decide) (by decide)]
  refine ⟨?_, ?_, e1, e2, e3⟩
  · unfold vR; rw [e1, e3, e4]
  · unfold qR; rw [e1, e2, e3, e4]
theorem cr_4 (h1 : AH) {t : Nat} (e : t = 41 ∨ t = 42 ∨ t = 43 ∨ t = 50 ∨ t = 51 ∨ t = 52 ∨ t < 40 ∨ 61 < t) : cyR h1 t = h1 t := by
  unfold cyR h4R h3R lR
  rw [hset_fr _ _ _ _ (by omega), hset_fr _ _ _ _ (by omega), hset_fr _ _ _ _ (by omega), hset_fr _ _ _ _ (by omega), hfill_tag _ _ _ _ _ (by omega), Z2_fr _ _ (by omega), nyR_fr _ (by omega), RK_fr _ _ _ _ _ _ _ _ _ (by omega), h2R_fr h1 (by omega)]
theorem cr_n (h1 : AH) {t : Nat} (e : t = 44 ∨ t = 45 ∨ t = 46 ∨ t = 47) : cyR h1 t = nyR (lR (h2R h1)) (nR h1) t := by
  unfold cyR h4R h3R
  rw [hset_fr _ _ _ _ (by omega), hset_fr _ _ _ _ (by omega), hset_fr _ _ _ _ (by omega), hset_fr _ _ _ _ (by omega), hfill_tag _ _ _ _ _ (by omega), Z2_fr _ _ (by omega)]
theorem cr_l (h1 : AH) {t : Nat} (e : t = 44 ∨ t = 45 ∨ t = 46 ∨ t = 47) : lR (h2R h1) t = h1 t := by
  unfold lR
  rw [RK_fr _ _ _ _ _ _ _ _ _ (by omega), h2R_fr h1 (by omega)]
theorem cr_48 (h1 : AH) {t : Nat} (e : t = 48 ∨ t = 49) : cyR h1 t = h2R h1 t := by
  unfold cyR h4R h3R lR
  rw [hset_fr _ _ _ _ (by omega), hset_fr _ _ _ _ (by omega), hset_fr _ _ _ _ (by omega), hset_fr _ _ _ _ (by omega), hfill_tag _ _ _ _ _ (by omega), Z2_fr _ _ (by omega), nyR_fr _ (by omega), RK_fr _ _ _ _ _ _ _ _ _ (by omega)]
theorem cr_40 (h1 : AH) {j : Nat} (e : j = 1 ∨ j = 9 ∨ j = 16 ∨ j = 17) : cyR h1 40 0 j = h1 40 0 j := by
  have z : h4R h1 40 0 j = h1 40 0 j := by
    unfold h4R h3R
    rw [hfill_tag _ _ _ _ _ (by decide), Z2_fr _ _ (by decide), nyR_fr _ (by decide)]
    show RK _ _ _ _ _ _ _ _ _ 40 0 j = _
    unfold RK
    rw [if_pos ⟨rfl, rfl⟩, if_neg (by omega), if_neg (by omega), if_neg (by omega), if_neg (by omega), if_neg (by omega), if_neg (by omega), h2R_40 h1 (by omega) (by omega)]
  unfold cyR
  rw [hset_slot _ _ (by omega), hset_slot _ _ (by omega), hset_slot _ _ (by omega), hset_slot _ _ (by omega), z]
theorem cr_40b (h1 : AH) : cyR h1 40 0 0 = 0 ∧ cyR h1 40 0 10 = (nuR (h1R h1) : Nat) ∧ cyR h1 40 0 13 = -1 ∧ cyR h1 40 0 14 = 0 ∧ cyR h1 40 0 15 = -1 ∧ cyR h1 40 0 19 = 0 := by
  have z : ∀ j : Nat, (j < 25) → h4R h1 40 0 j = h2R h1 40 0 j := fun j hj => by
    unfold h4R h3R
    rw [hfill_tag _ _ _ _ _ (by decide), Z2_fr _ _ (by decide), nyR_fr _ (by decide)]
    show RK _ _ _ _ _ _ _ _ _ 40 0 j = _
    unfold RK
    rw [if_pos ⟨rfl, rfl⟩, if_neg (by omega), if_neg (by omega), if_neg (by omega), if_neg (by omega), if_neg (by omega), if_neg (by omega)]
  refine ⟨?_, ?_, rfl, rfl, rfl, rfl⟩
  · show h4R h1 40 0 0 = 0
    rw [z 0 (by omega)]
    unfold h2R kpR
    rw [hset_slot _ _ (by decide), KC_fr _ _ (by decide)]
    show KR2 _ _ _ 40 0 0 = 0
    rw [KR2_fr _ _ _ (by decide)]
    unfold h1R
    rw [PR_fr _ _ (by decide)]
    exact hset_same _ _ _ _ _
  · show h4R h1 40 0 10 = _
    rw [z 10 (by omega)]
    show kpR (h1R h1) 40 0 10 = _
    unfold kpR
    exact hset_same _ _ _ _ _
theorem cr_53 (h1 : AH) : cyR h1 53 0 = fun k => if k < 20 then 0 else h1 53 0 k := by
  funext k
  show hfill (Z2 (h3R h1) 21) 53 0 0 20 0 53 0 k = _
  unfold hfill
  by_cases c : k < 20
  · rw [if_pos ⟨rfl, rfl, by omega, by omega⟩, if_pos c]
  · rw [if_neg (by omega), if_neg c, Z2_fr _ _ (by decide)]
    unfold h3R lR
    rw [nyR_fr _ (by decide), RK_fr _ _ _ _ _ _ _ _ _ (by decide), h2R_fr h1 (by decide)]
theorem cr_54 (h1 : AH) {j : Nat} (hj : j < 21) : cyR h1 54 0 j = 0 ∧ cyR h1 55 0 j = 0 := by
  constructor
  · show hfill (Z2 (h3R h1) 21) 53 0 0 20 0 54 0 j = 0
    rw [hfill_tag _ _ _ _ _ (by decide)]
    unfold Z2
    rw [if_pos ⟨Or.inl rfl, rfl, hj⟩]
  · show hfill (Z2 (h3R h1) 21) 53 0 0 20 0 55 0 j = 0
    rw [hfill_tag _ _ _ _ _ (by decide)]
    unfold Z2
    rw [if_pos ⟨Or.inr rfl, rfl, hj⟩]
theorem s_closeYear {h h1 h2 : AH} {v : Int} (R : RL h) (e1 : h1 = hset (cyH h) 70 0 0 v) (e2 : h2 = cyR h1) : RL h2 ∧ sumF (nuC h) (krow (vK h) (vK h) (h 8 0) (h 7 0 2).toNat) = sumF (nuR (h1R h1)) (h2R h1 48 0) := by
  have IRh := IR_of R.1 R.2.1 R.2.2.1
  have IC0 := R.1
  have RA0 := R.2.1
  obtain ⟨⟨i1, i2, i3, i4, i5, i6, i7, i8, i9, i10, i11, i12, i13, i14, i15⟩, ⟨a1, a2, a3, a4, a5, a6, a7⟩, ⟨b1, b2, b3, b4, b5, b6, b7, b8, b9, b10⟩, ⟨p1, p2, p3, p4, p5, p6, p7, p8, p9⟩, d1, d2, d3⟩ := R
  have n6 : nC h ≤ 6 := by unfold nC; omega
  have k1 : ∀ t : Nat, 40 ≤ t → t ≤ 61 → h1 t = h t := fun t a b => by rw [e1, hset_fr _ _ _ _ (by omega), cy_fr h (by omega)]
  have kc : ∀ t : Nat, t < 40 → h2 t = cyH h t := fun t a => by rw [e2, cr_4 h1 (by omega), e1, hset_fr _ _ _ _ (by omega)]
  have nr : nR h1 = nC h := by unfold nR nC; rw [k1 40 (by omega) (by omega), a1]
  have hv := h2R_v h1
  have t1 : tR h1 = tR h ∧ eR h1 = eR h := by
    unfold tR eR nR rAr rFc rKn rRd rdR
    rw [k1 40 (by omega) (by omega), k1 41 (by omega) (by omega), k1 43 (by omega) (by omega), k1 44 (by omega) (by omega), k1 47 (by omega) (by omega)]
    exact ⟨rfl, rfl⟩
  obtain ⟨vv, qq, f48, f49, f10⟩ := cr_v k1
  have nu : nuR (h1R h1) = nuC h := by
    unfold nuR nuC
    rw [vv, f10, b2]
    unfold vR vK
    rw [b2, b3, b5]
  have vRK : vR h = vK h := by unfold vR vK; rw [b2, b3, b5]
  have qRK : qR h = qK h := by unfold qR qK; rw [b2, b3, b4, b5]
  have nuL : nuC h ≤ (h 7 0 2).toNat := kct_le _ _
  have c1 := cy_1 h
  have c8 := cy_8 h
  have r40 := cr_40b h1
  have u48 : ∀ k : Nat, h2R h1 48 0 k = krow (vK h) (vK h) (h 8 0) (h 7 0 2).toNat k := by
    intro k
    by_cases c : k < nuR (h1R h1)
    · show kpR (h1R h1) 48 0 k = _
      rw [kpR_48 _ c, vv, f10, f48, vRK, b2, b3]
    · show kpR (h1R h1) 48 0 k = _
      unfold kpR
      rw [hset_tag _ _ (by decide)]
      unfold KC
      rw [if_neg (by omega), if_neg (by omega)]
      show KR2 _ _ _ 48 0 k = _
      rw [KR2_fr _ _ _ (by decide), f48, b3, krow_ge (by rw [nu] at c; unfold nuC at c; omega)]
  have u49 : ∀ k : Nat, h2R h1 49 0 k = krow (vK h) (qK h) (h 9 0) (h 7 0 2).toNat k := by
    intro k
    by_cases c : k < nuR (h1R h1)
    · show kpR (h1R h1) 49 0 k = _
      rw [kpR_49 _ c, vv, qq, f10, f49, vRK, qRK, b2, b4]
    · show kpR (h1R h1) 49 0 k = _
      unfold kpR
      rw [hset_tag _ _ (by decide)]
      unfold KC
      rw [if_neg (by omega), if_neg (by omega)]
      show KR2 _ _ _ 49 0 k = _
      rw [KR2_fr _ _ _ (by decide), f49, b4, krow_ge (by rw [nu] at c; unfold nuC at c; omega)]
  suffices hRL : RL h2 from ⟨hRL, by rw [nu]; exact sumF_congr fun k _ => (u48 k).symm⟩
  have fu := ksH_fu i9 (Nat.le_refl (h 7 0 2).toNat)
  -- slots and tags
  have w1_8 : h2 1 0 8 = 0 := by rw [kc 1 (by omega)]; exact c1.1
  have w1_9 : h2 1 0 9 = -1 := by rw [kc 1 (by omega)]; exact c1.2.1
  have w1_10 : h2 1 0 10 = h 1 0 10 := by rw [kc 1 (by omega)]; exact c1.2.2.1
  have w1_11 : h2 1 0 11 = h 1 0 11 := by rw [kc 1 (by omega)]; exact c1.2.2.2.1
  have w1_12 : h2 1 0 12 = 0 := by rw [kc 1 (by omega)]; exact c1.2.2.2.2.1
  have w7_2 : h2 7 0 2 = (nuC h : Nat) := by rw [kc 7 (by omega)]; exact c1.2.2.2.2.2.1
  have w7_3 : h2 7 0 3 = -1 := by rw [kc 7 (by omega)]; exact c1.2.2.2.2.2.2
  have w2 : h2 2 = h 2 := by rw [kc 2 (by omega), cy_fr h (by omega)]
  have w23 : h2 23 = h 23 := by rw [kc 23 (by omega), cy_fr h (by omega)]
  have w25 : h2 25 = h 25 := by rw [kc 25 (by omega), cy_fr h (by omega)]
  have w29 : h2 29 = h 29 := by rw [kc 29 (by omega), cy_fr h (by omega)]
  have w8 : h2 8 0 = krow (vK h) (vK h) (h 8 0) (h 7 0 2).toNat := by rw [kc 8 (by omega)]; exact c8.1
  have w9 : h2 9 0 = krow (vK h) (qK h) (h 9 0) (h 7 0 2).toNat := by rw [kc 9 (by omega)]; exact c8.2
  have w27 : h2 27 0 = fun k => if k < 20 then 0 else h 27 0 k := by rw [kc 27 (by omega)]; exact cy_27 h
  have w53 : h2 53 0 = fun k => if k < 20 then 0 else h 53 0 k := by rw [e2, cr_53, k1 53 (by omega) (by omega)]
  have w48 : h2 48 0 = krow (vK h) (vK h) (h 8 0) (h 7 0 2).toNat := by funext k; rw [e2, cr_48 h1 (by omega)]; exact u48 k
  have w49 : h2 49 0 = krow (vK h) (qK h) (h 9 0) (h 7 0 2).toNat := by funext k; rw [e2, cr_48 h1 (by omega)]; exact u49 k
  have w40_1 : h2 40 0 1 = h 2 0 1 := by rw [e2, cr_40 h1 (by omega), k1 40 (by omega) (by omega), a1]
  have w40_9 : h2 40 0 9 = h 23 0 4 := by rw [e2, cr_40 h1 (by omega), k1 40 (by omega) (by omega), b1]
  have w40_16 : h2 40 0 16 = h 1 0 10 := by rw [e2, cr_40 h1 (by omega), k1 40 (by omega) (by omega), b8]
  have w40_17 : h2 40 0 17 = h 1 0 11 := by rw [e2, cr_40 h1 (by omega), k1 40 (by omega) (by omega), b9]
  have w40_10 : h2 40 0 10 = (nuC h : Nat) := by rw [e2, r40.2.1, nu]
  have w40_13 : h2 40 0 13 = -1 := by rw [e2]; exact r40.2.2.1
  have w40_14 : h2 40 0 14 = 0 := by rw [e2]; exact r40.2.2.2.1
  have w40_15 : h2 40 0 15 = -1 := by rw [e2]; exact r40.2.2.2.2.1
  have w40_19 : h2 40 0 19 = 0 := by rw [e2]; exact r40.2.2.2.2.2
  have w50 : h2 50 0 = h 29 0 := by rw [e2, cr_4 h1 (by omega), k1 50 (by omega) (by omega), b10]
  have w52 : h2 52 0 = h 52 0 := by rw [e2, cr_4 h1 (by omega), k1 52 (by omega) (by omega)]
  have wr : ∀ t : Nat, t = 41 ∨ t = 42 ∨ t = 43 → h2 t = h t := fun t ht => by rw [e2, cr_4 h1 (by omega), k1 t (by omega) (by omega)]
  have v4 : ∀ f j : Nat, h2 4 f j = if f < nC h ∧ j = 3 then hoE (cHs h f) (cVl h f) (h 4 f 3) 12 else if f < nC h ∧ j = 4 then whC h f else h 4 f j := fun f j => by rw [kc 4 (by omega)]; exact cy_4 h f j
  have v5 : ∀ f j : Nat, h2 5 f j = if f < nC h ∧ j < 13 then (if j = 0 then h 5 f 12 else -1) else h 5 f j := fun f j => by rw [kc 5 (by omega)]; exact cy_5 h f j
  have v6 : ∀ f j : Nat, h2 6 f j = if f < nC h ∧ j < 12 then -2 else h 6 f j := fun f j => by rw [kc 6 (by omega)]; exact cy_6 h f j
  have x0 : ∀ f : Nat, h2 4 f 0 = h 4 f 0 := fun f => by rw [v4, if_neg (by omega), if_neg (by omega)]
  have x1 : ∀ f : Nat, h2 4 f 1 = h 4 f 1 := fun f => by rw [v4, if_neg (by omega), if_neg (by omega)]
  have x2 : ∀ f : Nat, h2 4 f 2 = h 4 f 2 := fun f => by rw [v4, if_neg (by omega), if_neg (by omega)]
  have x3 : ∀ f : Nat, h2 4 f 3 = if f < nC h then hoE (cHs h f) (cVl h f) (h 4 f 3) 12 else h 4 f 3 := fun f => by rw [v4]; by_cases z : f < nC h <;> simp [z]
  have x4 : ∀ f : Nat, h2 4 f 4 = if f < nC h then whC h f else h 4 f 4 := fun f => by rw [v4]; by_cases z : f < nC h <;> simp [z]
  have z44 : ∀ k : Nat, h2 44 0 k = if k < 13 * nC h then (if k % 13 = 0 then h 44 0 (k + 12) else -1) else h 44 0 k := fun k => by rw [e2, cr_n h1 (by omega), ny_44, cr_l h1 (by omega), k1 44 (by omega) (by omega), nr]
  have z45 : ∀ k : Nat, h2 45 0 k = if k < 12 * nC h then -5 else h 45 0 k := fun k => by rw [e2, cr_n h1 (by omega), ny_45, cr_l h1 (by omega), k1 45 (by omega) (by omega), nr]
  have q1 : rHs (lR (h2R h1)) = rHs h := by funext f t; unfold rHs; rw [cr_l h1 (by omega), k1 45 (by omega) (by omega)]
  have q2 : rVl (lR (h2R h1)) = rVl h := by funext f t; show lR (h2R h1) 45 0 _ = h 45 0 _; rw [cr_l h1 (by omega), k1 45 (by omega) (by omega)]
  have z46 : ∀ k : Nat, h2 46 0 k = if k < nC h then hoE (rHs h k) (rVl h k) (h 46 0 k) 12 else h 46 0 k := fun k => by rw [e2, cr_n h1 (by omega), ny_46, q1, q2, cr_l h1 (by omega), k1 46 (by omega) (by omega), nr]
  have z47 : ∀ k : Nat, h2 47 0 k = if k < nC h then whR (lR (h2R h1) 56 0 k) (lR (h2R h1) 40 0 30) else h 47 0 k := fun k => by rw [e2, cr_n h1 (by omega), ny_47, cr_l h1 (show 47 = 44 ∨ 47 = 45 ∨ 47 = 46 ∨ 47 = 47 by omega), k1 47 (by omega) (by omega), nr]
  have hK := KK_pos (n := nR h) (fc := rFc h) (kn := rKn h) (rd := rRd h)
  have eb := IRh.eb
  have whq : ∀ f : Nat, f < nC h → whR (lR (h2R h1) 56 0 f) (lR (h2R h1) 40 0 30) = whC h f ∧ (whC h f = -1 ∨ 1 ≤ whC h f ∧ whC h f ≤ 200) := by
    intro f hf
    have fr : f < nR h := by rw [RA.n RA0]; exact hf
    have e56 : lR (h2R h1) 56 0 f = tR h f := by rw [lR_56 (h2R h1) (by rw [hv.1, nr]; exact hf), hv.2.1, t1.1]
    have e30 : lR (h2R h1) 40 0 30 = eR h := by rw [lR_30, hv.2.2.1, t1.2]
    have eq : uC h f / sC h = tR h f / eR h := wh_eq hK (by rw [← un_eq RA0 hf]; exact un_td (ar := rAr h) IRh.2.2.1 f) (by rw [← scl_eq RA0]; exact sc_be (ar := rAr h) (fc := rFc h) (kn := rKn h) (rd := rRd h) IRh.2.2.1)
    have tm := IRh.tm fr
    have td := IRh.td fr
    have up : tR h f / eR h ≤ 200 := by
      have z := Int.ediv_le_ediv (show 0 < eR h by omega) tm.2
      rwa [Int.mul_ediv_cancel _ (by omega)] at z
    rw [e56, e30]
    unfold whR whC
    rw [eq]
    refine ⟨rfl, ?_⟩
    split <;> omega
  have hoq : ∀ f : Nat, f < nC h → hoE (rHs h f) (rVl h f) (h 46 0 f) 12 = hoE (cHs h f) (cVl h f) (h 4 f 3) 12 := fun f hf => hoE_cg (a2 f hf).2.2.2.1 (fun x hx => RA.hs IC0 RA0 hf hx)
  have hob : ∀ f : Nat, f < nC h → -1 ≤ hoE (cHs h f) (cVl h f) (h 4 f 3) 12 ∧ hoE (cHs h f) (cVl h f) (h 4 f 3) 12 < h 23 0 4 := fun f hf => hoE_rng (i6 f (by omega)) (fun x hx hc => by
    have z := i7 f x (by omega) hx
    show -1 ≤ h 6 f x ∧ h 6 f x < h 23 0 4
    unfold cHs at hc
    simp at hc
    omega)
  have y41 := wr 41 (by omega)
  have y42 := wr 42 (by omega)
  have y43 := wr 43 (by omega)
  have p26 : ∀ j : Nat, j < 21 → h2 26 0 j = 0 ∧ h2 28 0 j = 0 := fun j hj => by rw [kc 26 (by omega), kc 28 (by omega)]; exact cy_26 h hj
  have p54 : ∀ j : Nat, j < 21 → h2 54 0 j = 0 ∧ h2 55 0 j = 0 := fun j hj => by rw [e2]; exact cr_54 h1 hj
  have nc2 : nC h2 = nC h := by unfold nC; rw [w2]
  have fuN : FUv (((nuC h : Nat) : Int)).toNat (krow (vK h) (vK h) (h 8 0) (h 7 0 2).toNat) (krow (vK h) (qK h) (h 9 0) (h 7 0 2).toNat) := ⟨by rw [Int.toNat_natCast]; have := fu.1; omega, fun k hk => fu.2 k (by rw [Int.toNat_natCast] at hk; omega)⟩
  refine ⟨?_, ?_, ?_, ?_, ?_⟩
  · unfold IC FIc FIv
    rw [nc2]
    simp only [w2, w23, w29, w7_2, w7_3, w8, w9, w1_8, w1_9, w1_10, w1_11, x0, x1, x2, x3, x4]
    refine ⟨i1, fun f hf => ⟨(i2 f hf).1, (i2 f hf).2.1, ?_, fun t ht => ?_⟩, i3, i4, i5, fun f hf => ?_, fun f t hf ht => ?_, by omega, fuN, by omega, by omega, by omega, i13, i14, i15⟩
    · by_cases z : f < nC h
      · rw [if_pos z]; exact (whq f z).2
      · rw [if_neg z]; exact (i2 f hf).2.2.1
    · show -1 ≤ h2 5 f t ∧ h2 5 f t ≤ 99
      rw [v5]
      have z12 : -1 ≤ h 5 f 12 ∧ h 5 f 12 ≤ 99 := (i2 f hf).2.2.2 12 (by omega)
      have zt : -1 ≤ h 5 f t ∧ h 5 f t ≤ 99 := (i2 f hf).2.2.2 t ht
      split
      · split <;> omega
      · exact zt
    · by_cases z : f < nC h
      · rw [if_pos z]; exact hob f z
      · rw [if_neg z]; exact i6 f hf
    · rw [v6]
      split
      · exact Or.inl rfl
      · exact i7 f t hf ht
  · unfold RA
    rw [nc2]
    simp only [w40_1, w2, y41, y42, y43, x0, x1, x2, x3, x4]
    refine ⟨trivial, fun f hf => ?_, fun f t hf ht => ?_, fun f t hf ht => ?_, fun f hf h6 => ?_, fun f t hf h6 ht => ?_, fun f t hf h6 ht => ?_⟩
    · have y := a2 f hf
      rw [z46, z47, if_pos hf, if_pos hf, if_pos hf, if_pos hf]
      exact ⟨y.1, y.2.1, y.2.2.1, hoq f hf, (whq f hf).1⟩
    · rw [z44, v5, if_pos (show 13 * f + t < 13 * nC h by omega), if_pos (show f < nC h ∧ t < 13 from ⟨hf, ht⟩)]
      by_cases z : t = 0
      · rw [if_pos (show (13 * f + t) % 13 = 0 by omega), if_pos z, z, Nat.add_zero]; exact a3 f 12 hf (by omega)
      · rw [if_neg (show ¬ (13 * f + t) % 13 = 0 by omega), if_neg z]
    · rw [z45, v6, if_pos (show 12 * f + t < 12 * nC h by omega), if_pos (show f < nC h ∧ t < 12 from ⟨hf, ht⟩)]; rfl
    · rw [if_neg (by omega), if_neg (by omega)]; exact a5 f hf h6
    · rw [v5, if_neg (by omega)]; exact a6 f t hf h6 ht
    · rw [v6, if_neg (by omega)]; exact a7 f t hf h6 ht
  · unfold RB
    rw [w40_9, w23, w40_10, w7_2, w48, w8, w49, w9, w40_13, w7_3, w40_14, w1_8, w40_15, w1_9, w40_16, w1_10, w40_17, w1_11, w50, w29]
    exact ⟨rfl, rfl, rfl, rfl, rfl, rfl, rfl, rfl, rfl, rfl⟩
  · unfold RP
    rw [w53, w27, w23, w25, w52, p1]
    refine ⟨rfl, fun k hk => ?_, ?_, ?_, fun r hr => ?_, fun r hr _ => ⟨(p26 (r + 1) (by omega)).2, (p26 (r + 1) (by omega)).1⟩, p7, p8, fun j hj => ?_⟩
    · show 0 ≤ (if k < 20 then (0 : Int) else h 27 0 k) ∧ (if k < 20 then (0 : Int) else h 27 0 k) ≤ 1000000
      rw [if_pos hk]; omega
    · rw [(p54 20 (by omega)).1, (p26 0 (by omega)).2]
    · rw [(p54 20 (by omega)).2, (p26 0 (by omega)).1]
    · rw [(p54 r (by omega)).1, (p54 r (by omega)).2, (p26 (r + 1) (by omega)).1, (p26 (r + 1) (by omega)).2]; exact ⟨rfl, rfl⟩
    · rw [(p26 j hj).2]; omega
  · unfold RDb
    rw [w40_19, w1_12]
    exact ⟨rfl, Or.inl rfl, fun z => absurd z (by decide)⟩

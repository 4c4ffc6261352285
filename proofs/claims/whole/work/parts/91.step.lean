/-! One call on both sides: the answers agree, and the relation is kept. -/
def cdO (cd : Nat → Int) (e : Option Nat) : Int := match e with
  | none => 0
  | some k => cd k
theorem t_gen {e : Option Nat} {cd : Nat → Int} {h h1 h2 : AH} {PC PR : AH → Prop} {E k1 : Int} {r0 r1 v2 : Option AV} (q1 : LO e cd h PC (.inl (some (vI k1))) h1) (q2 : Rout E r0 r1 h1 PR (.inl v2) h2) (hE : E = cdO cd e) (hc : ∀ k, e = some k → cd k ≠ 0) :
    (k1 ≠ 0 ∧ h1 = h ∧ h2 = hset h 40 0 0 k1) ∨ (e = none ∧ k1 = 0 ∧ PC h1 ∧ v2 = r1 ∧ PR h2) := by
  rcases q1 with ⟨k, he, ho, hh⟩ | ⟨he, ho, hp⟩
  · have e1 : k1 = cd k := Sum.inl.inj (Option.some.inj (Sum.inl.inj ho))
    have e2 : E = cd k := by rw [hE, he]; rfl
    have e3 := hc k he
    rcases q2 with ⟨z1, z2, z3⟩ | ⟨z1, z2, z3⟩
    · exact Or.inl ⟨by rw [e1]; exact e3, hh, by rw [z3, hh, e2, e1]⟩
    · exact absurd (e2.symm.trans z1) e3
  · have e1 : k1 = 0 := Sum.inl.inj (Option.some.inj (Sum.inl.inj ho))
    have e2 : E = 0 := by rw [hE, he]; rfl
    rcases q2 with ⟨z1, z2, z3⟩ | ⟨z1, z2, z3⟩
    · exact absurd e2 z1
    · exact Or.inr ⟨he, e1, hp, Sum.inl.inj z2, z3⟩
theorem LO.int {e : Option Nat} {cd : Nat → Int} {h h1 : AH} {PC : AH → Prop} {v : Option AV} (q : LO e cd h PC (.inl v) h1) : ∃ k, v = some (vI k) := by
  rcases q with ⟨k, _, ho, _⟩ | ⟨_, ho, _⟩
  · exact ⟨_, Sum.inl.inj ho⟩
  · exact ⟨_, Sum.inl.inj ho⟩
theorem LO.no {e : Option Nat} {cd : Nat → Int} {h h1 : AH} {PC : AH → Prop} {k : Nat} (q : LO e cd h PC (.inr k) h1) : False := by
  rcases q with ⟨k, _, ho, _⟩ | ⟨_, ho, _⟩ <;> cases ho
theorem Rout.int {E n0 n1 : Int} {h h1 : AH} {PR : AH → Prop} {v : Option AV} (q : Rout E (some (vI n0)) (some (vI n1)) h PR (.inl v) h1) : ∃ k, v = some (vI k) := by
  rcases q with ⟨_, ho, _⟩ | ⟨_, ho, _⟩
  · exact ⟨_, Sum.inl.inj ho⟩
  · exact ⟨_, Sum.inl.inj ho⟩
theorem Rout.unit {E : Int} {h h1 : AH} {PR : AH → Prop} {v : Option AV} (q : Rout E none none h PR (.inl v) h1) : v = none := by
  rcases q with ⟨_, ho, _⟩ | ⟨_, ho, _⟩ <;> exact Sum.inl.inj ho
theorem Rout.no {E : Int} {r0 r1 : Option AV} {h h1 : AH} {PR : AH → Prop} {k : Nat} (q : Rout E r0 r1 h PR (.inr k) h1) : False := by
  rcases q with ⟨_, ho, _⟩ | ⟨_, ho, _⟩ <;> cases ho
theorem x_flat {h : AH} {a b c : Int} (R : RL h) : (if a < 1 ∨ 50 < a ∨ b < 0 ∨ 50 < b ∨ c < 1 ∨ 2 < c then 1 else if h 40 0 1 = 6 then 2 else 0) = cdO (fun k => if k = 0 then 1 else if k = 3 then 2 else 0) (if a < 1 ∨ 50 < a ∨ b < 0 ∨ 50 < b ∨ c < 1 ∨ 2 < c then some 0 else if h 2 0 1 = 6 then some 3 else none) := by
  obtain ⟨⟨i1, i2, i3, i4, i5, i6, i7, i8, i9, i10, i11, i12, i13, i14, i15⟩, ⟨a1, a2, a3, a4, a5, a6, a7⟩, ⟨b1, b2, b3, b4, b5, b6, b7, b8, b9, b10⟩, ⟨p1, p2, p3, p4, p5, p6, p7, p8, p9⟩, d1, d2, d3⟩ := R
  rw [a1]
  (repeat' split) <;> first | rfl | (exfalso; omega)
theorem fr_flat {h h1 : AH} {a b c : Int} {v1 : Option AV} (q1 : LO (if a < 1 ∨ 50 < a ∨ b < 0 ∨ 50 < b ∨ c < 1 ∨ 2 < c then some 0 else if h 2 0 1 = 6 then some 3 else none) (fun k => if k = 0 then 1 else if k = 3 then 2 else 0) h (fun h' => h' = hset (hset (hset (hset (hset (hset h 1 0 12 0) 4 (h 2 0 1).toNat 0 a) 4 (h 2 0 1).toNat 1 b) 4 (h 2 0 1).toNat 2 c) 2 0 1 (h 2 0 1 + 1)) 70 0 0 (h 2 0 1)) (.inl v1) h1) : ∀ t : Nat, 40 ≤ t → t ≤ 61 → h1 t = h t := by
  intro t ht ht2
  rcases q1 with ⟨_, _, _, e⟩ | ⟨_, _, e⟩
  · rw [e]
  · rw [e, hset_fr _ _ _ _ (by omega), hset_fr _ _ _ _ (by omega), hset_fr _ _ _ _ (by omega), hset_fr _ _ _ _ (by omega), hset_fr _ _ _ _ (by omega), hset_fr _ _ _ _ (by omega)]
theorem tx_flat {h h1 h2 : AH} {a b c : Int} {k1 k2 : Int} (R : RL h) (q1 : LO (if a < 1 ∨ 50 < a ∨ b < 0 ∨ 50 < b ∨ c < 1 ∨ 2 < c then some 0 else if h 2 0 1 = 6 then some 3 else none) (fun k => if k = 0 then 1 else if k = 3 then 2 else 0) h (fun h' => h' = hset (hset (hset (hset (hset (hset h 1 0 12 0) 4 (h 2 0 1).toNat 0 a) 4 (h 2 0 1).toNat 1 b) 4 (h 2 0 1).toNat 2 c) 2 0 1 (h 2 0 1 + 1)) 70 0 0 (h 2 0 1)) (.inl (some (vI k1))) h1) (q2 : Rout (if a < 1 ∨ 50 < a ∨ b < 0 ∨ 50 < b ∨ c < 1 ∨ 2 < c then 1 else if h1 40 0 1 = 6 then 2 else 0) (some (vI 0)) (some (vI (h1 40 0 1))) h1 (fun h' => h' = hset (hset (hfill (hfill (hset (hset (hset (hset (hset (hset h1 40 0 0 0) 41 0 (h1 40 0 1).toNat a) 42 0 (h1 40 0 1).toNat b) 43 0 (h1 40 0 1).toNat c) 46 0 (h1 40 0 1).toNat (-1)) 47 0 (h1 40 0 1).toNat (-1)) 44 0 (13 * (h1 40 0 1).toNat) 13 (-1)) 45 0 (12 * (h1 40 0 1).toNat) 12 (-5)) 40 0 1 (h1 40 0 1 + 1)) 40 0 19 0) (.inl (some (vI k2))) h2) : h2 40 0 0 = k1 ∧ RL h2 ∧ (k1 = 0 → h2 70 0 0 = k2) := by
  have fr := fr_flat q1
  have ex := x_flat R (a := a) (b := b) (c := c)
  rw [← fr 40 (by omega) (by omega)] at ex
  have hc : ∀ k, (if a < 1 ∨ 50 < a ∨ b < 0 ∨ 50 < b ∨ c < 1 ∨ 2 < c then some 0 else if h 2 0 1 = 6 then some 3 else none) = some k → ((fun k => if k = 0 then 1 else if k = 3 then 2 else 0) : Nat → Int) k ≠ 0 := by
    intro k
    (repeat' split) <;> intro z <;> cases z <;> decide
  rcases t_gen q1 q2 ex hc with ⟨z1, z2, z3⟩ | ⟨he, z1, z2, z3, z4⟩
  · exact ⟨by rw [z3]; exact hset_same _ _ _ _ _, by rw [z3]; exact RL_thr R _, fun z => absurd z z1⟩
  · refine ⟨by rw [z4, z1]; rfl, s_flat R he z2 z4, fun _ => ?_⟩
    have e3 : k2 = h1 40 0 1 := Sum.inl.inj (Option.some.inj z3)
    rw [e3, fr 40 (by omega) (by omega), R.2.1.1, z4, z2]
    rfl
theorem x_reading {h : AH} {a b c : Int} (R : RL h) : (if ¬ (0 ≤ a ∧ a < h 40 0 1) ∨ b < 0 ∨ 12 < b then 1 else if c < -1 ∨ 99 < c then 2 else 0) = cdO (fun k => if k = 1 then 1 else if k = 0 then 2 else 0) (if a < 0 ∨ h 2 0 1 ≤ a then some 1 else if b < 0 ∨ 12 < b then some 1 else if c < -1 ∨ 99 < c then some 0 else none) := by
  obtain ⟨⟨i1, i2, i3, i4, i5, i6, i7, i8, i9, i10, i11, i12, i13, i14, i15⟩, ⟨a1, a2, a3, a4, a5, a6, a7⟩, ⟨b1, b2, b3, b4, b5, b6, b7, b8, b9, b10⟩, ⟨p1, p2, p3, p4, p5, p6, p7, p8, p9⟩, d1, d2, d3⟩ := R
  rw [a1]
  (repeat' split) <;> first | rfl | (exfalso; omega)
theorem fr_reading {h h1 : AH} {a b c : Int} {v1 : Option AV} (q1 : LO (if a < 0 ∨ h 2 0 1 ≤ a then some 1 else if b < 0 ∨ 12 < b then some 1 else if c < -1 ∨ 99 < c then some 0 else none) (fun k => if k = 1 then 1 else if k = 0 then 2 else 0) h (fun h' => h' = hset (hset h 1 0 12 0) 5 a.toNat b.toNat c) (.inl v1) h1) : ∀ t : Nat, 40 ≤ t → t ≤ 61 → h1 t = h t := by
  intro t ht ht2
  rcases q1 with ⟨_, _, _, e⟩ | ⟨_, _, e⟩
  · rw [e]
  · rw [e, hset_fr _ _ _ _ (by omega), hset_fr _ _ _ _ (by omega)]
theorem tx_reading {h h1 h2 : AH} {a b c : Int} {k1 : Int} (R : RL h) (q1 : LO (if a < 0 ∨ h 2 0 1 ≤ a then some 1 else if b < 0 ∨ 12 < b then some 1 else if c < -1 ∨ 99 < c then some 0 else none) (fun k => if k = 1 then 1 else if k = 0 then 2 else 0) h (fun h' => h' = hset (hset h 1 0 12 0) 5 a.toNat b.toNat c) (.inl (some (vI k1))) h1) (q2 : Rout (if ¬ (0 ≤ a ∧ a < h1 40 0 1) ∨ b < 0 ∨ 12 < b then 1 else if c < -1 ∨ 99 < c then 2 else 0) (none) (none) h1 (fun h' => h' = hset (hset (hset h1 40 0 0 0) 44 0 (13 * a + b).toNat c) 40 0 19 0) (.inl none) h2) : h2 40 0 0 = k1 ∧ RL h2 := by
  have fr := fr_reading q1
  have ex := x_reading R (a := a) (b := b) (c := c)
  rw [← fr 40 (by omega) (by omega)] at ex
  have hc : ∀ k, (if a < 0 ∨ h 2 0 1 ≤ a then some 1 else if b < 0 ∨ 12 < b then some 1 else if c < -1 ∨ 99 < c then some 0 else none) = some k → ((fun k => if k = 1 then 1 else if k = 0 then 2 else 0) : Nat → Int) k ≠ 0 := by
    intro k
    (repeat' split) <;> intro z <;> cases z <;> decide
  rcases t_gen q1 q2 ex hc with ⟨z1, z2, z3⟩ | ⟨he, z1, z2, z3, z4⟩
  · exact ⟨by rw [z3]; exact hset_same _ _ _ _ _, by rw [z3]; exact RL_thr R _⟩
  · exact ⟨by rw [z4, z1]; rfl, s_reading R he z2 z4⟩
theorem x_enter {h : AH} {a b : Int} (R : RL h) : (if ¬ (0 ≤ a ∧ a < h 40 0 1) ∨ b < 0 ∨ 11 < b then 1 else if h 45 0 (12 * a + b).toNat = -5 then (if h 40 0 9 = 20 then 3 else 0) else 2) = cdO (fun k => if k = 1 then 1 else if k = 2 then 2 else if k = 3 then 3 else 0) (if a < 0 ∨ h 2 0 1 ≤ a then some 1 else if b < 0 ∨ 11 < b then some 1 else if h 6 a.toNat b.toNat = -2 then (if h 23 0 4 = 20 then some 3 else none) else some 2) := by
  obtain ⟨⟨i1, i2, i3, i4, i5, i6, i7, i8, i9, i10, i11, i12, i13, i14, i15⟩, ⟨a1, a2, a3, a4, a5, a6, a7⟩, ⟨b1, b2, b3, b4, b5, b6, b7, b8, b9, b10⟩, ⟨p1, p2, p3, p4, p5, p6, p7, p8, p9⟩, d1, d2, d3⟩ := R
  have q : 0 ≤ a → a < h 2 0 1 → 0 ≤ b → b ≤ 11 → (h 45 0 (12 * a + b).toNat = -5 ↔ h 6 a.toNat b.toNat = -2) := by
    intro x1 x2 x3 x4
    have y := a4 a.toNat b.toNat (by show a.toNat < (h 2 0 1).toNat; omega) (by omega)
    have z := i7 a.toNat b.toNat (by omega) (by omega)
    rw [show 12 * a.toNat + b.toNat = (12 * a + b).toNat by omega] at y
    rw [y]
    unfold cg
    split <;> omega
  rw [a1, b1]
  (repeat' split) <;> first | rfl | (exfalso; omega)
theorem fr_enter {h h1 : AH} {a b : Int} {v1 : Option AV} (q1 : LO (if a < 0 ∨ h 2 0 1 ≤ a then some 1 else if b < 0 ∨ 11 < b then some 1 else if h 6 a.toNat b.toNat = -2 then (if h 23 0 4 = 20 then some 3 else none) else some 2) (fun k => if k = 1 then 1 else if k = 2 then 2 else if k = 3 then 3 else 0) h (fun h' => h' = hset (hset (hset (hset h 1 0 12 0) 23 0 4 (h 23 0 4 + 1)) 6 a.toNat b.toNat (h 23 0 4)) 70 0 0 (h 23 0 4)) (.inl v1) h1) : ∀ t : Nat, 40 ≤ t → t ≤ 61 → h1 t = h t := by
  intro t ht ht2
  rcases q1 with ⟨_, _, _, e⟩ | ⟨_, _, e⟩
  · rw [e]
  · rw [e, hset_fr _ _ _ _ (by omega), hset_fr _ _ _ _ (by omega), hset_fr _ _ _ _ (by omega), hset_fr _ _ _ _ (by omega)]
theorem tx_enter {h h1 h2 : AH} {a b : Int} {k1 k2 : Int} (R : RL h) (q1 : LO (if a < 0 ∨ h 2 0 1 ≤ a then some 1 else if b < 0 ∨ 11 < b then some 1 else if h 6 a.toNat b.toNat = -2 then (if h 23 0 4 = 20 then some 3 else none) else some 2) (fun k => if k = 1 then 1 else if k = 2 then 2 else if k = 3 then 3 else 0) h (fun h' => h' = hset (hset (hset (hset h 1 0 12 0) 23 0 4 (h 23 0 4 + 1)) 6 a.toNat b.toNat (h 23 0 4)) 70 0 0 (h 23 0 4)) (.inl (some (vI k1))) h1) (q2 : Rout (if ¬ (0 ≤ a ∧ a < h1 40 0 1) ∨ b < 0 ∨ 11 < b then 1 else if h1 45 0 (12 * a + b).toNat = -5 then (if h1 40 0 9 = 20 then 3 else 0) else 2) (some (vI 0)) (some (vI (h1 40 0 9))) h1 (fun h' => h' = hset (hset (hset (hset h1 40 0 0 0) 45 0 (12 * a + b).toNat (h1 40 0 9)) 40 0 9 (h1 40 0 9 + 1)) 40 0 19 0) (.inl (some (vI k2))) h2) : h2 40 0 0 = k1 ∧ RL h2 ∧ (k1 = 0 → h2 70 0 0 = k2) := by
  have fr := fr_enter q1
  have ex := x_enter R (a := a) (b := b)
  rw [← fr 40 (by omega) (by omega), ← fr 45 (by omega) (by omega)] at ex
  have hc : ∀ k, (if a < 0 ∨ h 2 0 1 ≤ a then some 1 else if b < 0 ∨ 11 < b then some 1 else if h 6 a.toNat b.toNat = -2 then (if h 23 0 4 = 20 then some 3 else none) else some 2) = some k → ((fun k => if k = 1 then 1 else if k = 2 then 2 else if k = 3 then 3 else 0) : Nat → Int) k ≠ 0 := by
    intro k
    (repeat' split) <;> intro z <;> cases z <;> decide
  rcases t_gen q1 q2 ex hc with ⟨z1, z2, z3⟩ | ⟨he, z1, z2, z3, z4⟩
  · exact ⟨by rw [z3]; exact hset_same _ _ _ _ _, by rw [z3]; exact RL_thr R _, fun z => absurd z z1⟩
  · refine ⟨by rw [z4, z1]; rfl, s_enter R he z2 z4, fun _ => ?_⟩
    have e3 : k2 = h1 40 0 9 := Sum.inl.inj (Option.some.inj z3)
    rw [e3, fr 40 (by omega) (by omega), R.2.2.1.1, z4, z2]
    rfl
theorem x_leave {h : AH} {a b : Int} (R : RL h) : (if ¬ (0 ≤ a ∧ a < h 40 0 1) ∨ b < 0 ∨ 11 < b then 1 else if h 45 0 (12 * a + b).toNat = -5 then 0 else 2) = cdO (fun k => if k = 1 then 1 else if k = 2 then 2 else 0) (if a < 0 ∨ h 2 0 1 ≤ a then some 1 else if b < 0 ∨ 11 < b then some 1 else if h 6 a.toNat b.toNat = -2 then none else some 2) := by
  obtain ⟨⟨i1, i2, i3, i4, i5, i6, i7, i8, i9, i10, i11, i12, i13, i14, i15⟩, ⟨a1, a2, a3, a4, a5, a6, a7⟩, ⟨b1, b2, b3, b4, b5, b6, b7, b8, b9, b10⟩, ⟨p1, p2, p3, p4, p5, p6, p7, p8, p9⟩, d1, d2, d3⟩ := R
  have q : 0 ≤ a → a < h 2 0 1 → 0 ≤ b → b ≤ 11 → (h 45 0 (12 * a + b).toNat = -5 ↔ h 6 a.toNat b.toNat = -2) := by
    intro x1 x2 x3 x4
    have y := a4 a.toNat b.toNat (by show a.toNat < (h 2 0 1).toNat; omega) (by omega)
    have z := i7 a.toNat b.toNat (by omega) (by omega)
    rw [show 12 * a.toNat + b.toNat = (12 * a + b).toNat by omega] at y
    rw [y]
    unfold cg
    split <;> omega
  rw [a1]
  (repeat' split) <;> first | rfl | (exfalso; omega)
theorem fr_leave {h h1 : AH} {a b : Int} {v1 : Option AV} (q1 : LO (if a < 0 ∨ h 2 0 1 ≤ a then some 1 else if b < 0 ∨ 11 < b then some 1 else if h 6 a.toNat b.toNat = -2 then none else some 2) (fun k => if k = 1 then 1 else if k = 2 then 2 else 0) h (fun h' => h' = hset (hset h 1 0 12 0) 6 a.toNat b.toNat (-1)) (.inl v1) h1) : ∀ t : Nat, 40 ≤ t → t ≤ 61 → h1 t = h t := by
  intro t ht ht2
  rcases q1 with ⟨_, _, _, e⟩ | ⟨_, _, e⟩
  · rw [e]
  · rw [e, hset_fr _ _ _ _ (by omega), hset_fr _ _ _ _ (by omega)]
theorem tx_leave {h h1 h2 : AH} {a b : Int} {k1 : Int} (R : RL h) (q1 : LO (if a < 0 ∨ h 2 0 1 ≤ a then some 1 else if b < 0 ∨ 11 < b then some 1 else if h 6 a.toNat b.toNat = -2 then none else some 2) (fun k => if k = 1 then 1 else if k = 2 then 2 else 0) h (fun h' => h' = hset (hset h 1 0 12 0) 6 a.toNat b.toNat (-1)) (.inl (some (vI k1))) h1) (q2 : Rout (if ¬ (0 ≤ a ∧ a < h1 40 0 1) ∨ b < 0 ∨ 11 < b then 1 else if h1 45 0 (12 * a + b).toNat = -5 then 0 else 2) (none) (none) h1 (fun h' => h' = hset (hset (hset h1 40 0 0 0) 45 0 (12 * a + b).toNat (-1)) 40 0 19 0) (.inl none) h2) : h2 40 0 0 = k1 ∧ RL h2 := by
  have fr := fr_leave q1
  have ex := x_leave R (a := a) (b := b)
  rw [← fr 40 (by omega) (by omega), ← fr 45 (by omega) (by omega)] at ex
  have hc : ∀ k, (if a < 0 ∨ h 2 0 1 ≤ a then some 1 else if b < 0 ∨ 11 < b then some 1 else if h 6 a.toNat b.toNat = -2 then none else some 2) = some k → ((fun k => if k = 1 then 1 else if k = 2 then 2 else 0) : Nat → Int) k ≠ 0 := by
    intro k
    (repeat' split) <;> intro z <;> cases z <;> decide
  rcases t_gen q1 q2 ex hc with ⟨z1, z2, z3⟩ | ⟨he, z1, z2, z3, z4⟩
  · exact ⟨by rw [z3]; exact hset_same _ _ _ _ _, by rw [z3]; exact RL_thr R _⟩
  · exact ⟨by rw [z4, z1]; rfl, s_leave R he z2 z4⟩
theorem x_deliver {h : AH} {a b : Int} (R : RL h) : (if a < 1 ∨ 1000 < a ∨ b < 0 ∨ 20000 < b then 1 else if h 40 0 10 = 12 then 2 else 0) = cdO (fun k => if k = 0 then 1 else if k = 3 then 2 else 0) (if a < 1 ∨ 1000 < a ∨ b < 0 ∨ 20000 < b then some 0 else if h 7 0 2 = 12 then some 3 else none) := by
  obtain ⟨⟨i1, i2, i3, i4, i5, i6, i7, i8, i9, i10, i11, i12, i13, i14, i15⟩, ⟨a1, a2, a3, a4, a5, a6, a7⟩, ⟨b1, b2, b3, b4, b5, b6, b7, b8, b9, b10⟩, ⟨p1, p2, p3, p4, p5, p6, p7, p8, p9⟩, d1, d2, d3⟩ := R
  rw [b2]
  (repeat' split) <;> first | rfl | (exfalso; omega)
theorem fr_deliver {h h1 : AH} {a b : Int} {v1 : Option AV} (q1 : LO (if a < 1 ∨ 1000 < a ∨ b < 0 ∨ 20000 < b then some 0 else if h 7 0 2 = 12 then some 3 else none) (fun k => if k = 0 then 1 else if k = 3 then 2 else 0) h (fun h' => h' = hset (hset (hset (hset h 1 0 12 0) 8 0 (h 7 0 2).toNat a) 9 0 (h 7 0 2).toNat b) 7 0 2 (h 7 0 2 + 1)) (.inl v1) h1) : ∀ t : Nat, 40 ≤ t → t ≤ 61 → h1 t = h t := by
  intro t ht ht2
  rcases q1 with ⟨_, _, _, e⟩ | ⟨_, _, e⟩
  · rw [e]
  · rw [e, hset_fr _ _ _ _ (by omega), hset_fr _ _ _ _ (by omega), hset_fr _ _ _ _ (by omega), hset_fr _ _ _ _ (by omega)]
theorem tx_deliver {h h1 h2 : AH} {a b : Int} {k1 : Int} (R : RL h) (q1 : LO (if a < 1 ∨ 1000 < a ∨ b < 0 ∨ 20000 < b then some 0 else if h 7 0 2 = 12 then some 3 else none) (fun k => if k = 0 then 1 else if k = 3 then 2 else 0) h (fun h' => h' = hset (hset (hset (hset h 1 0 12 0) 8 0 (h 7 0 2).toNat a) 9 0 (h 7 0 2).toNat b) 7 0 2 (h 7 0 2 + 1)) (.inl (some (vI k1))) h1) (q2 : Rout (if a < 1 ∨ 1000 < a ∨ b < 0 ∨ 20000 < b then 1 else if h1 40 0 10 = 12 then 2 else 0) (none) (none) h1 (fun h' => h' = hset (hset (hset (hset (hset h1 40 0 0 0) 48 0 (h1 40 0 10).toNat a) 49 0 (h1 40 0 10).toNat b) 40 0 10 (h1 40 0 10 + 1)) 40 0 19 0) (.inl none) h2) : h2 40 0 0 = k1 ∧ RL h2 := by
  have fr := fr_deliver q1
  have ex := x_deliver R (a := a) (b := b)
  rw [← fr 40 (by omega) (by omega)] at ex
  have hc : ∀ k, (if a < 1 ∨ 1000 < a ∨ b < 0 ∨ 20000 < b then some 0 else if h 7 0 2 = 12 then some 3 else none) = some k → ((fun k => if k = 0 then 1 else if k = 3 then 2 else 0) : Nat → Int) k ≠ 0 := by
    intro k
    (repeat' split) <;> intro z <;> cases z <;> decide
  rcases t_gen q1 q2 ex hc with ⟨z1, z2, z3⟩ | ⟨he, z1, z2, z3, z4⟩
  · exact ⟨by rw [z3]; exact hset_same _ _ _ _ _, by rw [z3]; exact RL_thr R _⟩
  · exact ⟨by rw [z4, z1]; rfl, s_deliver R he z2 z4⟩
theorem x_endStock {h : AH} {a : Int} (R : RL h) : (if a < -1 ∨ sumF (h 40 0 10).toNat (h 48 0) < a then 1 else 0) = cdO (fun k => if k = 0 then 1 else 0) (if a < -1 ∨ sumF (h 7 0 2).toNat (h 8 0) < a then some 0 else none) := by
  obtain ⟨⟨i1, i2, i3, i4, i5, i6, i7, i8, i9, i10, i11, i12, i13, i14, i15⟩, ⟨a1, a2, a3, a4, a5, a6, a7⟩, ⟨b1, b2, b3, b4, b5, b6, b7, b8, b9, b10⟩, ⟨p1, p2, p3, p4, p5, p6, p7, p8, p9⟩, d1, d2, d3⟩ := R
  rw [b2, b3]
  (repeat' split) <;> first | rfl | (exfalso; omega)
theorem fr_endStock {h h1 : AH} {a : Int} {v1 : Option AV} (q1 : LO (if a < -1 ∨ sumF (h 7 0 2).toNat (h 8 0) < a then some 0 else none) (fun k => if k = 0 then 1 else 0) h (fun h' => h' = hset (hset h 1 0 12 0) 7 0 3 a) (.inl v1) h1) : ∀ t : Nat, 40 ≤ t → t ≤ 61 → h1 t = h t := by
  intro t ht ht2
  rcases q1 with ⟨_, _, _, e⟩ | ⟨_, _, e⟩
  · rw [e]
  · rw [e, hset_fr _ _ _ _ (by omega), hset_fr _ _ _ _ (by omega)]
theorem tx_endStock {h h1 h2 : AH} {a : Int} {k1 : Int} (R : RL h) (q1 : LO (if a < -1 ∨ sumF (h 7 0 2).toNat (h 8 0) < a then some 0 else none) (fun k => if k = 0 then 1 else 0) h (fun h' => h' = hset (hset h 1 0 12 0) 7 0 3 a) (.inl (some (vI k1))) h1) (q2 : Rout (if a < -1 ∨ sumF (h1 40 0 10).toNat (h1 48 0) < a then 1 else 0) (none) (none) h1 (fun h' => h' = hset (hset (hset h1 40 0 0 0) 40 0 13 a) 40 0 19 0) (.inl none) h2) : h2 40 0 0 = k1 ∧ RL h2 := by
  have fr := fr_endStock q1
  have ex := x_endStock R (a := a)
  rw [← fr 40 (by omega) (by omega), ← fr 48 (by omega) (by omega)] at ex
  have hc : ∀ k, (if a < -1 ∨ sumF (h 7 0 2).toNat (h 8 0) < a then some 0 else none) = some k → ((fun k => if k = 0 then 1 else 0) : Nat → Int) k ≠ 0 := by
    intro k
    (repeat' split) <;> intro z <;> cases z <;> decide
  rcases t_gen q1 q2 ex hc with ⟨z1, z2, z3⟩ | ⟨he, z1, z2, z3, z4⟩
  · exact ⟨by rw [z3]; exact hset_same _ _ _ _ _, by rw [z3]; exact RL_thr R _⟩
  · exact ⟨by rw [z4, z1]; rfl, s_endStock R he z2 z4⟩
theorem x_sideCosts {h : AH} {a : Int} (R : RL h) : (if a < 0 ∨ 20000 < a then 1 else 0) = cdO (fun k => if k = 0 then 1 else 0) (if a < 0 ∨ 20000 < a then some 0 else none) := by
  obtain ⟨⟨i1, i2, i3, i4, i5, i6, i7, i8, i9, i10, i11, i12, i13, i14, i15⟩, ⟨a1, a2, a3, a4, a5, a6, a7⟩, ⟨b1, b2, b3, b4, b5, b6, b7, b8, b9, b10⟩, ⟨p1, p2, p3, p4, p5, p6, p7, p8, p9⟩, d1, d2, d3⟩ := R
  (repeat' split) <;> first | rfl | (exfalso; omega)
theorem fr_sideCosts {h h1 : AH} {a : Int} {v1 : Option AV} (q1 : LO (if a < 0 ∨ 20000 < a then some 0 else none) (fun k => if k = 0 then 1 else 0) h (fun h' => h' = hset (hset h 1 0 12 0) 1 0 8 a) (.inl v1) h1) : ∀ t : Nat, 40 ≤ t → t ≤ 61 → h1 t = h t := by
  intro t ht ht2
  rcases q1 with ⟨_, _, _, e⟩ | ⟨_, _, e⟩
  · rw [e]
  · rw [e, hset_fr _ _ _ _ (by omega), hset_fr _ _ _ _ (by omega)]
theorem tx_sideCosts {h h1 h2 : AH} {a : Int} {k1 : Int} (R : RL h) (q1 : LO (if a < 0 ∨ 20000 < a then some 0 else none) (fun k => if k = 0 then 1 else 0) h (fun h' => h' = hset (hset h 1 0 12 0) 1 0 8 a) (.inl (some (vI k1))) h1) (q2 : Rout (if a < 0 ∨ 20000 < a then 1 else 0) (none) (none) h1 (fun h' => h' = hset (hset (hset h1 40 0 0 0) 40 0 14 a) 40 0 19 0) (.inl none) h2) : h2 40 0 0 = k1 ∧ RL h2 := by
  have fr := fr_sideCosts q1
  have ex := x_sideCosts R (a := a)
  have hc : ∀ k, (if a < 0 ∨ 20000 < a then some 0 else none) = some k → ((fun k => if k = 0 then 1 else 0) : Nat → Int) k ≠ 0 := by
    intro k
    (repeat' split) <;> intro z <;> cases z <;> decide
  rcases t_gen q1 q2 ex hc with ⟨z1, z2, z3⟩ | ⟨he, z1, z2, z3, z4⟩
  · exact ⟨by rw [z3]; exact hset_same _ _ _ _ _, by rw [z3]; exact RL_thr R _⟩
  · exact ⟨by rw [z4, z1]; rfl, s_sideCosts R he z2 z4⟩
theorem x_water {h : AH} {a b : Int} (R : RL h) : (if a < -1 ∨ 10000000 < a ∨ b < 0 ∨ 100 < b then 1 else 0) = cdO (fun k => if k = 0 then 1 else 0) (if a < -1 ∨ 10000000 < a ∨ b < 0 ∨ 100 < b then some 0 else none) := by
  obtain ⟨⟨i1, i2, i3, i4, i5, i6, i7, i8, i9, i10, i11, i12, i13, i14, i15⟩, ⟨a1, a2, a3, a4, a5, a6, a7⟩, ⟨b1, b2, b3, b4, b5, b6, b7, b8, b9, b10⟩, ⟨p1, p2, p3, p4, p5, p6, p7, p8, p9⟩, d1, d2, d3⟩ := R
  (repeat' split) <;> first | rfl | (exfalso; omega)
theorem fr_water {h h1 : AH} {a b : Int} {v1 : Option AV} (q1 : LO (if a < -1 ∨ 10000000 < a ∨ b < 0 ∨ 100 < b then some 0 else none) (fun k => if k = 0 then 1 else 0) h (fun h' => h' = hset (hset (hset h 1 0 12 0) 1 0 9 a) 1 0 10 b) (.inl v1) h1) : ∀ t : Nat, 40 ≤ t → t ≤ 61 → h1 t = h t := by
  intro t ht ht2
  rcases q1 with ⟨_, _, _, e⟩ | ⟨_, _, e⟩
  · rw [e]
  · rw [e, hset_fr _ _ _ _ (by omega), hset_fr _ _ _ _ (by omega), hset_fr _ _ _ _ (by omega)]
theorem tx_water {h h1 h2 : AH} {a b : Int} {k1 : Int} (R : RL h) (q1 : LO (if a < -1 ∨ 10000000 < a ∨ b < 0 ∨ 100 < b then some 0 else none) (fun k => if k = 0 then 1 else 0) h (fun h' => h' = hset (hset (hset h 1 0 12 0) 1 0 9 a) 1 0 10 b) (.inl (some (vI k1))) h1) (q2 : Rout (if a < -1 ∨ 10000000 < a ∨ b < 0 ∨ 100 < b then 1 else 0) (none) (none) h1 (fun h' => h' = hset (hset (hset (hset h1 40 0 0 0) 40 0 15 a) 40 0 16 b) 40 0 19 0) (.inl none) h2) : h2 40 0 0 = k1 ∧ RL h2 := by
  have fr := fr_water q1
  have ex := x_water R (a := a) (b := b)
  have hc : ∀ k, (if a < -1 ∨ 10000000 < a ∨ b < 0 ∨ 100 < b then some 0 else none) = some k → ((fun k => if k = 0 then 1 else 0) : Nat → Int) k ≠ 0 := by
    intro k
    (repeat' split) <;> intro z <;> cases z <;> decide
  rcases t_gen q1 q2 ex hc with ⟨z1, z2, z3⟩ | ⟨he, z1, z2, z3, z4⟩
  · exact ⟨by rw [z3]; exact hset_same _ _ _ _ _, by rw [z3]; exact RL_thr R _⟩
  · exact ⟨by rw [z4, z1]; rfl, s_water R he z2 z4⟩
theorem x_permille {h : AH} {a : Int} (R : RL h) : (if a < 300 ∨ 700 < a then 1 else 0) = cdO (fun k => if k = 0 then 1 else 0) (if a < 300 ∨ 700 < a then some 0 else none) := by
  obtain ⟨⟨i1, i2, i3, i4, i5, i6, i7, i8, i9, i10, i11, i12, i13, i14, i15⟩, ⟨a1, a2, a3, a4, a5, a6, a7⟩, ⟨b1, b2, b3, b4, b5, b6, b7, b8, b9, b10⟩, ⟨p1, p2, p3, p4, p5, p6, p7, p8, p9⟩, d1, d2, d3⟩ := R
  (repeat' split) <;> first | rfl | (exfalso; omega)
theorem fr_permille {h h1 : AH} {a : Int} {v1 : Option AV} (q1 : LO (if a < 300 ∨ 700 < a then some 0 else none) (fun k => if k = 0 then 1 else 0) h (fun h' => h' = hset (hset h 1 0 12 0) 1 0 11 a) (.inl v1) h1) : ∀ t : Nat, 40 ≤ t → t ≤ 61 → h1 t = h t := by
  intro t ht ht2
  rcases q1 with ⟨_, _, _, e⟩ | ⟨_, _, e⟩
  · rw [e]
  · rw [e, hset_fr _ _ _ _ (by omega), hset_fr _ _ _ _ (by omega)]
theorem tx_permille {h h1 h2 : AH} {a : Int} {k1 : Int} (R : RL h) (q1 : LO (if a < 300 ∨ 700 < a then some 0 else none) (fun k => if k = 0 then 1 else 0) h (fun h' => h' = hset (hset h 1 0 12 0) 1 0 11 a) (.inl (some (vI k1))) h1) (q2 : Rout (if a < 300 ∨ 700 < a then 1 else 0) (none) (none) h1 (fun h' => h' = hset (hset (hset h1 40 0 0 0) 40 0 17 a) 40 0 19 0) (.inl none) h2) : h2 40 0 0 = k1 ∧ RL h2 := by
  have fr := fr_permille q1
  have ex := x_permille R (a := a)
  have hc : ∀ k, (if a < 300 ∨ 700 < a then some 0 else none) = some k → ((fun k => if k = 0 then 1 else 0) : Nat → Int) k ≠ 0 := by
    intro k
    (repeat' split) <;> intro z <;> cases z <;> decide
  rcases t_gen q1 q2 ex hc with ⟨z1, z2, z3⟩ | ⟨he, z1, z2, z3, z4⟩
  · exact ⟨by rw [z3]; exact hset_same _ _ _ _ _, by rw [z3]; exact RL_thr R _⟩
  · exact ⟨by rw [z4, z1]; rfl, s_permille R he z2 z4⟩
theorem x_degrees {h : AH} {a b : Int} (R : RL h) : (if a < 0 ∨ 11 < a then 1 else if b < 0 ∨ 100 < b then 2 else 0) = cdO (fun k => if k = 1 then 1 else if k = 0 then 2 else 0) (if a < 0 ∨ 11 < a then some 1 else if b < 0 ∨ 100 < b then some 0 else none) := by
  obtain ⟨⟨i1, i2, i3, i4, i5, i6, i7, i8, i9, i10, i11, i12, i13, i14, i15⟩, ⟨a1, a2, a3, a4, a5, a6, a7⟩, ⟨b1, b2, b3, b4, b5, b6, b7, b8, b9, b10⟩, ⟨p1, p2, p3, p4, p5, p6, p7, p8, p9⟩, d1, d2, d3⟩ := R
  (repeat' split) <;> first | rfl | (exfalso; omega)
theorem fr_degrees {h h1 : AH} {a b : Int} {v1 : Option AV} (q1 : LO (if a < 0 ∨ 11 < a then some 1 else if b < 0 ∨ 100 < b then some 0 else none) (fun k => if k = 1 then 1 else if k = 0 then 2 else 0) h (fun h' => h' = hset (hset h 1 0 12 0) 29 0 a.toNat b) (.inl v1) h1) : ∀ t : Nat, 40 ≤ t → t ≤ 61 → h1 t = h t := by
  intro t ht ht2
  rcases q1 with ⟨_, _, _, e⟩ | ⟨_, _, e⟩
  · rw [e]
  · rw [e, hset_fr _ _ _ _ (by omega), hset_fr _ _ _ _ (by omega)]
theorem tx_degrees {h h1 h2 : AH} {a b : Int} {k1 : Int} (R : RL h) (q1 : LO (if a < 0 ∨ 11 < a then some 1 else if b < 0 ∨ 100 < b then some 0 else none) (fun k => if k = 1 then 1 else if k = 0 then 2 else 0) h (fun h' => h' = hset (hset h 1 0 12 0) 29 0 a.toNat b) (.inl (some (vI k1))) h1) (q2 : Rout (if a < 0 ∨ 11 < a then 1 else if b < 0 ∨ 100 < b then 2 else 0) (none) (none) h1 (fun h' => h' = hset (hset (hset h1 40 0 0 0) 50 0 a.toNat b) 40 0 19 0) (.inl none) h2) : h2 40 0 0 = k1 ∧ RL h2 := by
  have fr := fr_degrees q1
  have ex := x_degrees R (a := a) (b := b)
  have hc : ∀ k, (if a < 0 ∨ 11 < a then some 1 else if b < 0 ∨ 100 < b then some 0 else none) = some k → ((fun k => if k = 1 then 1 else if k = 0 then 2 else 0) : Nat → Int) k ≠ 0 := by
    intro k
    (repeat' split) <;> intro z <;> cases z <;> decide
  rcases t_gen q1 q2 ex hc with ⟨z1, z2, z3⟩ | ⟨he, z1, z2, z3, z4⟩
  · exact ⟨by rw [z3]; exact hset_same _ _ _ _ _, by rw [z3]; exact RL_thr R _⟩
  · exact ⟨by rw [z4, z1]; rfl, s_degrees R he z2 z4⟩
theorem x_prepay {h : AH} {a b : Int} (R : RL h) : (if ¬ (0 ≤ a ∧ a < h 40 0 9) then 1 else if b < 0 ∨ 20000 < b ∨ 1000000 < h 53 0 a.toNat + b then 2 else 0) = cdO (fun k => if k = 1 then 1 else if k = 0 then 2 else 0) (if a < 0 ∨ h 23 0 4 ≤ a then some 1 else if b < 0 ∨ 20000 < b ∨ 1000000 < h 27 0 a.toNat + b then some 0 else none) := by
  obtain ⟨⟨i1, i2, i3, i4, i5, i6, i7, i8, i9, i10, i11, i12, i13, i14, i15⟩, ⟨a1, a2, a3, a4, a5, a6, a7⟩, ⟨b1, b2, b3, b4, b5, b6, b7, b8, b9, b10⟩, ⟨p1, p2, p3, p4, p5, p6, p7, p8, p9⟩, d1, d2, d3⟩ := R
  rw [b1, p1]
  (repeat' split) <;> first | rfl | (exfalso; omega)
theorem fr_prepay {h h1 : AH} {a b : Int} {v1 : Option AV} (q1 : LO (if a < 0 ∨ h 23 0 4 ≤ a then some 1 else if b < 0 ∨ 20000 < b ∨ 1000000 < h 27 0 a.toNat + b then some 0 else none) (fun k => if k = 1 then 1 else if k = 0 then 2 else 0) h (fun h' => h' = hset h 27 0 a.toNat (h 27 0 a.toNat + b)) (.inl v1) h1) : ∀ t : Nat, 40 ≤ t → t ≤ 61 → h1 t = h t := by
  intro t ht ht2
  rcases q1 with ⟨_, _, _, e⟩ | ⟨_, _, e⟩
  · rw [e]
  · rw [e, hset_fr _ _ _ _ (by omega)]
theorem tx_prepay {h h1 h2 : AH} {a b : Int} {k1 : Int} (R : RL h) (q1 : LO (if a < 0 ∨ h 23 0 4 ≤ a then some 1 else if b < 0 ∨ 20000 < b ∨ 1000000 < h 27 0 a.toNat + b then some 0 else none) (fun k => if k = 1 then 1 else if k = 0 then 2 else 0) h (fun h' => h' = hset h 27 0 a.toNat (h 27 0 a.toNat + b)) (.inl (some (vI k1))) h1) (q2 : Rout (if ¬ (0 ≤ a ∧ a < h1 40 0 9) then 1 else if b < 0 ∨ 20000 < b ∨ 1000000 < h1 53 0 a.toNat + b then 2 else 0) (none) (none) h1 (fun h' => h' = hset (hset h1 40 0 0 0) 53 0 a.toNat (h1 53 0 a.toNat + b)) (.inl none) h2) : h2 40 0 0 = k1 ∧ RL h2 := by
  have fr := fr_prepay q1
  have ex := x_prepay R (a := a) (b := b)
  rw [← fr 40 (by omega) (by omega), ← fr 53 (by omega) (by omega)] at ex
  have hc : ∀ k, (if a < 0 ∨ h 23 0 4 ≤ a then some 1 else if b < 0 ∨ 20000 < b ∨ 1000000 < h 27 0 a.toNat + b then some 0 else none) = some k → ((fun k => if k = 1 then 1 else if k = 0 then 2 else 0) : Nat → Int) k ≠ 0 := by
    intro k
    (repeat' split) <;> intro z <;> cases z <;> decide
  rcases t_gen q1 q2 ex hc with ⟨z1, z2, z3⟩ | ⟨he, z1, z2, z3, z4⟩
  · exact ⟨by rw [z3]; exact hset_same _ _ _ _ _, by rw [z3]; exact RL_thr R _⟩
  · exact ⟨by rw [z4, z1]; rfl, s_prepay R he z2 z4⟩
theorem x_amount {h : AH} {a b : Int} (R : RL h) : (if h 40 0 19 = 0 then 1 else if ¬ (a = -1 ∨ 0 ≤ a ∧ a < h 40 0 9) ∨ b < 0 ∨ 3 < b then 2 else 0) = cdO (fun k => if k = 2 then 1 else if k = 1 then 2 else 0) (if h 1 0 12 = 0 then some 2 else if a < -1 ∨ h 23 0 4 ≤ a then some 1 else if b < 0 ∨ 3 < b then some 1 else none) := by
  obtain ⟨⟨i1, i2, i3, i4, i5, i6, i7, i8, i9, i10, i11, i12, i13, i14, i15⟩, ⟨a1, a2, a3, a4, a5, a6, a7⟩, ⟨b1, b2, b3, b4, b5, b6, b7, b8, b9, b10⟩, ⟨p1, p2, p3, p4, p5, p6, p7, p8, p9⟩, d1, d2, d3⟩ := R
  rw [b1, d1]
  (repeat' split) <;> first | rfl | (exfalso; omega)
theorem fr_amount {h h1 : AH} {a b : Int} {v1 : Option AV} (q1 : LO (if h 1 0 12 = 0 then some 2 else if a < -1 ∨ h 23 0 4 ≤ a then some 1 else if b < 0 ∨ 3 < b then some 1 else none) (fun k => if k = 2 then 1 else if k = 1 then 2 else 0) h (fun h' => h' = hset h 70 0 0 (if b = 3 then (h 25 0 (a + 1).toNat + h 25 1 (a + 1).toNat + h 25 2 (a + 1).toNat) else (h 25 b.toNat (a + 1).toNat))) (.inl v1) h1) : ∀ t : Nat, 40 ≤ t → t ≤ 61 → h1 t = h t := by
  intro t ht ht2
  rcases q1 with ⟨_, _, _, e⟩ | ⟨_, _, e⟩
  · rw [e]
  · rw [e, hset_fr _ _ _ _ (by omega)]
theorem tx_amount {h h1 h2 : AH} {a b : Int} {k1 k2 : Int} (R : RL h) (q1 : LO (if h 1 0 12 = 0 then some 2 else if a < -1 ∨ h 23 0 4 ≤ a then some 1 else if b < 0 ∨ 3 < b then some 1 else none) (fun k => if k = 2 then 1 else if k = 1 then 2 else 0) h (fun h' => h' = hset h 70 0 0 (if b = 3 then (h 25 0 (a + 1).toNat + h 25 1 (a + 1).toNat + h 25 2 (a + 1).toNat) else (h 25 b.toNat (a + 1).toNat))) (.inl (some (vI k1))) h1) (q2 : Rout (if h1 40 0 19 = 0 then 1 else if ¬ (a = -1 ∨ 0 ≤ a ∧ a < h1 40 0 9) ∨ b < 0 ∨ 3 < b then 2 else 0) (some (vI 0)) (some (if b = 3 then vI (h1 52 0 (3 * (if a = -1 then 20 else a)).toNat + h1 52 0 (3 * (if a = -1 then 20 else a) + 1).toNat + h1 52 0 (3 * (if a = -1 then 20 else a) + 2).toNat) else vI (h1 52 0 (3 * (if a = -1 then 20 else a) + b).toNat))) h1 (fun h' => h' = hset h1 40 0 0 0) (.inl (some (vI k2))) h2) : h2 40 0 0 = k1 ∧ RL h2 ∧ (k1 = 0 → h2 70 0 0 = k2) := by
  have fr := fr_amount q1
  have ex := x_amount R (a := a) (b := b)
  rw [← fr 40 (by omega) (by omega)] at ex
  have hc : ∀ k, (if h 1 0 12 = 0 then some 2 else if a < -1 ∨ h 23 0 4 ≤ a then some 1 else if b < 0 ∨ 3 < b then some 1 else none) = some k → ((fun k => if k = 2 then 1 else if k = 1 then 2 else 0) : Nat → Int) k ≠ 0 := by
    intro k
    (repeat' split) <;> intro z <;> cases z <;> decide
  rcases t_gen q1 q2 ex hc with ⟨z1, z2, z3⟩ | ⟨he, z1, z2, z3, z4⟩
  · exact ⟨by rw [z3]; exact hset_same _ _ _ _ _, by rw [z3]; exact RL_thr R _, fun z => absurd z z1⟩
  · refine ⟨by rw [z4, z1]; exact hset_same _ _ _ _ _, by rw [z4, z2]; exact RL_thr (RL_out R _) _, fun _ => ?_⟩
    have v70 : h2 70 0 0 = h1 70 0 0 := by rw [z4]; exact hset_tag _ _ (by decide)
    rw [v70, z2, hset_same]
    obtain ⟨⟨i1, i2, i3, i4, i5, i6, i7, i8, i9, i10, i11, i12, i13, i14, i15⟩, ⟨a1, a2, a3, a4, a5, a6, a7⟩, ⟨b1, b2, b3, b4, b5, b6, b7, b8, b9, b10⟩, ⟨p1, p2, p3, p4, p5, p6, p7, p8, p9⟩, d1, d2, d3⟩ := R
    (repeat' split at he) <;> (try cases he)
    have S := (d3 (by omega)).2.2
    rw [fr 52 (by omega) (by omega)] at z3
    have e3 : k2 = if b = 3 then h 52 0 (3 * (if a = -1 then 20 else a)).toNat + h 52 0 (3 * (if a = -1 then 20 else a) + 1).toNat + h 52 0 (3 * (if a = -1 then 20 else a) + 2).toNat else h 52 0 (3 * (if a = -1 then 20 else a) + b).toNat := by
      have z5 := Option.some.inj z3
      by_cases z : b = 3
      · rw [if_pos z] at z5 ⊢; exact Sum.inl.inj z5
      · rw [if_neg z] at z5 ⊢; exact Sum.inl.inj z5
    have row : ∀ i : Nat, i < 3 → h 52 0 (3 * (if a = -1 then 20 else a) + (i : Int)).toNat = h 25 i (a + 1).toNat := by
      intro i hi
      by_cases z : a = -1
      · rw [if_pos z, z, show (3 * (20 : Int) + (i : Int)).toNat = 60 + i by omega]; exact S.1 i hi
      · rw [if_neg z, show (3 * a + (i : Int)).toNat = 3 * a.toNat + i by omega, show (a + 1).toNat = a.toNat + 1 by omega]; exact S.2.1 a.toNat i (by omega) hi
    rw [e3]
    by_cases z : b = 3
    · rw [if_pos z, if_pos z]
      have r0 := row 0 (by omega)
      have r1 := row 1 (by omega)
      have r2 := row 2 (by omega)
      rw [show 3 * (if a = -1 then 20 else a) + ((0 : Nat) : Int) = 3 * (if a = -1 then 20 else a) by omega] at r0
      rw [r0, ← r1, ← r2]
      rfl
    · rw [if_neg z, if_neg z]
      have r := row b.toNat (by omega)
      rw [show ((b.toNat : Nat) : Int) = b by omega] at r
      exact r.symm
theorem x_paid {h : AH} {a : Int} (R : RL h) : (if 0 ≤ a ∧ a < h 40 0 9 then 0 else 1) = cdO (fun k => if k = 1 then 1 else 0) (if a < 0 ∨ h 23 0 4 ≤ a then some 1 else none) := by
  obtain ⟨⟨i1, i2, i3, i4, i5, i6, i7, i8, i9, i10, i11, i12, i13, i14, i15⟩, ⟨a1, a2, a3, a4, a5, a6, a7⟩, ⟨b1, b2, b3, b4, b5, b6, b7, b8, b9, b10⟩, ⟨p1, p2, p3, p4, p5, p6, p7, p8, p9⟩, d1, d2, d3⟩ := R
  rw [b1]
  (repeat' split) <;> first | rfl | (exfalso; omega)
theorem fr_paid {h h1 : AH} {a : Int} {v1 : Option AV} (q1 : LO (if a < 0 ∨ h 23 0 4 ≤ a then some 1 else none) (fun k => if k = 1 then 1 else 0) h (fun h' => h' = hset h 70 0 0 (h 27 0 a.toNat)) (.inl v1) h1) : ∀ t : Nat, 40 ≤ t → t ≤ 61 → h1 t = h t := by
  intro t ht ht2
  rcases q1 with ⟨_, _, _, e⟩ | ⟨_, _, e⟩
  · rw [e]
  · rw [e, hset_fr _ _ _ _ (by omega)]
theorem tx_paid {h h1 h2 : AH} {a : Int} {k1 k2 : Int} (R : RL h) (q1 : LO (if a < 0 ∨ h 23 0 4 ≤ a then some 1 else none) (fun k => if k = 1 then 1 else 0) h (fun h' => h' = hset h 70 0 0 (h 27 0 a.toNat)) (.inl (some (vI k1))) h1) (q2 : Rout (if 0 ≤ a ∧ a < h1 40 0 9 then 0 else 1) (some (vI 0)) (some (vI (h1 53 0 a.toNat))) h1 (fun h' => h' = hset h1 40 0 0 0) (.inl (some (vI k2))) h2) : h2 40 0 0 = k1 ∧ RL h2 ∧ (k1 = 0 → h2 70 0 0 = k2) := by
  have fr := fr_paid q1
  have ex := x_paid R (a := a)
  rw [← fr 40 (by omega) (by omega)] at ex
  have hc : ∀ k, (if a < 0 ∨ h 23 0 4 ≤ a then some 1 else none) = some k → ((fun k => if k = 1 then 1 else 0) : Nat → Int) k ≠ 0 := by
    intro k
    (repeat' split) <;> intro z <;> cases z <;> decide
  rcases t_gen q1 q2 ex hc with ⟨z1, z2, z3⟩ | ⟨he, z1, z2, z3, z4⟩
  · exact ⟨by rw [z3]; exact hset_same _ _ _ _ _, by rw [z3]; exact RL_thr R _, fun z => absurd z z1⟩
  · refine ⟨by rw [z4, z1]; exact hset_same _ _ _ _ _, by rw [z4, z2]; exact RL_thr (RL_out R _) _, fun _ => ?_⟩
    have v70 : h2 70 0 0 = h1 70 0 0 := by rw [z4]; exact hset_tag _ _ (by decide)
    rw [v70, z2, hset_same]
    obtain ⟨⟨i1, i2, i3, i4, i5, i6, i7, i8, i9, i10, i11, i12, i13, i14, i15⟩, ⟨a1, a2, a3, a4, a5, a6, a7⟩, ⟨b1, b2, b3, b4, b5, b6, b7, b8, b9, b10⟩, ⟨p1, p2, p3, p4, p5, p6, p7, p8, p9⟩, d1, d2, d3⟩ := R
    (repeat' split at he) <;> (try cases he)
    have e3 : k2 = h1 53 0 a.toNat := Sum.inl.inj (Option.some.inj z3)
    rw [e3, fr 53 (by omega) (by omega), p1]
theorem x_part {h : AH} {a : Int} (R : RL h) : (if h 40 0 19 = 0 then 1 else if a < 0 ∨ 4 < a then 2 else 0) = cdO (fun k => if k = 2 then 1 else if k = 1 then 2 else 0) (if h 1 0 12 = 0 then some 2 else if a < 0 ∨ 4 < a then some 1 else none) := by
  obtain ⟨⟨i1, i2, i3, i4, i5, i6, i7, i8, i9, i10, i11, i12, i13, i14, i15⟩, ⟨a1, a2, a3, a4, a5, a6, a7⟩, ⟨b1, b2, b3, b4, b5, b6, b7, b8, b9, b10⟩, ⟨p1, p2, p3, p4, p5, p6, p7, p8, p9⟩, d1, d2, d3⟩ := R
  rw [d1]
  (repeat' split) <;> first | rfl | (exfalso; omega)
theorem fr_part {h h1 : AH} {a : Int} {v1 : Option AV} (q1 : LO (if h 1 0 12 = 0 then some 2 else if a < 0 ∨ 4 < a then some 1 else none) (fun k => if k = 2 then 1 else if k = 1 then 2 else 0) h (fun h' => h' = hset h 70 0 0 (h 30 0 a.toNat)) (.inl v1) h1) : ∀ t : Nat, 40 ≤ t → t ≤ 61 → h1 t = h t := by
  intro t ht ht2
  rcases q1 with ⟨_, _, _, e⟩ | ⟨_, _, e⟩
  · rw [e]
  · rw [e, hset_fr _ _ _ _ (by omega)]
theorem tx_part {h h1 h2 : AH} {a : Int} {k1 k2 : Int} (R : RL h) (q1 : LO (if h 1 0 12 = 0 then some 2 else if a < 0 ∨ 4 < a then some 1 else none) (fun k => if k = 2 then 1 else if k = 1 then 2 else 0) h (fun h' => h' = hset h 70 0 0 (h 30 0 a.toNat)) (.inl (some (vI k1))) h1) (q2 : Rout (if h1 40 0 19 = 0 then 1 else if a < 0 ∨ 4 < a then 2 else 0) (some (vI 0)) (some (vI (h1 51 0 a.toNat))) h1 (fun h' => h' = hset h1 40 0 0 0) (.inl (some (vI k2))) h2) : h2 40 0 0 = k1 ∧ RL h2 ∧ (k1 = 0 → h2 70 0 0 = k2) := by
  have fr := fr_part q1
  have ex := x_part R (a := a)
  rw [← fr 40 (by omega) (by omega)] at ex
  have hc : ∀ k, (if h 1 0 12 = 0 then some 2 else if a < 0 ∨ 4 < a then some 1 else none) = some k → ((fun k => if k = 2 then 1 else if k = 1 then 2 else 0) : Nat → Int) k ≠ 0 := by
    intro k
    (repeat' split) <;> intro z <;> cases z <;> decide
  rcases t_gen q1 q2 ex hc with ⟨z1, z2, z3⟩ | ⟨he, z1, z2, z3, z4⟩
  · exact ⟨by rw [z3]; exact hset_same _ _ _ _ _, by rw [z3]; exact RL_thr R _, fun z => absurd z z1⟩
  · refine ⟨by rw [z4, z1]; exact hset_same _ _ _ _ _, by rw [z4, z2]; exact RL_thr (RL_out R _) _, fun _ => ?_⟩
    have v70 : h2 70 0 0 = h1 70 0 0 := by rw [z4]; exact hset_tag _ _ (by decide)
    rw [v70, z2, hset_same]
    obtain ⟨⟨i1, i2, i3, i4, i5, i6, i7, i8, i9, i10, i11, i12, i13, i14, i15⟩, ⟨a1, a2, a3, a4, a5, a6, a7⟩, ⟨b1, b2, b3, b4, b5, b6, b7, b8, b9, b10⟩, ⟨p1, p2, p3, p4, p5, p6, p7, p8, p9⟩, d1, d2, d3⟩ := R
    (repeat' split at he) <;> (try cases he)
    have e3 : k2 = h1 51 0 a.toNat := Sum.inl.inj (Option.some.inj z3)
    rw [e3, fr 51 (by omega) (by omega)]
    exact ((d3 (by omega)).2.1 a.toNat (by omega)).symm
theorem x_replaced {h : AH} {a : Int} (R : RL h) : (if 0 ≤ a ∧ a < h 40 0 1 then 0 else 1) = cdO (fun k => if k = 1 then 1 else 0) (if a < 0 ∨ h 2 0 1 ≤ a then some 1 else none) := by
  obtain ⟨⟨i1, i2, i3, i4, i5, i6, i7, i8, i9, i10, i11, i12, i13, i14, i15⟩, ⟨a1, a2, a3, a4, a5, a6, a7⟩, ⟨b1, b2, b3, b4, b5, b6, b7, b8, b9, b10⟩, ⟨p1, p2, p3, p4, p5, p6, p7, p8, p9⟩, d1, d2, d3⟩ := R
  rw [a1]
  (repeat' split) <;> first | rfl | (exfalso; omega)
theorem fr_replaced {h h1 : AH} {a : Int} {v1 : Option AV} (q1 : LO (if a < 0 ∨ h 2 0 1 ≤ a then some 1 else none) (fun k => if k = 1 then 1 else 0) h (fun h' => h' = hset (lC h) 70 0 0 (kC h a.toNat)) (.inl v1) h1) : ∀ t : Nat, 40 ≤ t → t ≤ 61 → h1 t = h t := by
  intro t ht ht2
  rcases q1 with ⟨_, _, _, e⟩ | ⟨_, _, e⟩
  · rw [e]
  · rw [e, hset_fr _ _ _ _ (by omega), lC_fr _ (by omega)]
theorem tx_replaced {h h1 h2 : AH} {a : Int} {k1 k2 : Int} (R : RL h) (q1 : LO (if a < 0 ∨ h 2 0 1 ≤ a then some 1 else none) (fun k => if k = 1 then 1 else 0) h (fun h' => h' = hset (lC h) 70 0 0 (kC h a.toNat)) (.inl (some (vI k1))) h1) (q2 : Rout (if 0 ≤ a ∧ a < h1 40 0 1 then 0 else 1) (some (vI 0)) (some (vI (kR (hset h1 40 0 0 0) a.toNat))) h1 (fun h' => h' = lR (hset h1 40 0 0 0)) (.inl (some (vI k2))) h2) : h2 40 0 0 = k1 ∧ RL h2 ∧ (k1 = 0 → h2 70 0 0 = k2) := by
  have fr := fr_replaced q1
  have ex := x_replaced R (a := a)
  rw [← fr 40 (by omega) (by omega)] at ex
  have hc : ∀ k, (if a < 0 ∨ h 2 0 1 ≤ a then some 1 else none) = some k → ((fun k => if k = 1 then 1 else 0) : Nat → Int) k ≠ 0 := by
    intro k
    (repeat' split) <;> intro z <;> cases z <;> decide
  rcases t_gen q1 q2 ex hc with ⟨z1, z2, z3⟩ | ⟨he, z1, z2, z3, z4⟩
  · exact ⟨by rw [z3]; exact hset_same _ _ _ _ _, by rw [z3]; exact RL_thr R _, fun z => absurd z z1⟩
  · have L : ∀ t : Nat, t ≠ 40 → t ≠ 56 → h2 t = h1 t := fun t n1 n2 => by rw [z4]; unfold lR; rw [RK_fr _ _ _ _ _ _ _ _ _ ⟨n1, n2⟩, hset_fr _ _ _ _ n1]
    have L40 : ∀ j : Nat, (j < 25 ∨ 30 < j) → h2 40 0 j = hset h1 40 0 0 0 40 0 j := fun j hj => by
      rw [z4]
      show RK _ _ _ _ _ _ _ _ _ 40 0 j = _
      unfold RK
      rw [if_pos ⟨rfl, rfl⟩, if_neg (by omega), if_neg (by omega), if_neg (by omega), if_neg (by omega), if_neg (by omega), if_neg (by omega)]
    refine ⟨by rw [L40 0 (by omega), z1]; exact hset_same _ _ _ _ _, RL_fr (fun t n1 n2 n3 n4 => by rw [L t n1 n4, z2, hset_fr _ _ _ _ n2, lC_fr _ (by omega)]) (fun j j0 jj => by rw [L40 j (by omega), hset_slot _ _ j0, fr 40 (by omega) (by omega)]) R, fun _ => ?_⟩
    have e3 : k2 = kR (hset h1 40 0 0 0) a.toNat := Sum.inl.inj (Option.some.inj z3)
    have ha : a.toNat < nC h := by
      have i1 := R.1.1
      have z : ¬ (a < 0 ∨ h 2 0 1 ≤ a) := fun z => by rw [if_pos z] at he; cases he
      show a.toNat < (h 2 0 1).toNat
      omega
    have ek : kR (hset h1 40 0 0 0) = kR h := by
      unfold kR nR rFc rKn rRd rdR
      rw [hset_slot _ _ (show (1 : Nat) ≠ 0 by decide), hset_fr _ _ _ _ (show (43 : Nat) ≠ 40 by decide), hset_fr _ _ _ _ (show (44 : Nat) ≠ 40 by decide), hset_fr _ _ _ _ (show (47 : Nat) ≠ 40 by decide), fr 40 (by omega) (by omega), fr 43 (by omega) (by omega), fr 44 (by omega) (by omega), fr 47 (by omega) (by omega)]
    have e4 : kR h a.toNat = kC h a.toNat := by
      rw [← kd_eq R.2.1 ha]
      exact kdW_V (ar := rAr h) (IR_of R.1 R.2.1 R.2.2.1).2.2.1 _
    rw [e3, ek, e4, L 70 (by omega) (by omega), z2]
    exact hset_same _ _ _ _ _
theorem x_send {h : AH} (R : RL h) : (if h 40 0 19 = 0 then 1 else 0) = cdO (fun k => if k = 2 then 1 else 0) (if h 1 0 12 = 0 then some 2 else none) := by
  obtain ⟨⟨i1, i2, i3, i4, i5, i6, i7, i8, i9, i10, i11, i12, i13, i14, i15⟩, ⟨a1, a2, a3, a4, a5, a6, a7⟩, ⟨b1, b2, b3, b4, b5, b6, b7, b8, b9, b10⟩, ⟨p1, p2, p3, p4, p5, p6, p7, p8, p9⟩, d1, d2, d3⟩ := R
  rw [d1]
  (repeat' split) <;> first | rfl | (exfalso; omega)
theorem fr_send {h h1 : AH} {v1 : Option AV} (q1 : LO (if h 1 0 12 = 0 then some 2 else none) (fun k => if k = 2 then 1 else 0) h (fun h' => h' = hset (PO h ((h 23 0 4) + 1).toNat) 70 0 0 (sumF ((h 23 0 4) + 1).toNat (dfC h))) (.inl v1) h1) : ∀ t : Nat, 40 ≤ t → t ≤ 61 → h1 t = h t := by
  intro t ht ht2
  rcases q1 with ⟨_, _, _, e⟩ | ⟨_, _, e⟩
  · rw [e]
  · rw [e, hset_fr _ _ _ _ (by omega), PO_fr _ _ (by omega)]
theorem tx_send {h h1 h2 : AH} {k1 k2 : Int} (R : RL h) (q1 : LO (if h 1 0 12 = 0 then some 2 else none) (fun k => if k = 2 then 1 else 0) h (fun h' => h' = hset (PO h ((h 23 0 4) + 1).toNat) 70 0 0 (sumF ((h 23 0 4) + 1).toNat (dfC h))) (.inl (some (vI k1))) h1) (q2 : Rout (if h1 40 0 19 = 0 then 1 else 0) (some (vI 0)) (some (vI (sumF 21 (dfR (hset h1 40 0 0 0))))) h1 (fun h' => h' = PR (hset h1 40 0 0 0) 21) (.inl (some (vI k2))) h2) : h2 40 0 0 = k1 ∧ RL h2 ∧ (k1 = 0 → h2 70 0 0 = k2) := by
  have fr := fr_send q1
  have ex := x_send R
  rw [← fr 40 (by omega) (by omega)] at ex
  have hc : ∀ k, (if h 1 0 12 = 0 then some 2 else none) = some k → ((fun k => if k = 2 then 1 else 0) : Nat → Int) k ≠ 0 := by
    intro k
    (repeat' split) <;> intro z <;> cases z <;> decide
  rcases t_gen q1 q2 ex hc with ⟨z1, z2, z3⟩ | ⟨he, z1, z2, z3, z4⟩
  · exact ⟨by rw [z3]; exact hset_same _ _ _ _ _, by rw [z3]; exact RL_thr R _, fun z => absurd z z1⟩
  · have hb : h 1 0 12 ≠ 0 := fun z => by rw [if_pos z] at he; cases he
    have s := s_send R hb z2 z4
    refine ⟨?_, s.1, fun _ => ?_⟩
    · rw [z4, z1, PR_fr _ _ (by decide)]; exact hset_same _ _ _ _ _
    · have e3 : k2 = sumF 21 (dfR (hset h1 40 0 0 0)) := Sum.inl.inj (Option.some.inj z3)
      rw [e3, ← s.2, z4, PR_fr _ _ (by decide), hset_tag _ _ (by decide), z2]; exact hset_same _ _ _ _ _
theorem x_sent {h : AH} {a : Int} (R : RL h) : (if a = -1 ∨ 0 ≤ a ∧ a < h 40 0 9 then 0 else 1) = cdO (fun k => if k = 1 then 1 else 0) (if a < -1 ∨ h 23 0 4 ≤ a then some 1 else none) := by
  obtain ⟨⟨i1, i2, i3, i4, i5, i6, i7, i8, i9, i10, i11, i12, i13, i14, i15⟩, ⟨a1, a2, a3, a4, a5, a6, a7⟩, ⟨b1, b2, b3, b4, b5, b6, b7, b8, b9, b10⟩, ⟨p1, p2, p3, p4, p5, p6, p7, p8, p9⟩, d1, d2, d3⟩ := R
  rw [b1]
  (repeat' split) <;> first | rfl | (exfalso; omega)
theorem fr_sent {h h1 : AH} {a : Int} {v1 : Option AV} (q1 : LO (if a < -1 ∨ h 23 0 4 ≤ a then some 1 else none) (fun k => if k = 1 then 1 else 0) h (fun h' => h' = hset h 70 0 0 (h 26 0 (a + 1).toNat)) (.inl v1) h1) : ∀ t : Nat, 40 ≤ t → t ≤ 61 → h1 t = h t := by
  intro t ht ht2
  rcases q1 with ⟨_, _, _, e⟩ | ⟨_, _, e⟩
  · rw [e]
  · rw [e, hset_fr _ _ _ _ (by omega)]
theorem tx_sent {h h1 h2 : AH} {a : Int} {k1 k2 : Int} (R : RL h) (q1 : LO (if a < -1 ∨ h 23 0 4 ≤ a then some 1 else none) (fun k => if k = 1 then 1 else 0) h (fun h' => h' = hset h 70 0 0 (h 26 0 (a + 1).toNat)) (.inl (some (vI k1))) h1) (q2 : Rout (if a = -1 ∨ 0 ≤ a ∧ a < h1 40 0 9 then 0 else 1) (some (vI 0)) (some (vI (h1 55 0 (if a = -1 then 20 else a).toNat))) h1 (fun h' => h' = hset h1 40 0 0 0) (.inl (some (vI k2))) h2) : h2 40 0 0 = k1 ∧ RL h2 ∧ (k1 = 0 → h2 70 0 0 = k2) := by
  have fr := fr_sent q1
  have ex := x_sent R (a := a)
  rw [← fr 40 (by omega) (by omega)] at ex
  have hc : ∀ k, (if a < -1 ∨ h 23 0 4 ≤ a then some 1 else none) = some k → ((fun k => if k = 1 then 1 else 0) : Nat → Int) k ≠ 0 := by
    intro k
    (repeat' split) <;> intro z <;> cases z <;> decide
  rcases t_gen q1 q2 ex hc with ⟨z1, z2, z3⟩ | ⟨he, z1, z2, z3, z4⟩
  · exact ⟨by rw [z3]; exact hset_same _ _ _ _ _, by rw [z3]; exact RL_thr R _, fun z => absurd z z1⟩
  · refine ⟨by rw [z4, z1]; exact hset_same _ _ _ _ _, by rw [z4, z2]; exact RL_thr (RL_out R _) _, fun _ => ?_⟩
    have v70 : h2 70 0 0 = h1 70 0 0 := by rw [z4]; exact hset_tag _ _ (by decide)
    rw [v70, z2, hset_same]
    obtain ⟨⟨i1, i2, i3, i4, i5, i6, i7, i8, i9, i10, i11, i12, i13, i14, i15⟩, ⟨a1, a2, a3, a4, a5, a6, a7⟩, ⟨b1, b2, b3, b4, b5, b6, b7, b8, b9, b10⟩, ⟨p1, p2, p3, p4, p5, p6, p7, p8, p9⟩, d1, d2, d3⟩ := R
    (repeat' split at he) <;> (try cases he)
    have e3 : k2 = h1 55 0 (if a = -1 then 20 else a).toNat := Sum.inl.inj (Option.some.inj z3)
    rw [e3, fr 55 (by omega) (by omega)]
    by_cases z : a = -1
    · rw [if_pos z, z]; exact p4.symm
    · rw [if_neg z, show (a + 1).toNat = a.toNat + 1 by omega]; exact (p5 a.toNat (by omega)).2.symm
theorem x_closeYear {h : AH} (R : RL h) : (if h 40 0 19 = 0 then 1 else 0) = cdO (fun k => if k = 2 then 1 else 0) (if h 1 0 12 = 0 then some 2 else none) := by
  obtain ⟨⟨i1, i2, i3, i4, i5, i6, i7, i8, i9, i10, i11, i12, i13, i14, i15⟩, ⟨a1, a2, a3, a4, a5, a6, a7⟩, ⟨b1, b2, b3, b4, b5, b6, b7, b8, b9, b10⟩, ⟨p1, p2, p3, p4, p5, p6, p7, p8, p9⟩, d1, d2, d3⟩ := R
  rw [d1]
  (repeat' split) <;> first | rfl | (exfalso; omega)
theorem fr_closeYear {h h1 : AH} {v1 : Option AV} (q1 : LO (if h 1 0 12 = 0 then some 2 else none) (fun k => if k = 2 then 1 else 0) h (fun h' => h' = hset (cyH h) 70 0 0 (sumF (nuC h) (krow (vK h) (vK h) (h 8 0) (h 7 0 2).toNat))) (.inl v1) h1) : ∀ t : Nat, 40 ≤ t → t ≤ 61 → h1 t = h t := by
  intro t ht ht2
  rcases q1 with ⟨_, _, _, e⟩ | ⟨_, _, e⟩
  · rw [e]
  · rw [e, hset_fr _ _ _ _ (by omega), cy_fr h (by omega)]
theorem tx_closeYear {h h1 h2 : AH} {k1 k2 : Int} (R : RL h) (q1 : LO (if h 1 0 12 = 0 then some 2 else none) (fun k => if k = 2 then 1 else 0) h (fun h' => h' = hset (cyH h) 70 0 0 (sumF (nuC h) (krow (vK h) (vK h) (h 8 0) (h 7 0 2).toNat))) (.inl (some (vI k1))) h1) (q2 : Rout (if h1 40 0 19 = 0 then 1 else 0) (some (vI 0)) (some (vI (sumF (nuR (h1R h1)) (h2R h1 48 0)))) h1 (fun h' => h' = cyR h1) (.inl (some (vI k2))) h2) : h2 40 0 0 = k1 ∧ RL h2 ∧ (k1 = 0 → h2 70 0 0 = k2) := by
  have fr := fr_closeYear q1
  have ex := x_closeYear R
  rw [← fr 40 (by omega) (by omega)] at ex
  have hc : ∀ k, (if h 1 0 12 = 0 then some 2 else none) = some k → ((fun k => if k = 2 then 1 else 0) : Nat → Int) k ≠ 0 := by
    intro k
    (repeat' split) <;> intro z <;> cases z <;> decide
  rcases t_gen q1 q2 ex hc with ⟨z1, z2, z3⟩ | ⟨he, z1, z2, z3, z4⟩
  · exact ⟨by rw [z3]; exact hset_same _ _ _ _ _, by rw [z3]; exact RL_thr R _, fun z => absurd z z1⟩
  · have s := s_closeYear R z2 z4
    refine ⟨?_, s.1, fun _ => ?_⟩
    · rw [z4, z1]; exact (cr_40b h1).1
    · have e3 : k2 = sumF (nuR (h1R h1)) (h2R h1 48 0) := Sum.inl.inj (Option.some.inj z3)
      rw [e3, ← s.2, z4, cr_4 h1 (by omega), z2]; exact hset_same _ _ _ _ _
theorem x_known {h : AH} {a : Int} (R : RL h) : (if 0 ≤ a ∧ a < h 40 0 1 then 0 else 1) = cdO (fun k => if k = 1 then 1 else 0) (if a < 0 ∨ h 2 0 1 ≤ a then some 1 else none) := by
  obtain ⟨⟨i1, i2, i3, i4, i5, i6, i7, i8, i9, i10, i11, i12, i13, i14, i15⟩, ⟨a1, a2, a3, a4, a5, a6, a7⟩, ⟨b1, b2, b3, b4, b5, b6, b7, b8, b9, b10⟩, ⟨p1, p2, p3, p4, p5, p6, p7, p8, p9⟩, d1, d2, d3⟩ := R
  rw [a1]
  (repeat' split) <;> first | rfl | (exfalso; omega)
theorem fr_known {h h1 : AH} {a : Int} {v1 : Option AV} (q1 : LO (if a < 0 ∨ h 2 0 1 ≤ a then some 1 else none) (fun k => if k = 1 then 1 else 0) h (fun h' => h' = hset h 70 0 0 (h 4 a.toNat 4)) (.inl v1) h1) : ∀ t : Nat, 40 ≤ t → t ≤ 61 → h1 t = h t := by
  intro t ht ht2
  rcases q1 with ⟨_, _, _, e⟩ | ⟨_, _, e⟩
  · rw [e]
  · rw [e, hset_fr _ _ _ _ (by omega)]
theorem tx_known {h h1 h2 : AH} {a : Int} {k1 k2 : Int} (R : RL h) (q1 : LO (if a < 0 ∨ h 2 0 1 ≤ a then some 1 else none) (fun k => if k = 1 then 1 else 0) h (fun h' => h' = hset h 70 0 0 (h 4 a.toNat 4)) (.inl (some (vI k1))) h1) (q2 : Rout (if 0 ≤ a ∧ a < h1 40 0 1 then 0 else 1) (some (vI 0)) (some (vI (h1 47 0 a.toNat))) h1 (fun h' => h' = hset h1 40 0 0 0) (.inl (some (vI k2))) h2) : h2 40 0 0 = k1 ∧ RL h2 ∧ (k1 = 0 → h2 70 0 0 = k2) := by
  have fr := fr_known q1
  have ex := x_known R (a := a)
  rw [← fr 40 (by omega) (by omega)] at ex
  have hc : ∀ k, (if a < 0 ∨ h 2 0 1 ≤ a then some 1 else none) = some k → ((fun k => if k = 1 then 1 else 0) : Nat → Int) k ≠ 0 := by
    intro k
    (repeat' split) <;> intro z <;> cases z <;> decide
  rcases t_gen q1 q2 ex hc with ⟨z1, z2, z3⟩ | ⟨he, z1, z2, z3, z4⟩
  · exact ⟨by rw [z3]; exact hset_same _ _ _ _ _, by rw [z3]; exact RL_thr R _, fun z => absurd z z1⟩
  · refine ⟨by rw [z4, z1]; exact hset_same _ _ _ _ _, by rw [z4, z2]; exact RL_thr (RL_out R _) _, fun _ => ?_⟩
    have v70 : h2 70 0 0 = h1 70 0 0 := by rw [z4]; exact hset_tag _ _ (by decide)
    rw [v70, z2, hset_same]
    obtain ⟨⟨i1, i2, i3, i4, i5, i6, i7, i8, i9, i10, i11, i12, i13, i14, i15⟩, ⟨a1, a2, a3, a4, a5, a6, a7⟩, ⟨b1, b2, b3, b4, b5, b6, b7, b8, b9, b10⟩, ⟨p1, p2, p3, p4, p5, p6, p7, p8, p9⟩, d1, d2, d3⟩ := R
    (repeat' split at he) <;> (try cases he)
    have e3 : k2 = h1 47 0 a.toNat := Sum.inl.inj (Option.some.inj z3)
    rw [e3, fr 47 (by omega) (by omega)]
    exact (a2 a.toNat (by show a.toNat < (h 2 0 1).toNat; omega)).2.2.2.2.symm
/-- what the reference's calls ask -/
def RX (h : AH) : Prop := IR h ∧ PRk h ∧ ∀ k : Nat, k < 20 → 0 ≤ h 53 0 k ∧ h 53 0 k ≤ 1000000
theorem RX_of {h h1 : AH} (R : RL h) (e : ∀ t : Nat, 40 ≤ t → t ≤ 61 → h1 t = h t) : RX h1 := by
  have I := IR_of R.1 R.2.1 R.2.2.1
  have P := R.2.2.2.1
  refine ⟨?_, ⟨?_, ?_⟩, ?_⟩
  · unfold IR FIr nR rAr rFc rKn rRd rdR
    rw [e 40 (by omega) (by omega), e 41 (by omega) (by omega), e 42 (by omega) (by omega), e 43 (by omega) (by omega), e 44 (by omega) (by omega), e 45 (by omega) (by omega), e 46 (by omega) (by omega), e 47 (by omega) (by omega), e 48 (by omega) (by omega), e 49 (by omega) (by omega), e 50 (by omega) (by omega)]
    exact I
  · rw [e 52 (by omega) (by omega)]; exact P.2.2.2.2.2.2.2.1
  · rw [e 54 (by omega) (by omega)]
    intro j hj
    have z := P.2.2.2.2.2.2.2.2
    by_cases c : j = 20
    · rw [c, P.2.2.1]; exact z 0 (by omega)
    · rw [(P.2.2.2.2.1 j (by omega)).1]; exact z (j + 1) (by omega)
  · rw [e 53 (by omega) (by omega), P.1]; exact P.2.1
theorem RL.pok {h : AH} (R : RL h) : POk h := ⟨R.1.2.2.2.2.1, R.2.2.2.1.2.2.2.2.2.2.1, R.2.2.2.1.2.2.2.2.2.2.2.2⟩
theorem RL.fu {h : AH} (R : RL h) : 0 ≤ h 7 0 2 ∧ FUv (h 7 0 2).toNat (h 8 0) (h 9 0) ∧ (-1 ≤ h 7 0 3 ∧ h 7 0 3 ≤ 12000) := ⟨R.1.2.2.2.2.2.2.2.1, R.1.2.2.2.2.2.2.2.2.1, R.1.2.2.2.2.2.2.2.2.2.1⟩
theorem RL.l12 {h : AH} (R : RL h) : 0 ≤ h 7 0 2 ∧ h 7 0 2 ≤ 12 := by have := R.fu; have := R.fu.2.1.1; omega
theorem RL.hu {h : AH} (R : RL h) : ∀ k : Nat, (k : Int) < h 7 0 2 → 0 ≤ h 8 0 k ∧ h 8 0 k ≤ 1000 := fun k hk => by have := (R.fu.2.1.2 k (by omega)).1; omega
theorem RX.l12 {h : AH} (X : RX h) : 0 ≤ h 40 0 10 ∧ h 40 0 10 ≤ 12 := by have := X.1.2.2.2.2.2.2.2.1; have := X.1.2.2.2.2.2.2.2.2.1.1; omega
theorem RX.hu {h : AH} (X : RX h) : ∀ k : Nat, (k : Int) < h 40 0 10 → 0 ≤ h 48 0 k ∧ h 48 0 k ≤ 1000 := fun k hk => by have := (X.1.2.2.2.2.2.2.2.2.1.2 k (by omega)).1; omega
theorem bill_IR {h h1 : AH} (R : RL h) (q1 : if billR h = -1 then (∀ t : Nat, (t < 10 ∨ 17 < t) → h1 t = h t) else billH h h1) : IR h1 := by
  refine (RX_of R fun t ht ht2 => ?_).1
  by_cases c : billR h = -1
  · rw [if_pos c] at q1; exact q1 t (by omega)
  · rw [if_neg c] at q1; exact q1.1 t (by omega) (by omega) (by omega) (by omega)

/-! A year's readings of one meter: r 0 .. r 12, -1 where there is none. -/
def lastR (r : Nat → Int) (n : Nat) : Int := match n with
  | 0 => r 0
  | n + 1 => if r (n + 1) = -1 then lastR r n else r (n + 1)
def goodR (r : Nat → Int) (n : Nat) : Bool := match n with
  | 0 => true
  | n + 1 => goodR r n && (decide (r (n + 1) = -1) || decide (lastR r n ≤ r (n + 1)))
/-- 1 if there are readings at the year's begin and end and none up to k is less than one before it -/
def gI (r : Nat → Int) (k : Nat) : Int := if r 0 ≠ -1 ∧ r 12 ≠ -1 ∧ goodR r k = true then 1 else 0
/-- 1 if the meter is read -/
def rdI (r : Nat → Int) : Int := gI r 12
theorem gI_01 (r : Nat → Int) (k : Nat) : gI r k = 0 ∨ gI r k = 1 := by
  unfold gI; split
  · exact Or.inr rfl
  · exact Or.inl rfl
theorem goodR_succ (r : Nat → Int) (k : Nat) : goodR r (k + 1) = true ↔ goodR r k = true ∧ (r (k + 1) = -1 ∨ lastR r k ≤ r (k + 1)) := by
  show (goodR r k && (decide (r (k + 1) = -1) || decide (lastR r k ≤ r (k + 1)))) = true ↔ _
  simp
theorem gI_keep {r : Nat → Int} {k : Nat} (h : r (k + 1) = -1 ∨ lastR r k ≤ r (k + 1)) : gI r (k + 1) = gI r k := by
  unfold gI
  have e : goodR r (k + 1) = true ↔ goodR r k = true := by rw [goodR_succ]; exact ⟨fun q => q.1, fun q => ⟨q, h⟩⟩
  simp only [e]
theorem gI_bad {r : Nat → Int} {k : Nat} (h1 : r (k + 1) ≠ -1) (h2 : r (k + 1) < lastR r k) : gI r (k + 1) = 0 := by
  unfold gI
  rw [if_neg]
  rw [goodR_succ]
  intro q
  rcases q.2.2.2 with z | z <;> omega
theorem gI_zero {r : Nat → Int} {k : Nat} (h : gI r k = 0) : gI r (k + 1) = 0 := by
  unfold gI at h ⊢
  rw [if_neg]
  intro q
  rw [if_pos ⟨q.1, q.2.1, ((goodR_succ r k).mp q.2.2).1⟩] at h
  cases h
theorem gI_zero_le {r : Nat → Int} {k : Nat} (h : gI r k = 0) : ∀ m, gI r (k + m) = 0 := by
  intro m
  induction m with
  | zero => exact h
  | succ m ih => exact gI_zero ih
theorem gI_start {r : Nat → Int} (h0 : r 0 ≠ -1) (h1 : r 12 ≠ -1) : gI r 0 = 1 := by
  unfold gI; rw [if_pos ⟨h0, h1, rfl⟩]
theorem gI_none {r : Nat → Int} {k : Nat} (h : r 0 = -1 ∨ r 12 = -1) : gI r k = 0 := by
  unfold gI; rw [if_neg]; intro q; rcases h with z | z
  · exact q.1 z
  · exact q.2.1 z
theorem lastR_skip {r : Nat → Int} {k : Nat} (h : r (k + 1) = -1) : lastR r (k + 1) = lastR r k := by
  show (if r (k + 1) = -1 then lastR r k else r (k + 1)) = _
  rw [if_pos h]
theorem lastR_new {r : Nat → Int} {k : Nat} (h : r (k + 1) ≠ -1) : lastR r (k + 1) = r (k + 1) := by
  show (if r (k + 1) = -1 then lastR r k else r (k + 1)) = _
  rw [if_neg h]
theorem rdI_congr {r r' : Nat → Int} (h : ∀ t, t < 13 → r t = r' t) : rdI r = rdI r' := by
  have key : ∀ k, k < 13 → goodR r k = goodR r' k ∧ lastR r k = lastR r' k := by
    intro k
    induction k with
    | zero => intro hk; exact ⟨rfl, h 0 hk⟩
    | succ k ih =>
      intro hk
      obtain ⟨i1, i2⟩ := ih (by omega)
      constructor
      · show (goodR r k && (decide (r (k + 1) = -1) || decide (lastR r k ≤ r (k + 1)))) = (goodR r' k && (decide (r' (k + 1) = -1) || decide (lastR r' k ≤ r' (k + 1))))
        rw [i1, i2, h (k + 1) hk]
      · show (if r (k + 1) = -1 then lastR r k else r (k + 1)) = (if r' (k + 1) = -1 then lastR r' k else r' (k + 1))
        rw [i2, h (k + 1) hk]
  unfold rdI gI
  rw [h 0 (by omega), h 12 (by omega), (key 12 (by omega)).1]
/-- the reference's readings of flat f -/
def rdR (h : AH) (f : Nat) : Nat → Int := fun t => h 44 0 (13 * f + t)
theorem rdR_ix (h : AH) {a t : Int} (ha : 0 ≤ a) (ht : 0 ≤ t) : h 44 0 (13 * a + t).toNat = rdR h a.toNat t.toNat := by
  have e : (13 * a + t).toNat = 13 * a.toNat + t.toNat := by omega
  rw [e]; rfl
theorem rdR_0 (h : AH) {a : Int} (ha : 0 ≤ a) : h 44 0 (13 * a).toNat = rdR h a.toNat 0 := by
  have e : (13 * a).toNat = 13 * a.toNat + 0 := by omega
  rw [e]; rfl
def mU (fc : Int) (r : Nat → Int) : Int := (r 12 - r 0) * fc

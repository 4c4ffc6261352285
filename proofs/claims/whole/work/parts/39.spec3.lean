/-! How a meter is replaced, and its units over one denominator. -/
theorem mulB {a b A B : Int} (ha : -A ≤ a ∧ a ≤ A) (hb : -B ≤ b ∧ b ≤ B) : -(A * B) ≤ a * b ∧ a * b ≤ A * B := by
  have h1 : a.natAbs ≤ A.toNat := by omega
  have h2 : b.natAbs ≤ B.toNat := by omega
  have h3 := Nat.mul_le_mul h1 h2
  rw [← Int.natAbs_mul] at h3
  have h4 : ((A.toNat * B.toNat : Nat) : Int) = A * B := by
    rw [Int.natCast_mul, Int.toNat_of_nonneg (by omega), Int.toNat_of_nonneg (by omega)]
  omega
theorem mulN {a b A B : Int} (ha : 0 ≤ a ∧ a ≤ A) (hb : 0 ≤ b ∧ b ≤ B) : 0 ≤ a * b ∧ a * b ≤ A * B :=
  ⟨Int.mul_nonneg ha.1 hb.1, mul_le' ha.2 hb.2 hb.1 (by omega)⟩
def kdS (rI kn pu pl ra : Int) : Int := if rI = 1 then 0 else if kn ≠ -1 ∧ 0 < pu ∧ 0 < pl then 1 else if 0 < ra then 2 else 3
def mn (a b : Int) : Int := if b < a then b else a
def unS (k mu kn ar pu ru sc ls lk : Int) : Int := if k = 0 then mu * sc else if k = 1 then mn (200 * sc) (kn * pu * lk) else if k = 2 then mn (200 * sc) (ar * ru * ls) else 0
def or1 (a : Int) : Int := if 0 < a then a else 1
section VIEW
variable (n : Nat) (ar fc kn : Nat → Int) (rd : Nat → Nat → Int)
def ruV : Int := sumF n (ruG fc rd)
def raV : Int := sumF n (raG ar rd)
def puV : Int := sumF n (puG fc kn rd)
def plV : Int := sumF n (plG kn rd)
def kdV : Nat → Int := fun f => kdS (rdI (rd f)) (kn f) (puV n fc kn rd) (plV n kn rd) (raV n ar rd)
def lsV : Int := or1 (plV n kn rd)
def lkV : Int := or1 (raV n ar rd)
def scV : Int := lsV n kn rd * lkV n ar rd
def unV : Nat → Int := fun f => unS (kdV n ar fc kn rd f) (mU (fc f) (rd f)) (kn f) (ar f) (puV n fc kn rd) (ruV n fc rd) (scV n ar kn rd) (lsV n kn rd) (lkV n ar rd)
end VIEW
section VIEWB
variable {n : Nat} {ar fc kn : Nat → Int} {rd : Nat → Nat → Int}
theorem ruV_bd (H : FIv n ar fc kn rd) (hn : n ≤ 6) : 0 ≤ ruV n fc rd ∧ ruV n fc rd ≤ 1200 := by have := ru_bd H; unfold ruV; omega
theorem raV_bd (H : FIv n ar fc kn rd) (hn : n ≤ 6) : 0 ≤ raV n ar rd ∧ raV n ar rd ≤ 300 := by have := ra_bd H; unfold raV; omega
theorem puV_bd (H : FIv n ar fc kn rd) (hn : n ≤ 6) : 0 ≤ puV n fc kn rd ∧ puV n fc kn rd ≤ 1200 := by have := pu_bd H; unfold puV; omega
theorem plV_bd (H : FIv n ar fc kn rd) (hn : n ≤ 6) : 0 ≤ plV n kn rd ∧ plV n kn rd ≤ 1200 := by have := pl_bd H; unfold plV; omega
theorem lsV_bd (H : FIv n ar fc kn rd) (hn : n ≤ 6) : 1 ≤ lsV n kn rd ∧ lsV n kn rd ≤ 1200 := by have := plV_bd H hn; unfold lsV or1; split <;> omega
theorem lkV_bd (H : FIv n ar fc kn rd) (hn : n ≤ 6) : 1 ≤ lkV n ar rd ∧ lkV n ar rd ≤ 300 := by have := raV_bd H hn; unfold lkV or1; split <;> omega
theorem scV_bd (H : FIv n ar fc kn rd) (hn : n ≤ 6) : 1 ≤ scV n ar kn rd ∧ scV n ar kn rd ≤ 360000 := by
  have h1 := lsV_bd H hn
  have h2 := lkV_bd H hn
  unfold scV
  have h3 := mulN (A := 1200) (B := 300) ⟨by omega, h1.2⟩ ⟨by omega, h2.2⟩
  have h4 := Int.mul_pos (show 0 < lsV n kn rd by omega) (show 0 < lkV n ar rd by omega)
  omega
end VIEWB
theorem unS_bd {k mu kn ar pu ru sc ls lk : Int} (hm : k = 0 → 0 ≤ mu ∧ mu ≤ 200) (hk : k = 1 → 0 ≤ kn) (ha : 0 ≤ ar) (hp : 0 ≤ pu) (hr : 0 ≤ ru) (hs : 1 ≤ sc) (hl : 0 ≤ ls) (hl2 : 0 ≤ lk) : 0 ≤ unS k mu kn ar pu ru sc ls lk ∧ unS k mu kn ar pu ru sc ls lk ≤ 200 * sc := by
  unfold unS mn
  split
  · rename_i z
    have h := hm z
    exact ⟨Int.mul_nonneg h.1 (by omega), Int.mul_le_mul_of_nonneg_right h.2 (by omega)⟩
  · split
    · rename_i z
      have h1 : 0 ≤ kn * pu * lk := Int.mul_nonneg (Int.mul_nonneg (hk z) hp) hl2
      split <;> omega
    · split
      · have h1 : 0 ≤ ar * ru * ls := Int.mul_nonneg (Int.mul_nonneg ha hr) hl
        split <;> omega
      · omega
/-- what Meters.look leaves behind, i flats on -/
def LK (h : AH) (n : Nat) (kd un : Nat → Int) (a b c d sc au : Int) : AH := fun t i j =>
  if t = 10 ∧ i = 0 then (if j = 2 then sc else if j = 3 then au else if j = 4 then a else if j = 5 then b else if j = 6 then c else if j = 7 then d else h t i j)
  else if t = 11 ∧ i = 0 ∧ j < n then kd j else if t = 12 ∧ i = 0 ∧ j < n then un j else h t i j
theorem LK_fr (h : AH) (n : Nat) (kd un : Nat → Int) (a b c d sc au : Int) {t : Nat} (e : t ≠ 10 ∧ t ≠ 11 ∧ t ≠ 12) : LK h n kd un a b c d sc au t = h t := by
  funext i j; unfold LK; rw [if_neg (by omega), if_neg (by omega), if_neg (by omega)]
theorem LK_zero (h : AH) (kd un : Nat → Int) (a b c d sc : Int) : hset (hset (MS h a b c d) 10 0 2 sc) 10 0 3 0 = LK h 0 kd un a b c d sc 0 := by
  funext t i j; unfold hset MS LK
  by_cases e : t = 10 ∧ i = 0
  · obtain ⟨rfl, rfl⟩ := e
    by_cases z2 : j = 2
    · subst z2; simp
    · by_cases z3 : j = 3
      · subst z3; simp
      · simp [z2, z3]
  · rw [if_neg (by omega), if_neg (by omega), if_neg e, if_neg e, if_neg (by omega), if_neg (by omega)]
theorem LK_step (h : AH) (n : Nat) (kd un : Nat → Int) (a b c d sc au : Int) : hset (hset (hset (LK h n kd un a b c d sc au) 11 0 n (kd n)) 12 0 n (un n)) 10 0 3 (au + un n) = LK h (n + 1) kd un a b c d sc (au + un n) := by
  funext t i j; unfold hset LK
  by_cases e : t = 10 ∧ i = 0
  · obtain ⟨rfl, rfl⟩ := e
    by_cases z3 : j = 3
    · subst z3; simp
    · simp [z3]
  · rw [if_neg (by omega)]
    by_cases e11 : t = 11 ∧ i = 0
    · obtain ⟨rfl, rfl⟩ := e11
      by_cases z : j = n
      · subst z; simp
      · simp only [z, and_false, if_false]
        by_cases z1 : j < n
        · simp [z1, show j < n + 1 by omega]
        · simp [z1, show ¬ j < n + 1 by omega]
    · by_cases e12 : t = 12 ∧ i = 0
      · obtain ⟨rfl, rfl⟩ := e12
        by_cases z : j = n
        · subst z; simp
        · simp only [z, and_false, if_false]
          by_cases z1 : j < n
          · simp [z1, show j < n + 1 by omega]
          · simp [z1, show ¬ j < n + 1 by omega]
      · rw [if_neg (by omega), if_neg (by omega), if_neg e, if_neg e, if_neg (by omega), if_neg (by omega), if_neg (by omega), if_neg (by omega)]

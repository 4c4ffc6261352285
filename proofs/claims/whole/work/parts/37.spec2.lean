/-! Sums over the flats. -/
theorem sumF_bd {g : Nat → Int} {L M : Int} : ∀ {n : Nat}, (∀ k, k < n → L ≤ g k ∧ g k ≤ M) → L * n ≤ sumF n g ∧ sumF n g ≤ M * n := by
  intro n
  induction n with
  | zero => intro _; simp [sumF]
  | succ n ih =>
    intro h
    have h1 := ih fun k hk => h k (by omega)
    have h2 := h n (by omega)
    rw [sumF_succ]
    have e1 : L * ((n + 1 : Nat) : Int) = L * (n : Int) + L := by rw [Int.natCast_add, Int.mul_add]; simp
    have e2 : M * ((n + 1 : Nat) : Int) = M * (n : Int) + M := by rw [Int.natCast_add, Int.mul_add]; simp
    rw [e1, e2]; omega
theorem rdI_01 (r : Nat → Int) : rdI r = 0 ∨ rdI r = 1 := gI_01 r 12
theorem gI_one {r : Nat → Int} {k : Nat} (h : gI r k = 1) : r 0 ≠ -1 ∧ r 12 ≠ -1 ∧ goodR r k = true := by
  unfold gI at h
  split at h
  · assumption
  · cases h
theorem lastR_ge {r : Nat → Int} : ∀ {k : Nat}, goodR r k = true → r 0 ≤ lastR r k := by
  intro k
  induction k with
  | zero => intro _; exact Int.le_refl _
  | succ k ih =>
    intro h
    obtain ⟨h1, h2⟩ := (goodR_succ r k).mp h
    have h3 := ih h1
    by_cases z : r (k + 1) = -1
    · rw [lastR_skip z]; exact h3
    · rw [lastR_new z]; omega
theorem rdI_le {r : Nat → Int} (h : rdI r = 1) : r 0 ≤ r 12 ∧ r 0 ≠ -1 ∧ r 12 ≠ -1 := by
  obtain ⟨h1, h2, h3⟩ := gI_one h
  have h4 := lastR_ge h3
  have h5 : lastR r 12 = r 12 := lastR_new (k := 11) h2
  omega
theorem mU_bd {fc : Int} {r : Nat → Int} (h : rdI r = 1) (hr : ∀ t : Nat, t < 13 → -1 ≤ r t ∧ r t ≤ 99) (hf : 0 ≤ fc ∧ fc ≤ 2) : 0 ≤ mU fc r ∧ mU fc r ≤ 200 := by
  have h1 := rdI_le h
  have h2 := hr 0 (by omega)
  have h3 := hr 12 (by omega)
  unfold mU
  have : fc = 0 ∨ fc = 1 ∨ fc = 2 := by omega
  rcases this with rfl | rfl | rfl <;> omega
/-- what is summed over the flats: units and areas of the read ones; units of those that are read and known, and what is known of them; how many are read -/
def ruG (fc : Nat → Int) (rd : Nat → Nat → Int) : Nat → Int := fun f => if rdI (rd f) = 1 then mU (fc f) (rd f) else 0
def raG (ar : Nat → Int) (rd : Nat → Nat → Int) : Nat → Int := fun f => if rdI (rd f) = 1 then ar f else 0
def rcG (rd : Nat → Nat → Int) : Nat → Int := fun f => if rdI (rd f) = 1 then 1 else 0
def puG (fc kn : Nat → Int) (rd : Nat → Nat → Int) : Nat → Int := fun f => if rdI (rd f) = 1 ∧ kn f ≠ -1 then mU (fc f) (rd f) else 0
def plG (kn : Nat → Int) (rd : Nat → Nat → Int) : Nat → Int := fun f => if rdI (rd f) = 1 ∧ kn f ≠ -1 then kn f else 0
/-- the ranges of what the flats hold -/
def FIv (n : Nat) (ar fc kn : Nat → Int) (rd : Nat → Nat → Int) : Prop := ∀ f : Nat, f < n → (0 ≤ ar f ∧ ar f ≤ 50) ∧ (0 ≤ fc f ∧ fc f ≤ 2) ∧ (kn f = -1 ∨ 1 ≤ kn f ∧ kn f ≤ 200) ∧ ∀ t : Nat, t < 13 → -1 ≤ rd f t ∧ rd f t ≤ 99
section SUMS
variable {n : Nat} {ar fc kn : Nat → Int} {rd : Nat → Nat → Int}
theorem ru_bd (H : FIv n ar fc kn rd) : 0 * (n : Int) ≤ sumF n (ruG fc rd) ∧ sumF n (ruG fc rd) ≤ 200 * n := sumF_bd fun k hk => by
  obtain ⟨h1, h2, h3, h4⟩ := H k hk
  unfold ruG
  split
  · rename_i z; exact mU_bd z h4 h2
  · omega
theorem ra_bd (H : FIv n ar fc kn rd) : 0 * (n : Int) ≤ sumF n (raG ar rd) ∧ sumF n (raG ar rd) ≤ 50 * n := sumF_bd fun k hk => by
  obtain ⟨h1, h2, h3, h4⟩ := H k hk
  unfold raG
  split <;> omega
theorem rc_bd : 0 * (n : Int) ≤ sumF n (rcG rd) ∧ sumF n (rcG rd) ≤ 1 * n := sumF_bd fun k hk => by
  unfold rcG
  split <;> omega
theorem pu_bd (H : FIv n ar fc kn rd) : 0 * (n : Int) ≤ sumF n (puG fc kn rd) ∧ sumF n (puG fc kn rd) ≤ 200 * n := sumF_bd fun k hk => by
  obtain ⟨h1, h2, h3, h4⟩ := H k hk
  unfold puG
  split
  · rename_i z; exact mU_bd z.1 h4 h2
  · omega
theorem pl_bd (H : FIv n ar fc kn rd) : 0 * (n : Int) ≤ sumF n (plG kn rd) ∧ sumF n (plG kn rd) ≤ 200 * n := sumF_bd fun k hk => by
  obtain ⟨h1, h2, h3, h4⟩ := H k hk
  unfold plG
  split <;> omega
end SUMS
theorem FIv.sub {n m : Nat} {ar fc kn : Nat → Int} {rd : Nat → Nat → Int} (H : FIv n ar fc kn rd) (h : m ≤ n) : FIv m ar fc kn rd := fun f hf => H f (by omega)
/-- the class's flats -/
abbrev cAr (h : AH) : Nat → Int := fun f => h 4 f 0
abbrev cFc (h : AH) : Nat → Int := fun f => h 4 f 2
abbrev cKn (h : AH) : Nat → Int := fun f => h 4 f 4
abbrev cRd (h : AH) : Nat → Nat → Int := fun f => h 5 f
def FIc (h : AH) : Prop := FIv 6 (cAr h) (cFc h) (cKn h) (cRd h)
/-- the reference's -/
abbrev rAr (h : AH) : Nat → Int := fun f => h 41 0 f
abbrev rFc (h : AH) : Nat → Int := fun f => h 43 0 f
abbrev rKn (h : AH) : Nat → Int := fun f => h 47 0 f
abbrev rRd (h : AH) : Nat → Nat → Int := fun f => rdR h f
def FIr (n : Nat) (h : AH) : Prop := FIv n (rAr h) (rFc h) (rKn h) (rRd h)
/-- Meters' four sums -/
def MS (h : AH) (a b c d : Int) : AH := fun t i j => if t = 10 ∧ i = 0 then (if j = 4 then a else if j = 5 then b else if j = 6 then c else if j = 7 then d else h t i j) else h t i j
theorem MS_fr (h : AH) (a b c d : Int) {t : Nat} (e : t ≠ 10) : MS h a b c d t = h t := by
  funext i j; unfold MS; rw [if_neg (by omega)]
theorem MS_4 (h : AH) (a b c d x : Int) : hset (MS h a b c d) 10 0 4 x = MS h x b c d := by
  funext t i j; unfold hset MS
  by_cases e : t = 10 ∧ i = 0
  · obtain ⟨rfl, rfl⟩ := e; by_cases z : j = 4 <;> simp [z]
  · rw [if_neg (by omega), if_neg e, if_neg e]
theorem MS_5 (h : AH) (a b c d x : Int) : hset (MS h a b c d) 10 0 5 x = MS h a x c d := by
  funext t i j; unfold hset MS
  by_cases e : t = 10 ∧ i = 0
  · obtain ⟨rfl, rfl⟩ := e; by_cases z : j = 5 <;> simp [z]
  · rw [if_neg (by omega), if_neg e, if_neg e]
theorem MS_6 (h : AH) (a b c d x : Int) : hset (MS h a b c d) 10 0 6 x = MS h a b x d := by
  funext t i j; unfold hset MS
  by_cases e : t = 10 ∧ i = 0
  · obtain ⟨rfl, rfl⟩ := e; by_cases z : j = 6 <;> simp [z]
  · rw [if_neg (by omega), if_neg e, if_neg e]
theorem MS_7 (h : AH) (a b c d x : Int) : hset (MS h a b c d) 10 0 7 x = MS h a b c x := by
  funext t i j; unfold hset MS
  by_cases e : t = 10 ∧ i = 0
  · obtain ⟨rfl, rfl⟩ := e; by_cases z : j = 7 <;> simp [z]
  · rw [if_neg (by omega), if_neg e, if_neg e]
theorem MS_self (h : AH) : MS h (h 10 0 4) (h 10 0 5) (h 10 0 6) (h 10 0 7) = h := by
  funext t i j; unfold MS
  by_cases e : t = 10 ∧ i = 0
  · obtain ⟨rfl, rfl⟩ := e
    rw [if_pos ⟨rfl, rfl⟩]
    (repeat' split) <;> simp_all
  · rw [if_neg e]
theorem MS_g4 (h : AH) (a b c d : Int) : MS h a b c d 10 0 4 = a := rfl
theorem MS_g5 (h : AH) (a b c d : Int) : MS h a b c d 10 0 5 = b := rfl
theorem MS_g6 (h : AH) (a b c d : Int) : MS h a b c d 10 0 6 = c := rfl
theorem MS_g7 (h : AH) (a b c d : Int) : MS h a b c d 10 0 7 = d := rfl

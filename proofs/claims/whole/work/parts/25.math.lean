/-! Plain mathematics: sums, orders of fractions, Euclid's comparison. -/
def Ret (v : Option AV) (h0 : AH) : AO → AH → Prop := fun o h' => o = .inl v ∧ h' = h0
def sumF (n : Nat) (g : Nat → Int) : Int := match n with
  | 0 => 0
  | n + 1 => sumF n g + g n
theorem sumF_succ (n : Nat) (g : Nat → Int) : sumF (n + 1) g = sumF n g + g n := rfl
theorem sumF_congr {g g' : Nat → Int} : ∀ {n : Nat}, (∀ k, k < n → g k = g' k) → sumF n g = sumF n g' := by
  intro n
  induction n with
  | zero => intro _; rfl
  | succ n ih =>
    intro h
    rw [sumF_succ, sumF_succ, ih fun k hk => h k (by omega), h n (by omega)]
theorem sumF_nn {g : Nat → Int} : ∀ {n : Nat}, (∀ k, k < n → 0 ≤ g k) → 0 ≤ sumF n g := by
  intro n
  induction n with
  | zero => intro _; exact Int.le_refl 0
  | succ n ih =>
    intro h
    have h1 := ih fun k hk => h k (by omega)
    have h2 := h n (by omega)
    rw [sumF_succ]; omega
theorem sumF_le {g : Nat → Int} {M : Int} : ∀ {n : Nat}, (∀ k, k < n → g k ≤ M) → sumF n g ≤ M * n := by
  intro n
  induction n with
  | zero => intro _; simp [sumF]
  | succ n ih =>
    intro h
    have h1 := ih fun k hk => h k (by omega)
    have h2 := h n (by omega)
    rw [sumF_succ]
    have e : M * ((n + 1 : Nat) : Int) = M * (n : Int) + M := by rw [Int.natCast_add, Int.mul_add]; simp
    rw [e]; omega
theorem sumF_mono {g g' : Nat → Int} : ∀ {n : Nat}, (∀ k, k < n → g k ≤ g' k) → sumF n g ≤ sumF n g' := by
  intro n
  induction n with
  | zero => intro _; exact Int.le_refl 0
  | succ n ih =>
    intro h
    have h1 := ih fun k hk => h k (by omega)
    have h2 := h n (by omega)
    rw [sumF_succ, sumF_succ]; omega
theorem sumF_add (g g' : Nat → Int) : ∀ n : Nat, sumF n (fun k => g k + g' k) = sumF n g + sumF n g' := by
  intro n
  induction n with
  | zero => rfl
  | succ n ih => rw [sumF_succ, sumF_succ, sumF_succ, ih]; omega
theorem sumF_mul (c : Int) (g : Nat → Int) : ∀ n : Nat, sumF n (fun k => c * g k) = c * sumF n g := by
  intro n
  induction n with
  | zero => simp [sumF]
  | succ n ih => rw [sumF_succ, sumF_succ, ih, Int.mul_add]
theorem sumF_upd (g : Nat → Int) (j : Nat) (v : Int) : ∀ n : Nat, sumF n (fun k => if k = j then v else g k) = if j < n then sumF n g - g j + v else sumF n g := by
  intro n
  induction n with
  | zero => rfl
  | succ n ih =>
    rw [sumF_succ, sumF_succ, ih]
    by_cases h1 : n = j
    · subst h1
      simp
    · by_cases h2 : j < n
      · rw [if_pos h2, if_neg h1, if_pos (by omega)]; omega
      · rw [if_neg h2, if_neg h1, if_neg (by omega)]
/-- how many k < n have P -/
def cntF (n : Nat) (P : Nat → Bool) : Int := sumF n (fun k => if P k then 1 else 0)
/-- p / q > r / s, said without division -/
theorem mul_pos' {a b : Int} (ha : 0 < a) (hb : 0 < b) : 0 < a * b := Int.mul_pos ha hb
theorem mul_nn' {a b : Int} (ha : 0 ≤ a) (hb : 0 ≤ b) : 0 ≤ a * b := Int.mul_nonneg ha hb
theorem mul_le' {a b c d : Int} (h1 : a ≤ c) (h2 : b ≤ d) (ha : 0 ≤ b) (hc : 0 ≤ c) : a * b ≤ c * d := Int.le_trans (Int.mul_le_mul_of_nonneg_right h1 ha) (Int.mul_le_mul_of_nonneg_left h2 hc)
/-- one turn of Euclid: the whole parts are the same -/
theorem euc_step {p q r s : Int} (hq : 0 < q) (hs : 0 < s) (he : p / q = r / s) : (r * q < p * s ↔ (r % s) * q < (p % q) * s) ∧ (p * s < r * q ↔ (p % q) * s < (r % s) * q) := by
  have h1 := Int.emod_add_mul_ediv p q
  have h2 := Int.emod_add_mul_ediv r s
  have e1 : p * s = (p % q) * s + (p / q) * (q * s) := by
    conv => lhs; rw [← h1]
    rw [Int.add_mul, Int.mul_comm q (p / q), Int.mul_assoc]
  have e2 : r * q = (r % s) * q + (r / s) * (q * s) := by
    conv => lhs; rw [← h2]
    rw [Int.add_mul, Int.mul_comm s (r / s), Int.mul_assoc, Int.mul_comm s q]
  rw [e1, e2, he]
  omega
/-- the whole parts differ: they decide -/
theorem euc_end {p q r s : Int} (hq : 0 < q) (hs : 0 < s) (hne : ¬ p / q = r / s) : (r * q < p * s ↔ r / s < p / q) ∧ (p * s < r * q ↔ p / q < r / s) := by
  have key : ∀ {p q r s : Int}, 0 < q → 0 < s → r / s < p / q → r * q < p * s := by
    intro p q r s hq hs h
    have h1 := Int.emod_add_mul_ediv p q
    have h2 := Int.emod_add_mul_ediv r s
    have a1 := Int.emod_nonneg p (Int.ne_of_gt hq)
    have a2 := Int.emod_lt_of_pos r hs
    have b1 : r < s * (r / s + 1) := by rw [Int.mul_add]; omega
    have b2 : q * (p / q) ≤ p := by omega
    have c1 : r * q < s * (r / s + 1) * q := Int.mul_lt_mul_of_pos_right b1 hq
    have c2 : q * (p / q) * s ≤ p * s := Int.mul_le_mul_of_nonneg_right b2 (Int.le_of_lt hs)
    have c3 : s * (r / s + 1) * q ≤ q * (p / q) * s := by
      have d : r / s + 1 ≤ p / q := h
      have d1 : (r / s + 1) * (q * s) ≤ (p / q) * (q * s) := Int.mul_le_mul_of_nonneg_right d (Int.le_of_lt (Int.mul_pos hq hs))
      have f1 : s * (r / s + 1) * q = (r / s + 1) * (q * s) := by rw [Int.mul_comm s, Int.mul_assoc, Int.mul_comm s q]
      have f2 : q * (p / q) * s = (p / q) * (q * s) := by rw [Int.mul_comm q, Int.mul_assoc]
      rw [f1, f2]; exact d1
    omega
  have k1 := @key p q r s hq hs
  have k2 := @key r s p q hs hq
  constructor
  · constructor
    · intro h
      rcases Int.lt_trichotomy (r / s) (p / q) with z | z | z
      · exact z
      · exact absurd z.symm hne
      · have := k2 z; omega
    · exact k1
  · constructor
    · intro h
      rcases Int.lt_trichotomy (r / s) (p / q) with z | z | z
      · have := k1 z; omega
      · exact absurd z.symm hne
      · exact z
    · exact k2
/-- the least remainder is 0: it decides -/
theorem euc_zero {x y q s : Int} (hq : 0 < q) (hs : 0 < s) (hx : 0 ≤ x) (hy : 0 ≤ y) (h0 : x = 0 ∨ y = 0) : (y * q < x * s ↔ y < x) ∧ (x * s < y * q ↔ x < y) := by
  rcases h0 with h | h
  · subst h
    rw [Int.zero_mul]
    have h1 : 0 ≤ y * q := Int.mul_nonneg hy (Int.le_of_lt hq)
    refine ⟨by omega, ?_⟩
    constructor
    · intro h
      rcases Int.lt_or_eq_of_le hy with z | z
      · exact z
      · rw [← z, Int.zero_mul] at h; omega
    · intro h; exact Int.mul_pos h hq
  · subst h
    rw [Int.zero_mul]
    have h1 : 0 ≤ x * s := Int.mul_nonneg hx (Int.le_of_lt hs)
    refine ⟨?_, by omega⟩
    constructor
    · intro h
      rcases Int.lt_or_eq_of_le hx with z | z
      · exact z
      · rw [← z, Int.zero_mul] at h; omega
    · intro h; exact Int.mul_pos h hs
theorem tdiv_nn {a b : Int} (ha : 0 ≤ a) : a.tdiv b = a / b := Int.tdiv_eq_ediv_of_nonneg ha
theorem tmod_nn {a b : Int} (ha : 0 ≤ a) : a.tmod b = a % b := Int.tmod_eq_emod_of_nonneg ha
theorem ediv_le_self' {a b : Int} (ha : 0 ≤ a) (hb : 0 < b) : 0 ≤ a / b ∧ a / b ≤ a := ⟨Int.ediv_nonneg ha (Int.le_of_lt hb), Int.ediv_le_self b ha⟩

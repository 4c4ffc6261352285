/-! Contracts of the reference: handing out. -/
theorem gm_spec (r : Nat → Int) : ∀ k, (∀ j, j ≤ k → r j ≤ r (gm r k)) ∧ ∀ j, j < gm r k → r j < r (gm r k) := by
  intro k
  induction k with
  | zero => exact ⟨fun j hj => by have : j = 0 := by omega
                                  subst this; exact Int.le_refl _, fun j hj => by unfold gm at hj; omega⟩
  | succ k ih =>
    unfold gm
    have l := gm_le r k
    split
    · rename_i z
      refine ⟨fun j hj => ?_, fun j hj => ?_⟩
      · by_cases e : j = k + 1
        · subst e; exact Int.le_refl _
        · have := ih.1 j (by omega); omega
      · have := ih.1 j (by omega); omega
    · rename_i z
      refine ⟨fun j hj => ?_, ih.2⟩
      by_cases e : j = k + 1
      · subst e; omega
      · exact ih.1 j (by omega)
theorem gm_uni {r : Nat → Int} {k g : Nat} (h1 : g ≤ k) (h2 : ∀ j, j ≤ k → r j ≤ r g) (h3 : ∀ j, j < g → r j < r g) : gm r k = g := by
  have s := gm_spec r k
  have l := gm_le r k
  have a := h2 _ l
  have b := s.1 _ h1
  rcases Nat.lt_trichotomy (gm r k) g with z | z | z
  · have := h3 _ z; omega
  · exact z
  · have := s.2 _ z; omega
/-- how many of r 0 .. r (n-1) are not nothing -/
def posN (n : Nat) (r : Nat → Int) : Int := sumF n (fun s => if 0 < r s then 1 else 0)
theorem posN_ex {r : Nat → Int} : ∀ {n : Nat}, 0 < posN n r → ∃ s, s < n ∧ 0 < r s := by
  intro n
  induction n with
  | zero => intro h; exact absurd h (by show ¬ (0 : Int) < 0; omega)
  | succ n ih =>
    intro h
    by_cases c : 0 < r n
    · exact ⟨n, by omega, c⟩
    · have e : posN (n + 1) r = posN n r + 0 := by unfold posN; rw [sumF_succ, if_neg c]
      obtain ⟨s, hs, z⟩ := ih (by omega)
      exact ⟨s, by omega, z⟩
theorem posN_pick {n : Nat} {r : Nat → Int} {g : Nat} (hg : g < n) (hr : 0 < r g) : posN n (upI r g 0) = posN n r - 1 := by
  unfold posN
  have e : sumF n (fun s => if 0 < upI r g 0 s then (1 : Int) else 0) = sumF n (fun s => if s = g then 0 else (if 0 < r s then 1 else 0)) := sumF_congr fun s hs => by
    unfold upI
    by_cases c : s = g
    · rw [if_pos c, if_pos c]; rfl
    · rw [if_neg c, if_neg c]
  rw [e, sumF_upd, if_pos hg, if_pos hr]
  omega
theorem posN_le {n : Nat} {D : Int} {r : Nat → Int} (hD : 0 < D) (hr : ∀ s, s < n → 0 ≤ r s ∧ r s < D) : sumF n r ≤ D * posN n r := by
  unfold posN
  rw [← sumF_mul]
  refine sumF_mono fun s hs => ?_
  have := hr s hs
  split
  · rw [Int.mul_one]; omega
  · rw [Int.mul_zero]; omega
/-- what is left is no more than there are rests -/
theorem left_le {n : Nat} {p D : Int} {N : Nat → Int} (hD : 0 < D) (hS : sumF n N = p * D) : p - sumF n (fun s => N s / D) ≤ posN n (fun s => N s % D) := by
  have e : sumF n N = sumF n (fun s => D * (N s / D)) + sumF n (fun s => N s % D) := by
    rw [← sumF_add]
    exact sumF_congr fun s _ => by have := Int.mul_ediv_add_emod (N s) D; omega
  rw [sumF_mul, hS] at e
  have b := posN_le hD (n := n) (r := fun s => N s % D) (fun s _ => ⟨Int.emod_nonneg _ (by omega), Int.emod_lt_of_pos _ hD⟩)
  have z : D * (p - sumF n (fun s => N s / D)) ≤ D * posN n (fun s => N s % D) := by
    rw [Int.mul_sub, Int.mul_comm D p]; omega
  exact Int.le_of_mul_le_mul_left z hD
theorem posN_n {n : Nat} (r : Nat → Int) : posN n r ≤ n := by
  have := sumF_bd (g := fun s => if 0 < r s then (1 : Int) else 0) (L := 0) (M := 1) (n := n) (fun s _ => by show 0 ≤ (if 0 < r s then (1 : Int) else 0) ∧ (if 0 < r s then (1 : Int) else 0) ≤ 1; split <;> omega)
  unfold posN; omega
def RD2 (h : AH) (n : Nat) (c k : Nat → Int) : AH := fun t i j => if t = 60 ∧ i = 0 ∧ j < n then c j else if t = 58 ∧ i = 0 ∧ j < n then k j else h t i j
theorem RD2_fr (h : AH) (n : Nat) (c k : Nat → Int) {t : Nat} (e : t ≠ 60 ∧ t ≠ 58) : RD2 h n c k t = h t := by
  funext i j; unfold RD2; rw [if_neg (by omega), if_neg (by omega)]
theorem RD2_zero (h : AH) (c k : Nat → Int) : h = RD2 h 0 c k := by
  funext t i j; unfold RD2; rw [if_neg (by omega), if_neg (by omega)]
theorem RD2_58 (h : AH) (n : Nat) (c k : Nat → Int) : RD2 h n c k 58 0 n = h 58 0 n := by unfold RD2; rw [if_neg (by omega), if_neg (by omega)]
theorem RD2_step (h : AH) (n : Nat) (c k : Nat → Int) : hset (hset (RD2 h n c k) 60 0 n (c n)) 58 0 n (k n) = RD2 h (n + 1) c k := by
  funext t i j; unfold hset RD2
  by_cases e19 : t = 60 ∧ i = 0
  · obtain ⟨rfl, rfl⟩ := e19
    by_cases z : j = n
    · subst z; simp
    · by_cases z1 : j < n
      · simp [z, z1, show j < n + 1 by omega]
      · simp [z, z1, show ¬ j < n + 1 by omega]
  · by_cases e22 : t = 58 ∧ i = 0
    · obtain ⟨rfl, rfl⟩ := e22
      by_cases z : j = n
      · subst z; simp
      · by_cases z1 : j < n
        · simp [z, z1, show j < n + 1 by omega]
        · simp [z, z1, show ¬ j < n + 1 by omega]
    · rw [if_neg (by omega), if_neg (by omega), if_neg (by omega), if_neg (by omega), if_neg (by omega), if_neg (by omega)]
theorem RD2_c (h : AH) {n : Nat} (c k : Nat → Int) {j : Nat} (e : j < n) : RD2 h n c k 60 0 j = c j := by unfold RD2; rw [if_pos ⟨rfl, rfl, e⟩]
theorem RD2_k (h : AH) {n : Nat} (c k : Nat → Int) {j : Nat} (e : j < n) : RD2 h n c k 58 0 j = k j := by unfold RD2; rw [if_neg (by omega), if_pos ⟨rfl, rfl, e⟩]
/-- what handOut wants -/
def HOk (h : AH) (n : Nat) (p D : Int) (N : Nat → Int) : Prop := (h 40 0 32 = (n : Int) ∧ 1 ≤ n ∧ n ≤ 72) ∧ (0 ≤ p ∧ p ≤ 260000) ∧ 0 < D ∧ sumF n N = p * D ∧ ∀ s : Nat, s < n → (0 ≤ h 58 0 s ∧ h 58 0 s ≤ 1000000000000000000) ∧ (1 ≤ h 59 0 s ∧ h 59 0 s ≤ 10000000000000) ∧ h 58 0 s * D = N s * h 59 0 s ∧ (0 ≤ N s ∧ N s ≤ p * D) ∧ h 61 0 s = 0
/-- while it is handed out: c is given, r are the rests that are left, q the rests -/
def RRT (h g : AH) (n : Nat) (D : Int) (q c r : Nat → Int) (M : Int) : Prop := (∀ t : Nat, t ≠ 58 → t ≠ 60 → t ≠ 61 → g t = h t) ∧ ∀ s : Nat, s < n → g 60 0 s = c s ∧ (0 ≤ c s ∧ c s ≤ M) ∧ g 58 0 s * D = 1 * q s * h 59 0 s ∧ (0 ≤ g 58 0 s ∧ g 58 0 s ≤ 10000000000000) ∧ 0 ≤ q s ∧ ((g 61 0 s = 0 ∧ r s = q s) ∨ (g 61 0 s = 1 ∧ r s = 0))
theorem RRT.pick {h g : AH} {n : Nat} {D : Int} {q c r : Nat → Int} {M : Int} (H : RRT h g n D q c r M) (b : Nat) : RRT h (hset (hset g 60 0 b (c b + 1)) 61 0 b 1) n D q (upI c b (c b + 1)) (upI r b 0) (M + 1) := by
  refine ⟨fun t h1 h2 h3 => by rw [hset_fr _ _ _ _ h3, hset_fr _ _ _ _ h2]; exact H.1 t h1 h2 h3, fun s hs => ?_⟩
  have z := H.2 s hs
  rw [hset_tag _ _ (show (58 : Nat) ≠ 61 by decide), hset_tag _ _ (show (58 : Nat) ≠ 60 by decide)]
  by_cases e : s = b
  · subst e
    rw [hset_same, hset_tag _ _ (by decide), hset_same, upI_at, upI_at]
    exact ⟨rfl, by omega, z.2.2.1, z.2.2.2.1, z.2.2.2.2.1, Or.inr ⟨rfl, rfl⟩⟩
  · rw [hset_tag _ _ (show (60 : Nat) ≠ 61 by decide), hset_slot _ _ e, hset_slot _ _ e, hset_tag _ _ (by decide)]
    have e1 : upI c b (c b + 1) s = c s := by unfold upI; rw [if_neg e]
    have e2 : upI r b 0 s = r s := by unfold upI; rw [if_neg e]
    rw [e1, e2]
    exact ⟨z.1, by omega, z.2.2⟩
/-- best after the spans above k have been seen -/
def Bst (n : Nat) (g : AH) (q : Nat → Int) (k best : Int) : Prop := (best = -1 ∧ ∀ j : Nat, k < j → j < n → g 61 0 j = 1) ∨ (k < best ∧ best < n ∧ g 61 0 best.toNat = 0 ∧ ∀ j : Nat, k < j → j < n → g 61 0 j = 0 → q j ≤ q best.toNat ∧ ((j : Int) < best → q j < q best.toNat))
theorem Bst_gm {h g : AH} {n : Nat} {D : Int} {q c r : Nat → Int} {M : Int} (H : RRT h g n D q c r M) {best : Int} (B : Bst n g q (-1) best) (hp : 0 < posN n r) : 0 ≤ best ∧ best < n ∧ best.toNat = gm r (n - 1) ∧ 0 < r best.toNat := by
  obtain ⟨s, hs, hr⟩ := posN_ex hp
  have zs := H.2 s hs
  have s0 : g 61 0 s = 0 ∧ r s = q s := by
    rcases zs.2.2.2.2.2 with y | y
    · exact y
    · omega
  rcases B with ⟨_, y⟩ | ⟨b1, b2, b3, b4⟩
  · have := y s (by omega) hs; omega
  · have zb := H.2 best.toNat (by omega)
    have rb : r best.toNat = q best.toNat := by
      rcases zb.2.2.2.2.2 with y | y
      · exact y.2
      · omega
    have qs := b4 s (by omega) hs s0.1
    have rp : 0 < r best.toNat := by omega
    refine ⟨by omega, b2, (gm_uni (by omega) (fun j hj => ?_) (fun j hj => ?_)).symm, rp⟩
    · have zj := H.2 j (by omega)
      rcases zj.2.2.2.2.2 with y | y
      · have := b4 j (by omega) (by omega) y.1; omega
      · omega
    · have zj := H.2 j (by omega)
      rcases zj.2.2.2.2.2 with y | y
      · have := (b4 j (by omega) (by omega) y.1).2 (by omega); omega
      · omega


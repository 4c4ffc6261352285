/-! Fuel: what of a layer is in the stock, its cents, the parts of the bill. -/
def inS (l u : Int) : Int := if l < 0 then 0 else if u < l then u else l
def lfV (L : Nat) (u : Nat → Int) (s : Int) (k : Nat) : Int := s - (sumF L u - sumF (k + 1) u)
def inV (L : Nat) (u : Nat → Int) (s : Int) : Nat → Int := fun k => inS (lfV L u s k) (u k)
def ciV (L : Nat) (u c : Nat → Int) (s : Int) : Nat → Int := fun k => c k * inV L u s k / u k
def ncV (L : Nat) (u c : Nat → Int) (s : Int) : Nat → Int := fun k => c k - ciV L u c s k
def FUv (L : Nat) (u c : Nat → Int) : Prop := L ≤ 12 ∧ ∀ k : Nat, k < L → (1 ≤ u k ∧ u k ≤ 1000) ∧ (0 ≤ c k ∧ c k ≤ 20000)
section FUEL
variable {L : Nat} {u c : Nat → Int} {s : Int}
theorem su_bd (H : FUv L u c) {n : Nat} (hn : n ≤ L) : 1 * (n : Int) ≤ sumF n u ∧ sumF n u ≤ 1000 * n := sumF_bd fun k hk => (H.2 k (by omega)).1
theorem inV_bd (H : FUv L u c) {k : Nat} (hk : k < L) : 0 ≤ inV L u s k ∧ inV L u s k ≤ u k := by
  have h := (H.2 k hk).1
  unfold inV inS
  (repeat' split) <;> omega
theorem ciV_bd (H : FUv L u c) {k : Nat} (hk : k < L) : 0 ≤ ciV L u c s k ∧ ciV L u c s k ≤ c k := by
  have h := H.2 k hk
  have hi := inV_bd (s := s) H hk
  have h1 : 0 ≤ c k * inV L u s k := Int.mul_nonneg h.2.1 hi.1
  have h2 : c k * inV L u s k ≤ c k * u k := Int.mul_le_mul_of_nonneg_left hi.2 h.2.1
  unfold ciV
  refine ⟨Int.ediv_nonneg h1 (by omega), ?_⟩
  have h3 := Int.ediv_le_ediv (show 0 < u k by omega) h2
  rwa [Int.mul_ediv_cancel _ (by omega)] at h3
theorem nc_bd (H : FUv L u c) {n : Nat} (hn : n ≤ L) : 0 * (n : Int) ≤ sumF n (ncV L u c s) ∧ sumF n (ncV L u c s) ≤ 20000 * n := sumF_bd fun k hk => by
  have h1 := ciV_bd (s := s) H (show k < L by omega)
  have h2 := H.2 k (by omega)
  unfold ncV; omega
end FUEL
/-- the water's units, the five parts -/
def waV (li ga b : Int) : Int := if li = -1 then 180 * b / 1000 else if 400 * b / 1000 < li * ga * 115 / 100000 then 400 * b / 1000 else li * ga * 115 / 100000
def p2V (cost wa b : Int) : Int := cost * wa / b
def p3V (cost p2 pm : Int) : Int := (cost - p2) * pm / 1000
theorem waV_bd {li ga b : Int} (hl : -1 ≤ li) (hg : 0 ≤ ga) (hb : 0 ≤ b) : 0 ≤ waV li ga b ∧ waV li ga b ≤ b := by
  unfold waV
  split
  · omega
  · have h0 : 0 ≤ li * ga := Int.mul_nonneg (by omega) hg
    split <;> omega
theorem p2V_bd {cost wa b : Int} (hc : 0 ≤ cost) (hw : 0 ≤ wa ∧ wa ≤ b) (hb : 0 < b) : 0 ≤ p2V cost wa b ∧ p2V cost wa b ≤ cost := by
  have h1 : 0 ≤ cost * wa := Int.mul_nonneg hc hw.1
  have h2 : cost * wa ≤ cost * b := Int.mul_le_mul_of_nonneg_left hw.2 hc
  unfold p2V
  refine ⟨Int.ediv_nonneg h1 (by omega), ?_⟩
  have h3 := Int.ediv_le_ediv hb h2
  rwa [Int.mul_ediv_cancel _ (by omega)] at h3
theorem p3V_bd {cost p2 pm : Int} (hc : 0 ≤ cost - p2) (hp : 0 ≤ pm ∧ pm ≤ 1000) : 0 ≤ p3V cost p2 pm ∧ p3V cost p2 pm ≤ cost - p2 := by
  have h1 : 0 ≤ (cost - p2) * pm := Int.mul_nonneg hc hp.1
  have h2 : (cost - p2) * pm ≤ (cost - p2) * 1000 := Int.mul_le_mul_of_nonneg_left hp.2 hc
  unfold p3V
  refine ⟨Int.ediv_nonneg h1 (by omega), ?_⟩
  have h3 := Int.ediv_le_ediv (show (0 : Int) < 1000 by decide) h2
  rwa [Int.mul_ediv_cancel _ (by decide)] at h3
def partsH (h : AH) (t : Nat) (b cost p2 p3 : Int) : AH := hset (hset (hset (hset (hset h t 0 0 b) t 0 1 cost) t 0 2 p2) t 0 3 p3) t 0 4 (cost - p2 - p3)

/-! Contracts of the reference: share. -/
def SR (h : AH) (n : Nat) : List SP := spA (rHs h) (rVl h) (fun f => h 46 0 f) n
theorem SR_succ (h : AH) (n : Nat) : SR h (n + 1) = SR h n ++ spF n (rHs h n) (rVl h n) (h 46 0 n) := rfl
theorem SR_len (h : AH) (n : Nat) : (SR h n).length ≤ 12 * n := spA_len _ _ _ _
/-- what is asked of the meters of the flats -/
def MTR (h : AH) (k : Nat → Int) : Prop := (∀ f : Nat, f < nR h → (k f = 0 ↔ rdI (rdR h f) = 1) ∧ (∀ t : Nat, t < 13 → -1 ≤ rdR h f t ∧ rdR h f t ≤ 99) ∧ (0 ≤ h 43 0 f ∧ h 43 0 f ≤ 2) ∧ MOK (k f) (h 43 0 f) (h 40 0 30) (h 56 0 f) (rdR h f)) ∧ (0 ≤ h 40 0 30 ∧ h 40 0 30 ≤ 360000) ∧ (∀ k : Nat, k < 12 → 0 ≤ h 50 0 k ∧ h 50 0 k ≤ 100) ∧ (degF (h 50 0) 0 12 = 100 ∨ ndB (nR h) (rHs h) (bR h k) = false)
/-- what spanByMeter says of a span -/
def UM (h : AH) (k : Nat → Int) (p al : Int) (f : Nat) (fr to : Int) (x y : Int) : Prop := ∃ X Y : Int, (1 ≤ Y ∧ Y ≤ 10000) ∧ 0 ≤ X ∧ X ≤ h 56 0 f * Y ∧ FF * X = Y * (GA (bdF (k f) (rdR h f)) (VF (k f) (h 43 0 f) (h 40 0 30) (h 56 0 f) (rdR h f)) (h 50 0) to.toNat - GA (bdF (k f) (rdR h f)) (VF (k f) (h 43 0 f) (h 40 0 30) (h 56 0 f) (rdR h f)) (h 50 0) fr.toNat) ∧ x = p * X ∧ y = al * Y
theorem RSF_over (h : AH) {n : Nat} (wh up dn : Nat → Int) {t : Nat} (i j : Nat) (e : t ≠ 40 ∧ t ≠ 57 ∧ t ≠ 58 ∧ t ≠ 59 ∧ t ≠ 61) : RSF h n wh up dn t i j = h t i j := by rw [RSF_fr _ _ _ _ _ e]

/-! The reference's heap while a bill is shared. -/
def FrR (g b : AH) : Prop := (∀ t : Nat, t ≠ 40 → t ≠ 52 → t ≠ 57 → t ≠ 58 → t ≠ 59 → t ≠ 60 → t ≠ 61 → g t = b t) ∧ ∀ j : Nat, j ≠ 32 → g 40 0 j = b 40 0 j
theorem FrR.rfl' (g : AH) : FrR g g := ⟨fun _ _ _ _ _ _ _ _ => rfl, fun _ _ => rfl⟩
theorem FrR.tr {a b c : AH} (h1 : FrR a b) (h2 : FrR b c) : FrR a c := ⟨fun t e1 e2 e3 e4 e5 e6 e7 => (h1.1 t e1 e2 e3 e4 e5 e6 e7).trans (h2.1 t e1 e2 e3 e4 e5 e6 e7), fun j hj => (h1.2 j hj).trans (h2.2 j hj)⟩
theorem FrR.t {g b : AH} (F : FrR g b) {t : Nat} (e : t ≠ 40 ∧ t ≠ 52 ∧ t ≠ 57 ∧ t ≠ 58 ∧ t ≠ 59 ∧ t ≠ 60 ∧ t ≠ 61) : g t = b t := F.1 t e.1 e.2.1 e.2.2.1 e.2.2.2.1 e.2.2.2.2.1 e.2.2.2.2.2.1 e.2.2.2.2.2.2
theorem FrR.n {g b : AH} (F : FrR g b) : nR g = nR b := by unfold nR; rw [F.2 1 (by decide)]
theorem FrR.rd {g b : AH} (F : FrR g b) : rdR g = rdR b := by funext f t; unfold rdR; rw [F.t (by decide)]
theorem FrR.hs {g b : AH} (F : FrR g b) : rHs g = rHs b := by funext f t; unfold rHs; rw [F.t (by decide)]
theorem FrR.vl {g b : AH} (F : FrR g b) : rVl g = rVl b := by funext f t; show g 45 0 _ = b 45 0 _; rw [F.t (by decide)]
theorem FrR.sr {g b : AH} (F : FrR g b) (n : Nat) : SR g n = SR b n := by unfold SR; rw [F.hs, F.vl, F.t (show (46 : Nat) ≠ 40 ∧ (46 : Nat) ≠ 52 ∧ (46 : Nat) ≠ 57 ∧ (46 : Nat) ≠ 58 ∧ (46 : Nat) ≠ 59 ∧ (46 : Nat) ≠ 60 ∧ (46 : Nat) ≠ 61 by decide)]
theorem FrR.um {g b : AH} (F : FrR g b) (k : Nat → Int) (p al : Int) (f : Nat) (fr to x y : Int) : UM g k p al f fr to x y = UM b k p al f fr to x y := by
  unfold UM
  rw [F.rd, F.2 30 (by decide), F.t (show (43 : Nat) ≠ 40 ∧ (43 : Nat) ≠ 52 ∧ (43 : Nat) ≠ 57 ∧ (43 : Nat) ≠ 58 ∧ (43 : Nat) ≠ 59 ∧ (43 : Nat) ≠ 60 ∧ (43 : Nat) ≠ 61 by decide), F.t (show (56 : Nat) ≠ 40 ∧ (56 : Nat) ≠ 52 ∧ (56 : Nat) ≠ 57 ∧ (56 : Nat) ≠ 58 ∧ (56 : Nat) ≠ 59 ∧ (56 : Nat) ≠ 60 ∧ (56 : Nat) ≠ 61 by decide), F.t (show (50 : Nat) ≠ 40 ∧ (50 : Nat) ≠ 52 ∧ (50 : Nat) ≠ 57 ∧ (50 : Nat) ≠ 58 ∧ (50 : Nat) ≠ 59 ∧ (50 : Nat) ≠ 60 ∧ (50 : Nat) ≠ 61 by decide)]
theorem FrR.mt {g b : AH} (F : FrR g b) (k : Nat → Int) (H : MTR b k) : MTR g k := by
  unfold MTR bR at *
  rw [F.n, F.rd, F.hs, F.2 30 (by decide), F.t (show (43 : Nat) ≠ 40 ∧ (43 : Nat) ≠ 52 ∧ (43 : Nat) ≠ 57 ∧ (43 : Nat) ≠ 58 ∧ (43 : Nat) ≠ 59 ∧ (43 : Nat) ≠ 60 ∧ (43 : Nat) ≠ 61 by decide), F.t (show (56 : Nat) ≠ 40 ∧ (56 : Nat) ≠ 52 ∧ (56 : Nat) ≠ 57 ∧ (56 : Nat) ≠ 58 ∧ (56 : Nat) ≠ 59 ∧ (56 : Nat) ≠ 60 ∧ (56 : Nat) ≠ 61 by decide), F.t (show (50 : Nat) ≠ 40 ∧ (50 : Nat) ≠ 52 ∧ (50 : Nat) ≠ 57 ∧ (50 : Nat) ≠ 58 ∧ (50 : Nat) ≠ 59 ∧ (50 : Nat) ≠ 60 ∧ (50 : Nat) ≠ 61 by decide)]
  exact H

/-! What a bill of the reference is: the class's functions over the reference's view. -/
def kRv (h : AH) : Nat → Int := kdV (nR h) (rAr h) (rFc h) (rKn h) (rRd h)
def uRv (h : AH) : Nat → Int := unV (nR h) (rAr h) (rFc h) (rKn h) (rRd h)
def sRv (h : AH) : Int := scV (nR h) (rAr h) (rKn h) (rRd h)
def fitR (h : AH) : Int := fitI (nR h) (kRv h) (rAr h) (sumF (nR h) (uRv h))
def ndR (h : AH) : Bool := ndB (nR h) (rHs h) (fun f => bdF (kRv h f) (rdR h f))
def bbR (h : AH) : Int := sumF (h 40 0 10).toNat (h 48 0) - h 40 0 13
def coR (h : AH) : Int := sumF (h 40 0 10).toNat (ncV (h 40 0 10).toNat (h 48 0) (h 49 0) (h 40 0 13)) + h 40 0 14
def p2R (h : AH) : Int := p2V (coR h) (waV (h 40 0 15) (h 40 0 16) (bbR h)) (bbR h)
def p3R (h : AH) : Int := p3V (coR h) (p2R h) (h 40 0 17)
def p4R (h : AH) : Int := coR h - p2R h - p3R h
def watR (h : AH) : Bool := anyF (nR h) (fun f => decide (0 < h 42 0 f))
def g1R (h : AH) : Int → Int → Int := if fitR h = 1 then gaM (kRv h) (rFc h) (uRv h) (sRv h) (rRd h) (h 50 0) else gaA (rAr h)
def g2R (h : AH) : Int → Int → Int := if watR h = true then gaA (fun f => h 42 0 f) else gaA (rAr h)
def otR (S : List SP) (Γ : Int → Int → Int) (n : Nat) (p : Int) (row : Nat) : Int := acR S.length (gvN S.length p (dT Γ n) (fun s => p * tlS Γ (qS S s))) (fun s => (qS S s).2.2.2) row
def rbR (h : AH) : Int := if h 40 0 1 = 0 ∨ ¬ (h 40 0 13 ≠ -1 ∧ 0 < bbR h) then -1 else if fitR h = 1 ∧ ndR h = true ∧ degF (h 50 0) 0 12 ≠ 100 then -1 else if fitR h = 1 then 0 else 2
theorem acR_congr {n : Nat} {G G' ho ho' : Nat → Int} (h1 : ∀ s, s < n → ho s = ho' s) (h2 : ∀ s, s < n → G s = G' s) (j : Nat) : acR n G ho j = acR n G' ho' j := by
  unfold acR
  exact sumF_congr fun s hs => by rw [h1 s hs, h2 s hs]
/-- row 0 of the class is row 20 of the reference, row j + 1 is row j -/
theorem ac_rows {n : Nat} {G ho : Nat → Int} (h : ∀ s, s < n → -1 ≤ ho s ∧ ho s < 20) : acF n G ho 0 = acR n G ho 20 ∧ ∀ j, j < 20 → acF n G ho (j + 1) = acR n G ho j := by
  refine ⟨sumF_congr fun s hs => ?_, fun j hj => sumF_congr fun s hs => ?_⟩
  · have z := h s hs
    unfold rowR
    by_cases c : ho s < 0
    · rw [if_pos c, if_pos (by omega), if_pos (by omega)]
    · rw [if_neg c, if_neg (by omega), if_neg (by omega)]
  · have z := h s hs
    unfold rowR
    by_cases c : ho s < 0
    · rw [if_pos c, if_neg (by omega), if_neg (by omega)]
    · rw [if_neg c]
      by_cases d : ho s = (j : Int)
      · rw [if_pos (by omega), if_pos (by omega)]
      · rw [if_neg (by omega), if_neg (by omega)]

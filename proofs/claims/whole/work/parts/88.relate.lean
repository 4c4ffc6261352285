/-! The relation between the class's heap and the reference's. -/
def cg (v : Int) : Int := if v = -2 then -5 else v
def RA (h : AH) : Prop := h 40 0 1 = h 2 0 1 ∧ (∀ f : Nat, f < nC h → h 41 0 f = h 4 f 0 ∧ h 42 0 f = h 4 f 1 ∧ h 43 0 f = h 4 f 2 ∧ h 46 0 f = h 4 f 3 ∧ h 47 0 f = h 4 f 4) ∧ (∀ f t : Nat, f < nC h → t < 13 → h 44 0 (13 * f + t) = h 5 f t) ∧ (∀ f t : Nat, f < nC h → t < 12 → h 45 0 (12 * f + t) = cg (h 6 f t)) ∧ (∀ f : Nat, nC h ≤ f → f < 6 → h 4 f 3 = -1 ∧ h 4 f 4 = -1) ∧ (∀ f t : Nat, nC h ≤ f → f < 6 → t < 13 → h 5 f t = -1) ∧ (∀ f t : Nat, nC h ≤ f → f < 6 → t < 12 → h 6 f t = -2)
def RB (h : AH) : Prop := h 40 0 9 = h 23 0 4 ∧ h 40 0 10 = h 7 0 2 ∧ h 48 0 = h 8 0 ∧ h 49 0 = h 9 0 ∧ h 40 0 13 = h 7 0 3 ∧ h 40 0 14 = h 1 0 8 ∧ h 40 0 15 = h 1 0 9 ∧ h 40 0 16 = h 1 0 10 ∧ h 40 0 17 = h 1 0 11 ∧ h 50 0 = h 29 0
def RP (h : AH) : Prop := h 53 0 = h 27 0 ∧ (∀ k : Nat, k < 20 → 0 ≤ h 27 0 k ∧ h 27 0 k ≤ 1000000) ∧ h 54 0 20 = h 28 0 0 ∧ h 55 0 20 = h 26 0 0 ∧ (∀ r : Nat, r < 20 → h 54 0 r = h 28 0 (r + 1) ∧ h 55 0 r = h 26 0 (r + 1)) ∧ (∀ r : Nat, r < 20 → h 23 0 4 ≤ (r : Int) → h 28 0 (r + 1) = 0 ∧ h 26 0 (r + 1) = 0) ∧ (∀ i j : Nat, i < 3 → j < 21 → 0 ≤ h 25 i j ∧ h 25 i j ≤ 20000000) ∧ (∀ j : Nat, j < 63 → 0 ≤ h 52 0 j ∧ h 52 0 j ≤ 20000000) ∧ (∀ j : Nat, j < 21 → 0 ≤ h 28 0 j ∧ h 28 0 j ≤ 60000000)
def RS (h : AH) : Prop := (∀ i : Nat, i < 3 → h 52 0 (60 + i) = h 25 i 0) ∧ (∀ r i : Nat, r < 20 → i < 3 → h 52 0 (3 * r + i) = h 25 i (r + 1)) ∧ ∀ r i : Nat, r < 20 → i < 3 → h 23 0 4 ≤ (r : Int) → h 25 i (r + 1) = 0
def RDb (h : AH) : Prop := h 40 0 19 = h 1 0 12 ∧ (h 1 0 12 = 0 ∨ h 1 0 12 = 1) ∧ (h 1 0 12 = 1 → billR h ≠ -1 ∧ (∀ k : Nat, k < 5 → h 51 0 k = h 30 0 k) ∧ RS h)
def RL (h : AH) : Prop := IC h ∧ RA h ∧ RB h ∧ RP h ∧ RDb h
theorem cg_hs (v : Int) : decide (cg v ≠ -5) = decide (v ≠ -2) ∨ v = -5 := by
  unfold cg
  by_cases c : v = -2
  · left; rw [if_pos c, c]; decide
  · rw [if_neg c]
    by_cases d : v = -5
    · exact Or.inr d
    · left; simp [c, d]
section VIEWS
variable {h : AH}
theorem RA.n (A : RA h) : nR h = nC h := by unfold nR nC; rw [A.1]
theorem RA.ve (A : RA h) : VE (nC h) (rAr h) (rFc h) (rKn h) (rRd h) (cAr h) (cFc h) (cKn h) (cRd h) := fun f hf =>
  ⟨(A.2.1 f hf).1, (A.2.1 f hf).2.2.1, (A.2.1 f hf).2.2.2.2, fun t ht => A.2.2.1 f t hf ht⟩
theorem RA.hs (I : IC h) (A : RA h) {f t : Nat} (hf : f < nC h) (ht : t < 12) : rHs h f t = cHs h f t ∧ (rHs h f t = true → rVl h f t = cVl h f t) := by
  have e := A.2.2.2.1 f t hf ht
  have hf6 : f < 6 := by have := I.1; unfold nC at hf; omega
  have z := I.2.2.2.2.2.2.1 f t hf6 ht
  unfold rHs cHs
  show decide (h 45 0 (12 * f + t) ≠ -5) = decide (h 6 f t ≠ -2) ∧ (decide (h 45 0 (12 * f + t) ≠ -5) = true → h 45 0 (12 * f + t) = h 6 f t)
  rw [e]
  refine ⟨?_, fun q => ?_⟩
  · rcases cg_hs (h 6 f t) with y | y
    · exact y
    · omega
  · unfold cg at q ⊢
    by_cases c : h 6 f t = -2
    · rw [if_pos c] at q; simp at q
    · rw [if_neg c]
theorem IR_of (I : IC h) (A : RA h) (B : RB h) : IR h := by
  obtain ⟨hc, hF, har, hwa, htn, hfh, hch, hL, hU, hs, hsd, hli, hga, hpm, hd⟩ := I
  have hn : nC h ≤ 6 := by unfold nC; omega
  obtain ⟨b1, b2, b3, b4, b5, b6, b7, b8, b9, b10⟩ := B
  unfold IR FIr
  rw [RA.n A, A.1, b1, b2, b3, b4, b5, b6, b7, b8, b9, b10]
  refine ⟨hc, fun f hf => ?_, fun f hf => by rw [(A.2.1 f hf).1]; exact har f hf, fun f hf => by rw [(A.2.1 f hf).2.1]; exact hwa f (by omega), htn, fun f hf => by rw [(A.2.1 f hf).2.2.2.1]; exact hfh f (by omega), fun f t hf ht => ?_, hL, hU, hs, hsd, hli, hga, hpm, hd⟩
  · obtain ⟨a1, a2, a3, a4⟩ := hF f (by omega)
    obtain ⟨v1, v2, v3, v4⟩ := A.ve f hf
    rw [v1, v2, v3]
    exact ⟨a1, a2, a3, fun t ht => by rw [v4 t ht]; exact a4 t ht⟩
  · rw [A.2.2.2.1 f t hf ht]
    have z := hch f t (by omega) ht
    unfold cg
    split <;> omega
theorem SR_SC (I : IC h) (A : RA h) : SR h (nR h) = SC h := by
  rw [RA.n A]
  exact spA_cg (fun f x hf hx => RA.hs I A hf hx) (fun f hf => (A.2.1 f hf).2.2.2.1)
theorem kd_eq (A : RA h) {f : Nat} (hf : f < nC h) : kRv h f = kC h f := by
  unfold kRv
  rw [RA.n A]
  exact kdV_cg A.ve hf
theorem un_eq (A : RA h) {f : Nat} (hf : f < nC h) : uRv h f = uC h f := by
  unfold uRv
  rw [RA.n A]
  exact unV_cg A.ve hf
theorem scl_eq (A : RA h) : sRv h = sC h := by
  unfold sRv
  rw [RA.n A]
  exact scV_cg A.ve
theorem fit_eq (A : RA h) : fitR h = fitC h := by
  unfold fitR
  rw [RA.n A]
  exact fitI_cg (fun f hf => kd_eq A hf) (fun f hf => (A.2.1 f hf).1) (sumF_congr fun f hf => un_eq A hf)
theorem nd_eq (I : IC h) (A : RA h) : ndR h = ndB (nC h) (cHs h) (bC h) := by
  unfold ndR
  rw [RA.n A]
  refine ndB_cg (fun f m hf hm => (RA.hs I A hf hm).1) (fun f m hf hm => ?_)
  exact bdF_cg (kd_eq A hf) (fun t ht => A.2.2.1 f t hf ht) (by omega)
theorem parts_eq (B : RB h) : bbR h = bbC h ∧ coR h = coC h ∧ p2R h = p2C h ∧ p3R h = p3C h ∧ p4R h = p4C h := by
  obtain ⟨b1, b2, b3, b4, b5, b6, b7, b8, b9, b10⟩ := B
  have e1 : bbR h = bbC h := by unfold bbR bbC; rw [b2, b3, b5]
  have e2 : coR h = coC h := by unfold coR coC; rw [b2, b3, b4, b5, b6]
  have e3 : p2R h = p2C h := by unfold p2R p2C; rw [e1, e2, b7, b8]
  have e4 : p3R h = p3C h := by unfold p3R p3C; rw [e2, e3, b9]
  exact ⟨e1, e2, e3, e4, by unfold p4R p4C; rw [e2, e3, e4]⟩
theorem bill_eq (I : IC h) (A : RA h) (B : RB h) : rbR h = billR h := by
  have p := parts_eq B
  have ed : h 50 0 = h 29 0 := B.2.2.2.2.2.2.2.2.2
  unfold rbR billR
  rw [A.1, B.2.2.2.2.1, p.1, fit_eq A, nd_eq I A, ed]
theorem wat_eq (A : RA h) : watR h = watC h := by
  unfold watR watC
  rw [RA.n A]
  exact anyF_cg fun f hf => by show decide (0 < h 42 0 f) = decide (0 < h 4 f 1); rw [(A.2.1 f hf).2.1]
theorem g0_eq (A : RA h) : ∀ f : Nat, f < nC h → ∀ x : Int, 0 ≤ x → x ≤ 12 → gaA (rAr h) f x = gaA (cAr h) f x := fun f hf x _ _ => by
  unfold gaA
  rw [Int.toNat_natCast]
  show h 41 0 f * x = h 4 f 0 * x
  rw [(A.2.1 f hf).1]
theorem g1_eq (A : RA h) (B : RB h) : ∀ f : Nat, f < nC h → ∀ x : Int, 0 ≤ x → x ≤ 12 → g1R h f x = g1C h f x := fun f hf x h0 h1 => by
  have ed : h 50 0 = h 29 0 := B.2.2.2.2.2.2.2.2.2
  unfold g1R g1C
  rw [fit_eq A, ed]
  by_cases c : fitC h = 1
  · rw [if_pos c, if_pos c]
    exact gaM_cg (kd_eq A hf) (A.2.1 f hf).2.2.1 (un_eq A hf) (scl_eq A) (fun t ht => A.2.2.1 f t hf ht) h1
  · rw [if_neg c, if_neg c]
    exact g0_eq A f hf x h0 h1
theorem g2_eq (A : RA h) : ∀ f : Nat, f < nC h → ∀ x : Int, 0 ≤ x → x ≤ 12 → g2R h f x = g2C h f x := fun f hf x h0 h1 => by
  unfold g2R g2C
  rw [wat_eq A]
  by_cases c : watC h = true
  · rw [if_pos c, if_pos c]
    unfold gaA
    rw [Int.toNat_natCast]
    show h 42 0 f * x = h 4 f 1 * x
    rw [(A.2.1 f hf).2.1]
  · rw [if_neg c, if_neg c]
    exact g0_eq A f hf x h0 h1
/-- a row of the reference's shares is a row of the class's -/
theorem ot_eq (I : IC h) (A : RA h) {Γ Γ' : Int → Int → Int} {p : Int} (hΓ : ∀ f : Nat, f < nC h → ∀ x : Int, 0 ≤ x → x ≤ 12 → Γ f x = Γ' f x) : otR (SR h (nR h)) Γ (nR h) p 20 = outF (SC h) Γ' (nC h) p 0 ∧ (∀ r, r < 20 → otR (SR h (nR h)) Γ (nR h) p r = outF (SC h) Γ' (nC h) p (r + 1)) ∧ ∀ r : Nat, h 23 0 4 ≤ (r : Int) → outF (SC h) Γ' (nC h) p (r + 1) = 0 := by
  have e : ∀ j, outF (SC h) Γ (nC h) p j = outF (SC h) Γ' (nC h) p j := fun j => outF_cg hΓ j
  have t20 := I.2.2.2.2.1
  have ho : ∀ s, s < (SC h).length → -1 ≤ (qS (SC h) s).2.2.2 ∧ (qS (SC h) s).2.2.2 < h 23 0 4 := fun s hs => by
    obtain ⟨f, _, _, _, _, _, z⟩ := SC_mem I hs
    exact z
  have rw1 := out_rows (S := SC h) (Γ := Γ) (n := nC h) (p := p) (fun s hs => by have := ho s hs; omega)
  rw [SR_SC I A, RA.n A]
  exact ⟨by rw [← rw1.1]; exact e 0, fun r hr => by rw [← rw1.2 r hr]; exact e _, fun r hr => out_zero ho hr⟩
theorem SC_len1 (hn : 1 ≤ nC h) : 1 ≤ (SC h).length := spA_pos hn
end VIEWS

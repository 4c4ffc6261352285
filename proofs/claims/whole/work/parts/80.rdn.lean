/-! What share wants, by area and by meters, over the one denominator. -/
section RDN
variable {hs : Nat → Nat → Bool} {vl : Nat → Nat → Int} {fh : Nat → Int} {n : Nat} {p : Int}
theorem tl_sum (Γ : Int → Int → Int) : sumF (spA hs vl fh n).length (fun s => p * tlS Γ (qS (spA hs vl fh n) s)) = p * dT Γ n := by
  rw [sumF_mul, sumF_S, tl_spA]
  rfl
theorem tl_le {Γ : Int → Int → Int} (hp : 0 ≤ p) (hΓ : ∀ s, s < (spA hs vl fh n).length → 0 ≤ tlS Γ (qS (spA hs vl fh n) s)) {s : Nat} (h : s < (spA hs vl fh n).length) : 0 ≤ p * tlS Γ (qS (spA hs vl fh n) s) ∧ p * tlS Γ (qS (spA hs vl fh n) s) ≤ p * dT Γ n := by
  have e : sumF (spA hs vl fh n).length (fun s => tlS Γ (qS (spA hs vl fh n) s)) = dT Γ n := by rw [sumF_S, tl_spA]; rfl
  have z := sumF_one (g := fun s => tlS Γ (qS (spA hs vl fh n) s)) hΓ h
  rw [e] at z
  exact ⟨Int.mul_nonneg hp (hΓ s h), Int.mul_le_mul_of_nonneg_left z hp⟩
theorem area_ok {ar : Nat → Int} (hn : n ≤ 6) (hp : 0 ≤ p ∧ p ≤ 260000) (har : ∀ f, f < n → 0 ≤ ar f ∧ ar f ≤ 50) (hpos : 0 < sumF n ar) :
    0 < dT (gaA ar) n ∧ (∀ s : Nat, s < (spA hs vl fh n).length → 0 ≤ p * tlS (gaA ar) (qS (spA hs vl fh n) s) ∧ p * tlS (gaA ar) (qS (spA hs vl fh n) s) ≤ p * dT (gaA ar) n) ∧ ∀ s : Nat, s < (spA hs vl fh n).length → ∀ x y : Int, (x = p * ar (qS (spA hs vl fh n) s).1.toNat * ((qS (spA hs vl fh n) s).2.2.1 - (qS (spA hs vl fh n) s).2.1) ∧ y = 12 * sumF n ar) → (0 ≤ x ∧ x ≤ 1000000000000000000) ∧ (1 ≤ y ∧ y ≤ 10000000000000) ∧ x * dT (gaA ar) n = p * tlS (gaA ar) (qS (spA hs vl fh n) s) * y := by
  have d := dT_A ar n
  have b := sumF_bd (g := ar) (L := 0) (M := 50) (n := n) har
  have tb : ∀ s, s < (spA hs vl fh n).length → 0 ≤ tlS (gaA ar) (qS (spA hs vl fh n) s) ∧ tlS (gaA ar) (qS (spA hs vl fh n) s) ≤ 600 := by
    intro s h
    obtain ⟨f, hf, e1, e2, _⟩ := mem_spA (qS_mem h)
    rw [tl_A, e1, Int.toNat_natCast]
    have := mulN (A := 50) (B := 12) (a := ar f) (b := (qS (spA hs vl fh n) s).2.2.1 - (qS (spA hs vl fh n) s).2.1) (har f hf) (by omega)
    omega
  refine ⟨by omega, fun s h => tl_le hp.1 (fun j hj => (tb j hj).1) h, fun s h x y hxy => ?_⟩
  have t1 := tb s h
  have ex : x = p * tlS (gaA ar) (qS (spA hs vl fh n) s) := by rw [hxy.1, tl_A, Int.mul_assoc]
  have m := mulN (A := 260000) (B := 600) (a := p) (b := tlS (gaA ar) (qS (spA hs vl fh n) s)) hp t1
  rw [ex, d, ← hxy.2]
  exact ⟨by omega, by omega, rfl⟩
theorem meter_ok {kd fc un td dg : Nat → Int} {sc be K : Int} {rd : Nat → Nat → Int} (hn : n ≤ 6) (hp : 0 ≤ p ∧ p ≤ 260000) (hd : ∀ k : Nat, k < 12 → 0 ≤ dg k ∧ dg k ≤ 100) (hK : 1 ≤ K) (hs' : sc = K * be) (hu : ∀ f, f < n → un f = K * td f) (M : ∀ f, f < n → MOK (kd f) (fc f) sc (un f) (rd f)) (M' : ∀ f, f < n → MOK (kd f) (fc f) be (td f) (rd f)) (hpos : 0 < sumF n td) :
    0 < dT (gaM kd fc un sc rd dg) n ∧ (∀ s : Nat, s < (spA hs vl fh n).length → 0 ≤ p * tlS (gaM kd fc un sc rd dg) (qS (spA hs vl fh n) s) ∧ p * tlS (gaM kd fc un sc rd dg) (qS (spA hs vl fh n) s) ≤ p * dT (gaM kd fc un sc rd dg) n) ∧ ∀ s f : Nat, s < (spA hs vl fh n).length → f < n → (qS (spA hs vl fh n) s).1 = (f : Int) → ∀ X Y : Int, (1 ≤ Y ∧ Y ≤ 10000) → 0 ≤ X → X ≤ td f * Y → FF * X = Y * (GA (bdF (kd f) (rd f)) (VF (kd f) (fc f) be (td f) (rd f)) dg (qS (spA hs vl fh n) s).2.2.1.toNat - GA (bdF (kd f) (rd f)) (VF (kd f) (fc f) be (td f) (rd f)) dg (qS (spA hs vl fh n) s).2.1.toNat) → (0 ≤ p * X ∧ p * X ≤ 1000000000000000000) ∧ (1 ≤ sumF n td * Y ∧ sumF n td * Y ≤ 10000000000000) ∧ p * X * dT (gaM kd fc un sc rd dg) n = p * tlS (gaM kd fc un sc rd dg) (qS (spA hs vl fh n) s) * (sumF n td * Y) := by
  have f0 := FF_pos
  have d := dT_M hd M
  have eu : sumF n un = K * sumF n td := by rw [← sumF_mul]; exact sumF_congr fun f hf => hu f hf
  have ub := sumF_bd (g := td) (L := 0) (M := 72000000) (n := n) (fun f hf => (M' f hf).2.1)
  have hun : 0 < sumF n un := by rw [eu]; exact Int.mul_pos (by omega) hpos
  have tl : ∀ (s f : Nat), s < (spA hs vl fh n).length → f < n → (qS (spA hs vl fh n) s).1 = (f : Int) → tlS (gaM kd fc un sc rd dg) (qS (spA hs vl fh n) s) = K * (GA (bdF (kd f) (rd f)) (VF (kd f) (fc f) be (td f) (rd f)) dg (qS (spA hs vl fh n) s).2.2.1.toNat - GA (bdF (kd f) (rd f)) (VF (kd f) (fc f) be (td f) (rd f)) dg (qS (spA hs vl fh n) s).2.1.toNat) := by
    intro s f h hf e
    unfold tlS
    rw [e, gaM_scale hs' (hu f hf), gaM_scale hs' (hu f hf), Int.mul_sub]
  refine ⟨by rw [d]; exact Int.mul_pos f0 hun, fun s h => tl_le hp.1 (fun j hj => ?_) h, fun s f h hf e X Y hY hX hX2 hXY => ?_⟩
  · obtain ⟨f, hf, e1, e2, _⟩ := mem_spA (qS_mem hj)
    rw [tl j f hj hf e1]
    exact Int.mul_nonneg (by omega) (GA_rng (M' f hf) hd (by omega) (by omega)).1
  · have m1 := (M' f hf).2.1
    have m2 := mulN (A := 72000000) (B := 10000) (a := td f) (b := Y) m1 (by omega)
    have m3 := mulN (A := 260000) (B := 720000000000) (a := p) (b := X) hp (by omega)
    have m4 := mulN (A := 432000000) (B := 10000) (a := sumF n td) (b := Y) (by omega) (by omega)
    have m5 := Int.mul_pos hpos (show 0 < Y by omega)
    refine ⟨by omega, by omega, ?_⟩
    rw [tl s f h hf e, d, eu, show p * X * (FF * (K * sumF n td)) = p * (FF * X) * (K * sumF n td) by ac_rfl, hXY]
    ac_rfl
end RDN

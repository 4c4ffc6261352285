/-! What a flat's units come to, in the class's and in the reference's measure. -/
theorem VF_scale (k fc K be td : Int) (r : Nat → Int) (b : Nat) : VF k fc (K * be) (K * td) r b = K * VF k fc be td r b := by
  unfold VF
  split
  · ac_rfl
  · split
    · rfl
    · rw [Int.mul_zero]
theorem GA_scale (bd : Nat → Bool) (V V' : Nat → Int) (dg : Nat → Int) (K : Int) (h : ∀ b, V b = K * V' b) : ∀ t, GA bd V dg t = K * GA bd V' dg t := by
  intro t
  induction t with
  | zero => show (0 : Int) = K * 0; rw [Int.mul_zero]
  | succ t ih =>
    show GA bd V dg t + (V (nxB bd (12 - t) t) - V (lsB bd t)) * _ = K * (GA bd V' dg t + (V' (nxB bd (12 - t) t) - V' (lsB bd t)) * _)
    rw [ih, h, h, ← Int.mul_sub, Int.mul_add, Int.mul_assoc]
theorem gaM_scale {kd fc un td : Nat → Int} {sc be K : Int} {rd : Nat → Nat → Int} {dg : Nat → Int} (hs : sc = K * be) {f : Nat} (hu : un f = K * td f) (x : Int) : gaM kd fc un sc rd dg (f : Int) x = K * GA (bdF (kd f) (rd f)) (VF (kd f) (fc f) be (td f) (rd f)) dg x.toNat := by
  unfold gaM
  rw [Int.toNat_natCast, hs, hu]
  exact GA_scale _ _ _ _ K (fun b => VF_scale _ _ _ _ _ _ b) _
/-- the reference's meters are in order -/
theorem tR_mok {n : Nat} {ar fc kn : Nat → Int} {rd : Nat → Nat → Int} (H : FIv n ar fc kn rd) (hn : n ≤ 6) (ha : ∀ f, f < n → 1 ≤ ar f) {f : Nat} (hf : f < n) : MOK (kdW n fc kn rd f) (fc f) (beV n ar fc kn rd) (tdV n ar fc kn rd f) (rd f) ∧ tdV n ar fc kn rd f ≤ 200 * beV n ar fc kn rd := by
  obtain ⟨a1, a2, a3, a4⟩ := H f hf
  have be1 := beV_pos H hn ha
  have be2 := beV_bd H hn
  have k0 : kdW n fc kn rd f = 0 → rdI (rd f) = 1 := fun z => kdS_0.mp z
  have on1 := onV_bd H hn
  have tw1 := twV_bd H hn
  have pu := puV_bd H hn
  have ru := ruV_bd H hn
  have bds : 0 ≤ tdV n ar fc kn rd f ∧ tdV n ar fc kn rd f ≤ 200 * beV n ar fc kn rd := by
    unfold tdV tdS vS
    by_cases c0 : kdW n fc kn rd f = 0
    · have m := mU_bd (k0 c0) a4 a2
      rw [if_neg (fun z => z.1 c0), if_pos c0]
      exact ⟨Int.mul_nonneg m.1 (by omega), Int.mul_le_mul_of_nonneg_right m.2 (by omega)⟩
    · by_cases c1 : kdW n fc kn rd f = 1
      · have kp : 0 ≤ kn f := by
          unfold kdW kdS at c1
          split at c1
          · cases c1
          · split at c1
            · rename_i y; omega
            · split at c1 <;> cases c1
        have p1 : 0 ≤ twV n ar rd * kn f * puV n fc kn rd := Int.mul_nonneg (Int.mul_nonneg tw1.1 kp) pu.1
        rw [if_neg c0, if_pos c1]
        split <;> omega
      · by_cases c2 : kdW n fc kn rd f = 2
        · have p1 : 0 ≤ onV n fc kn rd * ar f * ruV n fc rd := Int.mul_nonneg (Int.mul_nonneg (by omega) a1.1) ru.1
          rw [if_neg c0, if_neg c1, if_pos c2]
          split <;> omega
        · rw [if_neg c0, if_neg c1, if_neg c2]
          split <;> omega
  refine ⟨⟨fun z => ⟨k0 z, ?_⟩, ⟨bds.1, by omega⟩, a2.1, by omega⟩, bds.2⟩
  unfold tdV tdS vS
  rw [if_neg (fun y => y.1 z), if_pos z]

/-! The reference's view: its denominators, how far its numbers go. -/
theorem sumF_pos {g : Nat → Int} : ∀ {n : Nat}, (∀ k, k < n → 0 ≤ g k) → (∃ k, k < n ∧ 0 < g k) → 0 < sumF n g := by
  intro n h1 h2
  obtain ⟨k, hk, hg⟩ := h2
  have := sumF_one h1 hk
  omega
theorem rc_ra {n : Nat} {ar : Nat → Int} {rd : Nat → Nat → Int} (ha : ∀ f, f < n → 1 ≤ ar f) : 0 < rcV n rd → 0 < raV n ar rd := by
  intro h
  unfold rcV at h
  have ex : ∃ k, k < n ∧ rdI (rd k) = 1 := by
    by_cases c : ∃ k, k < n ∧ rdI (rd k) = 1
    · exact c
    · exfalso
      have e : sumF n (rcG rd) = sumF n (fun _ => 0) := sumF_congr fun k hk => by
        unfold rcG
        rw [if_neg (fun z => c ⟨k, hk, z⟩)]
      have z0 : ∀ m, sumF m (fun _ => (0 : Int)) = 0 := by
        intro m
        induction m with
        | zero => rfl
        | succ m ih => rw [sumF_succ, ih]; rfl
      rw [e, z0] at h
      omega
  obtain ⟨k, hk, hr⟩ := ex
  unfold raV
  refine sumF_pos (fun j hj => ?_) ⟨k, hk, ?_⟩
  · unfold raG
    have := ha j hj
    split <;> omega
  · unfold raG
    rw [if_pos hr]
    have := ha k hk
    omega
theorem ra_rc {n : Nat} {ar : Nat → Int} {rd : Nat → Nat → Int} : 0 < raV n ar rd → 0 < rcV n rd := by
  intro h
  unfold rcV
  by_cases c : ∃ k, k < n ∧ rdI (rd k) = 1
  · obtain ⟨k, hk, hr⟩ := c
    refine sumF_pos (fun j hj => ?_) ⟨k, hk, ?_⟩
    · unfold rcG; split <;> omega
    · unfold rcG; rw [if_pos hr]; omega
  · exfalso
    have e : sumF n (raG ar rd) = sumF n (fun _ => 0) := sumF_congr fun k hk => by
      unfold raG
      rw [if_neg (fun z => c ⟨k, hk, z⟩)]
    have z0 : ∀ m, sumF m (fun _ => (0 : Int)) = 0 := by
      intro m
      induction m with
      | zero => rfl
      | succ m ih => rw [sumF_succ, ih]; rfl
    unfold raV at h
    rw [e, z0] at h
    omega
/-- the two ways of taking a meter are one -/
theorem kdW_V {n : Nat} {ar fc kn : Nat → Int} {rd : Nat → Nat → Int} (ha : ∀ f, f < n → 1 ≤ ar f) (f : Nat) : kdW n fc kn rd f = kdV n ar fc kn rd f := by
  unfold kdW kdV kdS
  by_cases c : rdI (rd f) = 1
  · rw [if_pos c, if_pos c]
  · rw [if_neg c, if_neg c]
    by_cases d : kn f ≠ -1 ∧ 0 < puV n fc kn rd ∧ 0 < plV n kn rd
    · rw [if_pos d, if_pos d]
    · rw [if_neg d, if_neg d]
      by_cases e : 0 < raV n ar rd
      · rw [if_pos e, if_pos (ra_rc e)]
      · rw [if_neg e, if_neg (fun z => e (rc_ra ha z))]
theorem twV_lk {n : Nat} {ar : Nat → Int} {rd : Nat → Nat → Int} (ha : ∀ f, f < n → 1 ≤ ar f) : twV n ar rd = lkV n ar rd := by
  unfold twV lkV or1
  by_cases e : 0 < raV n ar rd
  · rw [if_pos e, if_pos (ra_rc e)]
  · rw [if_neg e, if_neg (fun z => e (rc_ra ha z))]
theorem beV_pos {n : Nat} {ar fc kn : Nat → Int} {rd : Nat → Nat → Int} (H : FIv n ar fc kn rd) (hn : n ≤ 6) (ha : ∀ f, f < n → 1 ≤ ar f) : 1 ≤ beV n ar fc kn rd := by
  have h1 := onV_bd H hn
  have h2 := lkV_bd H hn
  unfold beV
  rw [twV_lk ha]
  have := Int.mul_le_mul h1.1 h2.1 (by omega) (by omega)
  omega
/-- how many times finer the class's denominator is -/
def KK (n : Nat) (fc kn : Nat → Int) (rd : Nat → Nat → Int) : Int := if 0 < plV n kn rd ∧ ¬ 0 < puV n fc kn rd then plV n kn rd else 1
theorem ls_on {n : Nat} {fc kn : Nat → Int} {rd : Nat → Nat → Int} : lsV n kn rd = KK n fc kn rd * onV n fc kn rd := by
  unfold lsV or1 KK onV
  by_cases a : 0 < plV n kn rd
  · by_cases b : 0 < puV n fc kn rd
    · rw [if_pos a, if_neg (fun z => z.2 b), if_pos ⟨a, b⟩, Int.one_mul]
    · rw [if_pos a, if_pos ⟨a, b⟩, if_neg (fun z => b z.2), Int.mul_one]
  · rw [if_neg a, if_neg (fun z => a z.1), if_neg (fun z => a z.1), Int.one_mul]
theorem sc_be {n : Nat} {ar fc kn : Nat → Int} {rd : Nat → Nat → Int} (ha : ∀ f, f < n → 1 ≤ ar f) : scV n ar kn rd = KK n fc kn rd * beV n ar fc kn rd := by
  unfold scV beV
  rw [ls_on (fc := fc), twV_lk ha, Int.mul_assoc]
theorem KK_pos {n : Nat} {fc kn : Nat → Int} {rd : Nat → Nat → Int} : 1 ≤ KK n fc kn rd := by
  unfold KK; split <;> omega
/-- the class's units are KK times the reference's -/
theorem un_td {n : Nat} {ar fc kn : Nat → Int} {rd : Nat → Nat → Int} (ha : ∀ f, f < n → 1 ≤ ar f) (f : Nat) : unV n ar fc kn rd f = KK n fc kn rd * tdV n ar fc kn rd f := by
  have hK := KK_pos (n := n) (fc := fc) (kn := kn) (rd := rd)
  have sb := sc_be (fc := fc) (kn := kn) (rd := rd) ha
  have lo := ls_on (n := n) (fc := fc) (kn := kn) (rd := rd)
  have tw := twV_lk (rd := rd) ha
  unfold unV tdV
  rw [kdW_V ha, sb, lo, ← tw]
  unfold unS tdS vS mn
  by_cases k0 : kdV n ar fc kn rd f = 0
  · rw [if_pos k0, if_neg (fun z => z.1 k0), if_pos k0]; ac_rfl
  · rw [if_neg k0]
    have cmp : ∀ {a b : Int}, (KK n fc kn rd * a < KK n fc kn rd * b ↔ a < b) := fun {a b} => ⟨fun z => Int.lt_of_mul_lt_mul_left z (by omega), fun z => Int.mul_lt_mul_of_pos_left z (by omega)⟩
    by_cases k1 : kdV n ar fc kn rd f = 1
    · have hp : 0 < puV n fc kn rd := by
        unfold kdV kdS at k1
        split at k1
        · cases k1
        · split at k1
          · rename_i y; exact y.2.1
          · split at k1 <;> cases k1
      have K1 : KK n fc kn rd = 1 := by unfold KK; rw [if_neg (fun z => z.2 hp)]
      rw [if_pos k1, if_neg k0, if_pos k1, K1, Int.one_mul, Int.one_mul]
      have e : kn f * puV n fc kn rd * twV n ar rd = twV n ar rd * kn f * puV n fc kn rd := by ac_rfl
      rw [e]
      by_cases c : 200 * beV n ar fc kn rd < twV n ar rd * kn f * puV n fc kn rd
      · rw [if_neg (show ¬ twV n ar rd * kn f * puV n fc kn rd < 200 * beV n ar fc kn rd by omega), if_pos (show kdV n ar fc kn rd f ≠ 0 ∧ 200 * beV n ar fc kn rd < twV n ar rd * kn f * puV n fc kn rd from ⟨k0, c⟩)]
      · rw [if_neg (show ¬ (kdV n ar fc kn rd f ≠ 0 ∧ 200 * beV n ar fc kn rd < twV n ar rd * kn f * puV n fc kn rd) from fun z => c z.2)]
        split <;> omega
    · rw [if_neg k1]
      by_cases k2 : kdV n ar fc kn rd f = 2
      · rw [if_pos k2, if_neg k0, if_neg k1, if_pos k2]
        have e : ar f * ruV n fc rd * (KK n fc kn rd * onV n fc kn rd) = KK n fc kn rd * (onV n fc kn rd * ar f * ruV n fc rd) := by ac_rfl
        have e2 : 200 * (KK n fc kn rd * beV n ar fc kn rd) = KK n fc kn rd * (200 * beV n ar fc kn rd) := by ac_rfl
        rw [e, e2]
        generalize onV n fc kn rd * ar f * ruV n fc rd = X at *
        generalize 200 * beV n ar fc kn rd = Y at *
        by_cases c : Y < X
        · rw [if_neg (show ¬ KK n fc kn rd * X < KK n fc kn rd * Y from fun z => by have := cmp.mp z; omega), if_pos (show kdV n ar fc kn rd f ≠ 0 ∧ Y < X from ⟨k0, c⟩)]
        · rw [if_neg (show ¬ (kdV n ar fc kn rd f ≠ 0 ∧ Y < X) from fun z => c z.2)]
          by_cases d : X < Y
          · rw [if_pos (cmp.mpr d)]
          · rw [if_neg (show ¬ KK n fc kn rd * X < KK n fc kn rd * Y from fun z => d (cmp.mp z)), show X = Y by omega]
      · have on0 : 0 ≤ onV n fc kn rd := by unfold onV; split <;> omega
        have tw0 : 0 ≤ twV n ar rd := by rw [tw]; unfold lkV or1; split <;> omega
        have be0 : 0 ≤ beV n ar fc kn rd := Int.mul_nonneg on0 tw0
        rw [if_neg k2, if_neg k0, if_neg k1, if_neg k2, if_neg (show ¬ (kdV n ar fc kn rd f ≠ 0 ∧ 200 * beV n ar fc kn rd < 0) from fun z => by omega), Int.mul_zero]

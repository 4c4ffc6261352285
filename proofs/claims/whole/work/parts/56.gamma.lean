/-! What a flat's units come to until month x, over one denominator. -/
def FF : Int := 69720375229712477164533808935312303556800
theorem FF_pos : 0 < FF := by decide +kernel
theorem FF_dvd0 : ∀ a : Fin 100, FF % ((a.val : Int) + 1) = 0 := by decide +kernel
theorem FF_dvd {a : Int} (h1 : 1 ≤ a) (h2 : a ≤ 100) : a * (FF / a) = FF := by
  have h := FF_dvd0 ⟨(a - 1).toNat, by omega⟩
  have e : (((a - 1).toNat : Nat) : Int) + 1 = a := by omega
  simp only at h
  rw [e] at h
  exact Int.mul_ediv_cancel' (Int.dvd_of_emod_eq_zero h)
def lsB (bd : Nat → Bool) (t : Nat) : Nat := match t with
  | 0 => 0
  | t + 1 => if bd (t + 1) = true then t + 1 else lsB bd t
def nxB (bd : Nat → Bool) (k t : Nat) : Nat := match k with
  | 0 => t
  | k + 1 => if bd (t + 1) = true then t + 1 else nxB bd k (t + 1)
/-- s to e is a stretch -/
def isSt (bd : Nat → Bool) (s e : Nat) : Prop := (s = 0 ∨ bd s = true) ∧ s < e ∧ e ≤ 12 ∧ bd e = true ∧ ∀ x, s < x → x < e → bd x = false
theorem lsB_le (bd : Nat → Bool) : ∀ t, lsB bd t ≤ t := by
  intro t
  induction t with
  | zero => exact Nat.le_refl _
  | succ t ih => unfold lsB; split <;> omega
theorem lsB_bd (bd : Nat → Bool) : ∀ t, lsB bd t = 0 ∨ bd (lsB bd t) = true := by
  intro t
  induction t with
  | zero => exact Or.inl rfl
  | succ t ih =>
    unfold lsB; split
    · rename_i z; exact Or.inr z
    · exact ih
theorem lsB_no (bd : Nat → Bool) : ∀ t x, lsB bd t < x → x ≤ t → bd x = false := by
  intro t
  induction t with
  | zero => intro x h1 h2; unfold lsB at h1; omega
  | succ t ih =>
    intro x h1 h2
    unfold lsB at h1
    split at h1
    · omega
    · rename_i z
      by_cases e : x = t + 1
      · subst e; simpa using z
      · exact ih x h1 (by omega)
theorem lsB_at {bd : Nat → Bool} {s : Nat} (hs : s = 0 ∨ bd s = true) : ∀ t, s ≤ t → (∀ x, s < x → x ≤ t → bd x = false) → lsB bd t = s := by
  intro t
  induction t with
  | zero => intro h _; unfold lsB; omega
  | succ t ih =>
    intro h1 h2
    unfold lsB
    by_cases e : s = t + 1
    · subst e
      rcases hs with z | z
      · omega
      · rw [if_pos z]
    · rw [if_neg (by rw [h2 (t + 1) (by omega) (by omega)]; decide)]
      exact ih (by omega) fun x h3 h4 => h2 x h3 (by omega)
theorem nxB_at {bd : Nat → Bool} {e : Nat} (he : bd e = true) : ∀ k t, t < e → e ≤ t + k → (∀ x, t < x → x < e → bd x = false) → nxB bd k t = e := by
  intro k
  induction k with
  | zero => intro t h1 h2 _; omega
  | succ k ih =>
    intro t h1 h2 h3
    unfold nxB
    by_cases z : t + 1 = e
    · rw [if_pos (by rw [z]; exact he)]; exact z
    · rw [if_neg (by rw [h3 (t + 1) (by omega) (by omega)]; decide)]
      exact ih (t + 1) (by omega) (by omega) fun x h4 h5 => h3 x (by omega) h5
theorem nxB_ex {bd : Nat → Bool} (h12 : bd 12 = true) : ∀ k t, t + k = 12 → 1 ≤ k → t < nxB bd k t ∧ nxB bd k t ≤ 12 ∧ bd (nxB bd k t) = true ∧ ∀ x, t < x → x < nxB bd k t → bd x = false := by
  intro k
  induction k with
  | zero => intro t _ h; omega
  | succ k ih =>
    intro t h1 h2
    unfold nxB
    by_cases z : bd (t + 1) = true
    · rw [if_pos z]; exact ⟨by omega, by omega, z, fun x h3 h4 => by omega⟩
    · rw [if_neg z]
      by_cases k0 : k = 0
      · have : t + 1 = 12 := by omega
        rw [this] at z; exact absurd h12 z
      · have y := ih (t + 1) (by omega) (by omega)
        refine ⟨by omega, y.2.1, y.2.2.1, fun x h3 h4 => ?_⟩
        by_cases e : x = t + 1
        · subst e; simpa using z
        · exact y.2.2.2 x (by omega) h4
theorem isSt_at {bd : Nat → Bool} (h12 : bd 12 = true) {t : Nat} (ht : t < 12) : isSt bd (lsB bd t) (nxB bd (12 - t) t) ∧ t < nxB bd (12 - t) t := by
  have y := nxB_ex h12 (12 - t) t (by omega) (by omega)
  have l := lsB_le bd t
  refine ⟨⟨lsB_bd bd t, by omega, y.2.1, y.2.2.1, fun x h1 h2 => ?_⟩, y.1⟩
  by_cases z : x ≤ t
  · exact lsB_no bd t x h1 z
  · exact y.2.2.2 x (by omega) h2
theorem isSt_of {bd : Nat → Bool} {s e : Nat} (H : isSt bd s e) {t : Nat} (h1 : s ≤ t) (h2 : t < e) : lsB bd t = s ∧ nxB bd (12 - t) t = e := by
  obtain ⟨a, b, c, d, f⟩ := H
  exact ⟨lsB_at a t h1 fun x h3 h4 => f x h3 (by omega), nxB_at d (12 - t) t h2 (by omega) fun x h3 h4 => f x (by omega) h4⟩
def muF (dg : Nat → Int) (s e x : Nat) : Int := if degF dg s e = 0 then (x : Int) else sumF x dg
def alN (dg : Nat → Int) (s e : Nat) : Int := muF dg s e e - muF dg s e s
def psF (dg : Nat → Int) (s e x : Nat) : Int := if alN dg s e ≤ 100 then FF / alN dg s e * (muF dg s e x - muF dg s e s) else if x = e then FF else 0
def GA (bd : Nat → Bool) (V : Nat → Int) (dg : Nat → Int) (t : Nat) : Int := match t with
  | 0 => 0
  | t + 1 => GA bd V dg t + (V (nxB bd (12 - t) t) - V (lsB bd t)) * (psF dg (lsB bd t) (nxB bd (12 - t) t) (t + 1) - psF dg (lsB bd t) (nxB bd (12 - t) t) t)
section GAM
variable {bd : Nat → Bool} {V dg : Nat → Int}
theorem mu_mono (hd : ∀ k : Nat, k < 12 → 0 ≤ dg k ∧ dg k ≤ 100) (s e : Nat) {x y : Nat} (h1 : x ≤ y) (h2 : y ≤ 12) : muF dg s e x ≤ muF dg s e y := by
  unfold muF
  split
  · omega
  · have z := degF_bd hd h1 h2
    unfold degF at z; omega
theorem al_pos (hd : ∀ k : Nat, k < 12 → 0 ≤ dg k ∧ dg k ≤ 100) {s e : Nat} (h1 : s < e) (h2 : e ≤ 12) : 1 ≤ alN dg s e := by
  have z := degF_bd hd (Nat.le_of_lt h1) h2
  unfold alN muF
  by_cases q : degF dg s e = 0
  · rw [if_pos q, if_pos q]; omega
  · rw [if_neg q, if_neg q]; unfold degF at *; omega
theorem ps_s (dg : Nat → Int) {s e : Nat} (h : s < e) : psF dg s e s = 0 := by
  unfold psF; split
  · rw [Int.sub_self, Int.mul_zero]
  · rw [if_neg (by omega)]
theorem ps_e (hd : ∀ k : Nat, k < 12 → 0 ≤ dg k ∧ dg k ≤ 100) {s e : Nat} (h1 : s < e) (h2 : e ≤ 12) : psF dg s e e = FF := by
  unfold psF; split
  · rename_i z
    show FF / alN dg s e * alN dg s e = FF
    rw [Int.mul_comm]; exact FF_dvd (al_pos hd h1 h2) z
  · rw [if_pos rfl]
theorem ps_mono (hd : ∀ k : Nat, k < 12 → 0 ≤ dg k ∧ dg k ≤ 100) {s e x y : Nat} (h1 : s < e) (h2 : e ≤ 12) (h3 : x ≤ y) (h4 : y ≤ e) : psF dg s e x ≤ psF dg s e y := by
  have a1 := al_pos hd h1 h2
  have f0 := FF_pos
  unfold psF; split
  · have m := mu_mono hd s e h3 (show y ≤ 12 by omega)
    exact Int.mul_le_mul_of_nonneg_left (by omega) (Int.ediv_nonneg (by omega) (by omega))
  · by_cases q : x = e
    · rw [if_pos q, if_pos (by omega)]; exact Int.le_refl _
    · rw [if_neg q]; split <;> omega
theorem GA_st {s e : Nat} (H : isSt bd s e) : ∀ {y x : Nat}, s ≤ x → x ≤ y → y ≤ e → GA bd V dg y - GA bd V dg x = (V e - V s) * (psF dg s e y - psF dg s e x) := by
  intro y
  induction y with
  | zero => intro x h1 h2 h3; have : x = 0 := by omega
            subst this; simp
  | succ y ih =>
    intro x h1 h2 h3
    by_cases q : x = y + 1
    · subst q; simp
    · have z := ih h1 (show x ≤ y by omega) (by omega)
      obtain ⟨e1, e2⟩ := isSt_of H (show s ≤ y by omega) (show y < e by omega)
      show GA bd V dg y + (V (nxB bd (12 - y) y) - V (lsB bd y)) * (psF dg (lsB bd y) (nxB bd (12 - y) y) (y + 1) - psF dg (lsB bd y) (nxB bd (12 - y) y) y) - GA bd V dg x = _
      rw [e1, e2]
      have e3 : psF dg s e (y + 1) - psF dg s e x = (psF dg s e (y + 1) - psF dg s e y) + (psF dg s e y - psF dg s e x) := by omega
      rw [e3, Int.mul_add, ← z]
      omega
theorem GA_full (hd : ∀ k : Nat, k < 12 → 0 ≤ dg k ∧ dg k ≤ 100) {s e : Nat} (H : isSt bd s e) : GA bd V dg e - GA bd V dg s = (V e - V s) * FF := by
  have z := GA_st (V := V) (dg := dg) H (Nat.le_refl s) (Nat.le_of_lt H.2.1) (Nat.le_refl e)
  rw [ps_e hd H.2.1 H.2.2.1, ps_s dg H.2.1, Int.sub_zero] at z
  exact z
theorem GA_mono (hd : ∀ k : Nat, k < 12 → 0 ≤ dg k ∧ dg k ≤ 100) (h12 : bd 12 = true) (hV : ∀ s e, isSt bd s e → V s ≤ V e) : ∀ {y x : Nat}, x ≤ y → y ≤ 12 → GA bd V dg x ≤ GA bd V dg y := by
  intro y
  induction y with
  | zero => intro x h1 _; have : x = 0 := by omega
            subst this; exact Int.le_refl _
  | succ y ih =>
    intro x h1 h2
    by_cases q : x = y + 1
    · subst q; exact Int.le_refl _
    · have z := ih (show x ≤ y by omega) (by omega)
      obtain ⟨H, h3⟩ := isSt_at h12 (show y < 12 by omega)
      have m := ps_mono hd H.2.1 H.2.2.1 (show y ≤ y + 1 by omega) (show y + 1 ≤ nxB bd (12 - y) y by omega)
      have v := hV _ _ H
      have p : 0 ≤ (V (nxB bd (12 - y) y) - V (lsB bd y)) * (psF dg (lsB bd y) (nxB bd (12 - y) y) (y + 1) - psF dg (lsB bd y) (nxB bd (12 - y) y) y) := Int.mul_nonneg (by omega) (by omega)
      show GA bd V dg x ≤ GA bd V dg y + _
      omega
theorem GA_ls (hd : ∀ k : Nat, k < 12 → 0 ≤ dg k ∧ dg k ≤ 100) : ∀ t : Nat, t ≤ 12 → GA bd V dg (lsB bd t) = (V (lsB bd t) - V 0) * FF := by
  intro t
  induction t with
  | zero => intro _; show (0 : Int) = (V 0 - V 0) * FF; rw [Int.sub_self, Int.zero_mul]
  | succ t ih =>
    intro ht
    have z := ih (by omega)
    unfold lsB
    by_cases q : bd (t + 1) = true
    · rw [if_pos q]
      have l := lsB_le bd t
      have y := GA_full (V := V) hd (show isSt bd (lsB bd t) (t + 1) from ⟨lsB_bd bd t, by omega, ht, q, fun x h1 h2 => lsB_no bd t x h1 (by omega)⟩)
      rw [z] at y
      have e : V (t + 1) - V 0 = (V (t + 1) - V (lsB bd t)) + (V (lsB bd t) - V 0) := by omega
      rw [e, Int.add_mul]
      omega
    · rw [if_neg q]; exact z
theorem GA_12 (hd : ∀ k : Nat, k < 12 → 0 ≤ dg k ∧ dg k ≤ 100) (h12 : bd 12 = true) : GA bd V dg 12 = (V 12 - V 0) * FF := by
  have z := GA_ls (bd := bd) (V := V) hd 12 (Nat.le_refl _)
  have e : lsB bd 12 = 12 := by show (if bd 12 = true then 12 else lsB bd 11) = 12; rw [if_pos h12]
  rw [e] at z; exact z
end GAM

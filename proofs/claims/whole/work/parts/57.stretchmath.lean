/-! The class's weights by meters are what a flat's units come to between two months. -/
def bdF (k : Int) (r : Nat → Int) : Nat → Bool := fun t => decide (esI k r (t : Int) = 1)
def VF (k fc sc un : Int) (r : Nat → Int) : Nat → Int := fun b => if k = 0 then r b * fc * sc else if b = 12 then un else 0
def clN (fr to b : Nat) : Nat := if b < fr then fr else if to < b then to else b
theorem bdF_12 (k : Int) (r : Nat → Int) : bdF k r 12 = true := by unfold bdF esI; simp
theorem bdF_k {k : Int} {r : Nat → Int} (hk : k ≠ 0) {t : Nat} (h : bdF k r t = true) : t = 12 := by
  unfold bdF esI at h
  simp [hk] at h
  omega
theorem suS_V (k fc sc un : Int) (r : Nat → Int) {s e : Nat} (H : isSt (bdF k r) s e) : suS k fc sc un r (s : Int) (e : Int) = VF k fc sc un r e - VF k fc sc un r s := by
  unfold suS VF
  by_cases hk : k = 0
  · rw [if_pos hk, if_pos hk, if_pos hk, Int.toNat_natCast, Int.toNat_natCast, Int.sub_mul, Int.sub_mul]
  · have e1 := bdF_k hk H.2.2.2.1
    have e2 : s ≠ 12 := by have := H.2.1; omega
    rw [if_neg hk, if_neg hk, if_neg hk, if_pos e1, if_neg e2, Int.sub_zero]
theorem alF_N (dg : Nat → Int) (s e : Nat) : alF dg (s : Int) (e : Int) = alN dg s e := by
  unfold alF alN muF
  rw [Int.toNat_natCast, Int.toNat_natCast]
  split <;> rfl
theorem owF_N (dg : Nat → Int) (s e f t : Nat) : owF dg (s : Int) (e : Int) (f : Int) (t : Int) = muF dg s e t - muF dg s e f := by
  unfold owF muF
  simp only [Int.toNat_natCast]
  split <;> rfl
theorem fmF_N (fr b : Nat) : fmF (fr : Int) (b : Int) = ((if b < fr then fr else b : Nat) : Int) := by
  unfold fmF
  by_cases q : b < fr
  · rw [if_pos q, if_pos (by omega)]
  · rw [if_neg q, if_neg (by omega)]
theorem tmF_N (to e : Nat) : tmF (to : Int) (e : Int) = ((if to < e then to else e : Nat) : Int) := by
  unfold tmF
  by_cases q : to < e
  · rw [if_pos q, if_pos (by omega)]
  · rw [if_neg q, if_neg (by omega)]
section STM
variable {k fc sc un : Int} {r dg : Nat → Int} {fr to : Nat}
/-- one stretch more -/
theorem ad_step (hd : ∀ k : Nat, k < 12 → 0 ≤ dg k ∧ dg k ≤ 100) (hf : fr < to ∧ to ≤ 12) {s e : Nat} {bd : Nat → Bool} {V : Nat → Int} (H : isSt bd s e) (hcut : (s < fr ∧ fr < e) ∨ (s < to ∧ to < e) → alN dg s e ≤ 100) {w d : Int} (hw : FF * w = d * (GA bd V dg (clN fr to s) - GA bd V dg fr)) (hd1 : 1 ≤ d) (hd2 : d ≤ (if fr < s then 100 else 1) * (if to < s then 100 else 1)) :
    FF * adW (fr : Int) (to : Int) dg (s : Int) (e : Int) (V e - V s) w d = adD (fr : Int) (to : Int) dg (s : Int) (e : Int) d * (GA bd V dg (clN fr to e) - GA bd V dg fr) ∧ 1 ≤ adD (fr : Int) (to : Int) dg (s : Int) (e : Int) d ∧ adD (fr : Int) (to : Int) dg (s : Int) (e : Int) d ≤ (if fr < e then 100 else 1) * (if to < e then 100 else 1) := by
  have hse := H.2.1
  have he := H.2.2.1
  have mono : (if fr < s then 100 else 1 : Int) * (if to < s then 100 else 1) ≤ (if fr < e then 100 else 1) * (if to < e then 100 else 1) := by
    (repeat' split) <;> omega
  unfold adW adD
  rw [fmF_N, tmF_N, alF_N, owF_N]
  generalize hm : (if s < fr then fr else s) = m
  generalize hq : (if to < e then to else e) = q
  have hm1 : s ≤ m ∧ fr ≤ m ∧ (m = s ∨ m = fr) := by rw [← hm]; split <;> omega
  have hq1 : q ≤ e ∧ q ≤ to ∧ (q = e ∨ q = to) := by rw [← hq]; split <;> omega
  by_cases c1 : q ≤ m
  · rw [if_pos (show (q : Int) ≤ m by omega), if_pos (show (q : Int) ≤ m by omega)]
    have ec : clN fr to e = clN fr to s := by unfold clN; (repeat' split) <;> omega
    rw [ec]
    exact ⟨hw, hd1, Int.le_trans hd2 mono⟩
  · rw [if_neg (show ¬ (q : Int) ≤ m by omega), if_neg (show ¬ (q : Int) ≤ m by omega)]
    have es : clN fr to s = m := by unfold clN; (repeat' split) <;> omega
    have ee : clN fr to e = q := by unfold clN; (repeat' split) <;> omega
    rw [es] at hw
    rw [ee]
    have g := GA_st (V := V) (dg := dg) H (show s ≤ m by omega) (show m ≤ q by omega) (show q ≤ e by omega)
    by_cases c2 : m = s ∧ q = e
    · rw [if_pos (show (m : Int) = s ∧ (q : Int) = e by omega), if_pos (show (m : Int) = s ∧ (q : Int) = e by omega)]
      rw [c2.1, c2.2, ps_e hd hse he, ps_s dg hse, Int.sub_zero] at g
      rw [c2.1] at hw
      rw [c2.2]
      refine ⟨?_, hd1, Int.le_trans hd2 mono⟩
      rw [Int.mul_add, hw, show GA bd V dg e - GA bd V dg fr = (GA bd V dg s - GA bd V dg fr) + (GA bd V dg e - GA bd V dg s) by omega, Int.mul_add, g]
      congr 1
      ac_rfl
    · rw [if_neg (show ¬ ((m : Int) = s ∧ (q : Int) = e) by omega), if_neg (show ¬ ((m : Int) = s ∧ (q : Int) = e) by omega)]
      have ha := hcut (by omega)
      have a1 := al_pos hd hse he
      have fd := FF_dvd a1 ha
      have ps : psF dg s e q - psF dg s e m = FF / alN dg s e * (muF dg s e q - muF dg s e m) := by
        unfold psF
        rw [if_pos ha, if_pos ha, ← Int.mul_sub]
        congr 1
        omega
      rw [ps] at g
      refine ⟨?_, ?_, ?_⟩
      · rw [show GA bd V dg q - GA bd V dg fr = (GA bd V dg m - GA bd V dg fr) + (GA bd V dg q - GA bd V dg m) by omega, g, Int.mul_add, Int.mul_add]
        congr 1
        · rw [← Int.mul_assoc, hw]; ac_rfl
        · conv => lhs; rw [← fd]
          ac_rfl
      · have := Int.mul_le_mul hd1 a1 (by omega) (by omega)
        omega
      · have b1 : d * alN dg s e ≤ ((if fr < s then 100 else 1) * (if to < s then 100 else 1)) * 100 := Int.mul_le_mul hd2 ha (by omega) (by (repeat' split) <;> omega)
        have b2 : ((if fr < s then 100 else 1 : Int) * (if to < s then 100 else 1)) * 100 ≤ (if fr < e then 100 else 1) * (if to < e then 100 else 1) := by
          (repeat' split) <;> omega
        omega
theorem st_main (hd : ∀ k : Nat, k < 12 → 0 ≤ dg k ∧ dg k ≤ 100) (hf : fr < to ∧ to ≤ 12) (hcut : ∀ s e, isSt (bdF k r) s e → (s < fr ∧ fr < e) ∨ (s < to ∧ to < e) → alN dg s e ≤ 100) : ∀ t : Nat, t ≤ 12 →
    (stF k fc sc un r dg (fr : Int) (to : Int) t).1 = ((lsB (bdF k r) t : Nat) : Int) ∧ FF * (stF k fc sc un r dg (fr : Int) (to : Int) t).2.1 = (stF k fc sc un r dg (fr : Int) (to : Int) t).2.2 * (GA (bdF k r) (VF k fc sc un r) dg (clN fr to (lsB (bdF k r) t)) - GA (bdF k r) (VF k fc sc un r) dg fr) ∧ 1 ≤ (stF k fc sc un r dg (fr : Int) (to : Int) t).2.2 ∧ (stF k fc sc un r dg (fr : Int) (to : Int) t).2.2 ≤ (if fr < lsB (bdF k r) t then 100 else 1) * (if to < lsB (bdF k r) t then 100 else 1) := by
  intro t
  induction t with
  | zero =>
    intro _
    have e0 : clN fr to 0 = fr := by unfold clN; (repeat' split) <;> omega
    refine ⟨rfl, ?_, by show (1 : Int) ≤ 1; omega, ?_⟩
    · show FF * 0 = 1 * (GA (bdF k r) (VF k fc sc un r) dg (clN fr to 0) - GA (bdF k r) (VF k fc sc un r) dg fr)
      rw [e0, Int.sub_self, Int.mul_zero, Int.mul_zero]
    · show (1 : Int) ≤ (if fr < 0 then 100 else 1) * (if to < 0 then 100 else 1)
      (repeat' split) <;> omega
  | succ t ih =>
    intro ht
    obtain ⟨i1, i2, i3, i4⟩ := ih (by omega)
    have bq : bdF k r (t + 1) = decide (esI k r ((t : Int) + 1) = 1) := rfl
    by_cases c : esI k r ((t : Int) + 1) = 1
    · have b1 : bdF k r (t + 1) = true := by rw [bq]; simp [c]
      have el : lsB (bdF k r) (t + 1) = t + 1 := by show (if bdF k r (t + 1) = true then t + 1 else lsB (bdF k r) t) = t + 1; rw [if_pos b1]
      have l := lsB_le (bdF k r) t
      have H : isSt (bdF k r) (lsB (bdF k r) t) (t + 1) := ⟨lsB_bd _ t, by omega, ht, b1, fun x h1 h2 => lsB_no _ t x h1 (by omega)⟩
      have e : stF k fc sc un r dg (fr : Int) (to : Int) (t + 1) = ((t : Int) + 1, adW (fr : Int) (to : Int) dg ((lsB (bdF k r) t : Nat) : Int) ((t + 1 : Nat) : Int) (VF k fc sc un r (t + 1) - VF k fc sc un r (lsB (bdF k r) t)) (stF k fc sc un r dg (fr : Int) (to : Int) t).2.1 (stF k fc sc un r dg (fr : Int) (to : Int) t).2.2, adD (fr : Int) (to : Int) dg ((lsB (bdF k r) t : Nat) : Int) ((t + 1 : Nat) : Int) (stF k fc sc un r dg (fr : Int) (to : Int) t).2.2) := by
        rw [← suS_V k fc sc un r H, ← i1]
        show (if esI k r ((t : Int) + 1) = 1 then _ else _) = _
        rw [if_pos c]
        rfl
      rw [e, el]
      refine ⟨by show ((t : Int) + 1) = ((t + 1 : Nat) : Int); omega, ?_⟩
      exact ad_step hd hf H (hcut _ _ H) i2 i3 i4
    · have b1 : bdF k r (t + 1) = false := by rw [bq]; simp [c]
      have el : lsB (bdF k r) (t + 1) = lsB (bdF k r) t := by show (if bdF k r (t + 1) = true then t + 1 else lsB (bdF k r) t) = _; rw [if_neg (by rw [b1]; decide)]
      have e : stF k fc sc un r dg (fr : Int) (to : Int) (t + 1) = stF k fc sc un r dg (fr : Int) (to : Int) t := by
        show (if esI k r ((t : Int) + 1) = 1 then _ else _) = _
        rw [if_neg c]
      rw [e, el]
      exact ⟨i1, i2, i3, i4⟩
end STM

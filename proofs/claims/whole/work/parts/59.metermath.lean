/-! Bounds of the weights by meters. -/
theorem good_le {r : Nat → Int} {s : Nat} (hs : r s ≠ -1) : ∀ {e : Nat}, s ≤ e → goodR r e = true → r s ≤ lastR r e := by
  intro e
  induction e with
  | zero => intro h1 _; have : s = 0 := by omega
            subst this; exact Int.le_refl _
  | succ e ih =>
    intro h1 h2
    obtain ⟨g1, g2⟩ := (goodR_succ r e).mp h2
    by_cases q : s = e + 1
    · subst q; rw [lastR_new hs]; exact Int.le_refl _
    · have z := ih (by omega) g1
      by_cases c : r (e + 1) = -1
      · rw [lastR_skip c]; exact z
      · rw [lastR_new c]; rcases g2 with y | y
        · exact absurd y c
        · omega
theorem good_sub {r : Nat → Int} : ∀ {e m : Nat}, goodR r (e + m) = true → goodR r e = true := by
  intro e m
  induction m with
  | zero => intro h; exact h
  | succ m ih => intro h; exact ih ((goodR_succ r (e + m)).mp h).1
theorem rd_le {r : Nat → Int} (h : rdI r = 1) {s e : Nat} (h1 : s < e) (h2 : e ≤ 12) (hs : r s ≠ -1) (he : r e ≠ -1) : r s ≤ r e := by
  obtain ⟨_, _, g⟩ := gI_one h
  obtain ⟨m, hm⟩ : ∃ m, 12 = e + m := ⟨12 - e, by omega⟩
  rw [hm] at g
  have z := good_le hs (Nat.le_of_lt h1) (good_sub g)
  obtain ⟨q, rfl⟩ : ∃ q, e = q + 1 := ⟨e - 1, by omega⟩
  rwa [lastR_new he] at z
def MOK (k fc sc un : Int) (r : Nat → Int) : Prop := (k = 0 → rdI r = 1 ∧ un = mU fc r * sc) ∧ (0 ≤ un ∧ un ≤ 72000000) ∧ 0 ≤ fc ∧ 0 ≤ sc
section MM
variable {k fc sc un : Int} {r dg : Nat → Int} {fr to : Nat}
theorem bd_rd (hk : k = 0) (h : rdI r = 1) {t : Nat} (ht : t = 0 ∨ bdF k r t = true) : r t ≠ -1 := by
  have z := rdI_le h
  rcases ht with e | e
  · subst e; exact z.2.1
  · unfold bdF esI at e
    simp only [hk, true_and, Int.toNat_natCast, decide_eq_true_eq] at e
    by_cases q : t = 12
    · subst q; exact z.2.2
    · intro c
      rw [if_neg (by intro y; rcases y with y | y; · omega
                     · exact y c)] at e
      cases e
theorem V_tot (M : MOK k fc sc un r) : VF k fc sc un r 12 - VF k fc sc un r 0 = un := by
  unfold VF
  by_cases hk : k = 0
  · rw [if_pos hk, if_pos hk, (M.1 hk).2]
    unfold mU
    rw [Int.sub_mul, Int.sub_mul]
  · rw [if_neg hk, if_neg hk, if_pos rfl, if_neg (by decide), Int.sub_zero]
theorem V_mono (M : MOK k fc sc un r) {s e : Nat} (H : isSt (bdF k r) s e) : VF k fc sc un r s ≤ VF k fc sc un r e := by
  unfold VF
  by_cases hk : k = 0
  · rw [if_pos hk, if_pos hk]
    have hr := (M.1 hk).1
    have z := rd_le hr H.2.1 H.2.2.1 (bd_rd hk hr H.1) (bd_rd hk hr (Or.inr H.2.2.2.1))
    exact Int.mul_le_mul_of_nonneg_right (Int.mul_le_mul_of_nonneg_right z M.2.2.1) M.2.2.2
  · rw [if_neg hk, if_neg hk]
    have e1 := bdF_k hk H.2.2.2.1
    have e2 : s ≠ 12 := by have := H.2.1; omega
    have := M.2.1
    rw [if_pos e1, if_neg e2]; omega
/-- between two months at most all units -/
theorem GA_rng (M : MOK k fc sc un r) (hd : ∀ k : Nat, k < 12 → 0 ≤ dg k ∧ dg k ≤ 100) {x y : Nat} (h1 : x ≤ y) (h2 : y ≤ 12) : 0 ≤ GA (bdF k r) (VF k fc sc un r) dg y - GA (bdF k r) (VF k fc sc un r) dg x ∧ GA (bdF k r) (VF k fc sc un r) dg y - GA (bdF k r) (VF k fc sc un r) dg x ≤ un * FF := by
  have m1 := GA_mono (V := VF k fc sc un r) hd (bdF_12 k r) (fun s e H => V_mono M H) h1 h2
  have m2 := GA_mono (V := VF k fc sc un r) hd (bdF_12 k r) (fun s e H => V_mono M H) h2 (Nat.le_refl 12)
  have m3 := GA_mono (V := VF k fc sc un r) hd (bdF_12 k r) (fun s e H => V_mono M H) (Nat.zero_le x) (show x ≤ 12 by omega)
  have m4 := GA_12 (V := VF k fc sc un r) hd (bdF_12 k r)
  rw [V_tot M] at m4
  have m5 : GA (bdF k r) (VF k fc sc un r) dg 0 = 0 := rfl
  omega
theorem st_u (M : MOK k fc sc un r) (hd : ∀ k : Nat, k < 12 → 0 ≤ dg k ∧ dg k ≤ 100) {s e : Nat} (H : isSt (bdF k r) s e) : 0 ≤ suS k fc sc un r (s : Int) (e : Int) ∧ suS k fc sc un r (s : Int) (e : Int) ≤ un := by
  rw [suS_V k fc sc un r H]
  have g := GA_full (V := VF k fc sc un r) hd H
  have z := GA_rng M hd (Nat.le_of_lt H.2.1) H.2.2.1
  rw [g] at z
  have p := V_mono M H
  exact ⟨by omega, Int.le_of_mul_le_mul_right z.2 FF_pos⟩
theorem st_bds (M : MOK k fc sc un r) (hd : ∀ k : Nat, k < 12 → 0 ≤ dg k ∧ dg k ≤ 100) (hf : fr < to ∧ to ≤ 12) (hcut : ∀ s e, isSt (bdF k r) s e → (s < fr ∧ fr < e) ∨ (s < to ∧ to < e) → alN dg s e ≤ 100) {t : Nat} (ht : t ≤ 12) :
    ((0 ≤ (stF k fc sc un r dg (fr : Int) (to : Int) t).1 ∧ (stF k fc sc un r dg (fr : Int) (to : Int) t).1 ≤ t) ∧ (0 ≤ (stF k fc sc un r dg (fr : Int) (to : Int) t).2.1 ∧ (stF k fc sc un r dg (fr : Int) (to : Int) t).2.1 ≤ 720000000000) ∧ (0 ≤ (stF k fc sc un r dg (fr : Int) (to : Int) t).2.2 ∧ (stF k fc sc un r dg (fr : Int) (to : Int) t).2.2 ≤ 10000)) ∧ (t < 12 → esI k r ((t : Int) + 1) = 1 → 0 ≤ suS k fc sc un r (stF k fc sc un r dg (fr : Int) (to : Int) t).1 ((t : Int) + 1) ∧ suS k fc sc un r (stF k fc sc un r dg (fr : Int) (to : Int) t).1 ((t : Int) + 1) ≤ 72000000) ∧ (stF k fc sc un r dg (fr : Int) (to : Int) t).2.1 ≤ un * (stF k fc sc un r dg (fr : Int) (to : Int) t).2.2 ∧ 1 ≤ (stF k fc sc un r dg (fr : Int) (to : Int) t).2.2 := by
  obtain ⟨a1, a2, a3, a4⟩ := st_main (fc := fc) (sc := sc) (un := un) hd hf hcut t ht
  have l := lsB_le (bdF k r) t
  have b4 : (if fr < lsB (bdF k r) t then 100 else 1 : Int) * (if to < lsB (bdF k r) t then 100 else 1) ≤ 10000 := by (repeat' split) <;> omega
  have hc : fr ≤ clN fr to (lsB (bdF k r) t) ∧ clN fr to (lsB (bdF k r) t) ≤ 12 := by unfold clN; (repeat' split) <;> omega
  have gr := GA_rng M hd hc.1 hc.2
  have f0 := FF_pos
  have w0 : 0 ≤ (stF k fc sc un r dg (fr : Int) (to : Int) t).2.1 := by
    have z := Int.mul_nonneg (show 0 ≤ (stF k fc sc un r dg (fr : Int) (to : Int) t).2.2 by omega) gr.1
    rw [← a2] at z
    exact Int.nonneg_of_mul_nonneg_right z f0
  have w1 : (stF k fc sc un r dg (fr : Int) (to : Int) t).2.1 ≤ un * (stF k fc sc un r dg (fr : Int) (to : Int) t).2.2 := by
    have z := Int.mul_le_mul_of_nonneg_left gr.2 (show 0 ≤ (stF k fc sc un r dg (fr : Int) (to : Int) t).2.2 by omega)
    rw [← a2, Int.mul_comm FF, show (stF k fc sc un r dg (fr : Int) (to : Int) t).2.2 * (un * FF) = un * (stF k fc sc un r dg (fr : Int) (to : Int) t).2.2 * FF by ac_rfl] at z
    exact Int.le_of_mul_le_mul_right z f0
  have w2 := mulN (A := 72000000) (B := 10000) (a := un) (b := (stF k fc sc un r dg (fr : Int) (to : Int) t).2.2) M.2.1 (by omega)
  refine ⟨⟨⟨by omega, by omega⟩, ⟨w0, by omega⟩, by omega, by omega⟩, fun ht2 he => ?_, w1, a3⟩
  have b1 : bdF k r (t + 1) = true := by show decide (esI k r ((t : Int) + 1) = 1) = true; simp [he]
  have H : isSt (bdF k r) (lsB (bdF k r) t) (t + 1) := ⟨lsB_bd _ t, by omega, ht2, b1, fun x h1 h2 => lsB_no _ t x h1 (by omega)⟩
  have z := st_u M hd H
  rw [a1]
  have e : ((t + 1 : Nat) : Int) = (t : Int) + 1 := by omega
  rw [e] at z
  have := M.2.1
  omega
theorem st_fin (hd : ∀ k : Nat, k < 12 → 0 ≤ dg k ∧ dg k ≤ 100) (hf : fr < to ∧ to ≤ 12) (hcut : ∀ s e, isSt (bdF k r) s e → (s < fr ∧ fr < e) ∨ (s < to ∧ to < e) → alN dg s e ≤ 100) :
    FF * (stF k fc sc un r dg (fr : Int) (to : Int) 12).2.1 = (stF k fc sc un r dg (fr : Int) (to : Int) 12).2.2 * (GA (bdF k r) (VF k fc sc un r) dg to - GA (bdF k r) (VF k fc sc un r) dg fr) := by
  obtain ⟨a1, a2, a3, a4⟩ := st_main (fc := fc) (sc := sc) (un := un) hd hf hcut 12 (Nat.le_refl _)
  have e : lsB (bdF k r) 12 = 12 := by show (if bdF k r 12 = true then 12 else lsB (bdF k r) 11) = 12; rw [if_pos (bdF_12 k r)]
  have e2 : clN fr to 12 = to := by unfold clN; (repeat' split) <;> omega
  rw [e, e2] at a2
  exact a2
end MM
/-- whether some change lies inside a stretch -/
def ndB (n : Nat) (hs bd : Nat → Nat → Bool) : Bool := anyF n (fun f => anyF 12 (fun m => decide (1 ≤ m) && hs f m && !bd f m))
theorem al_100 {dg : Nat → Int} (hd : ∀ k : Nat, k < 12 → 0 ≤ dg k ∧ dg k ≤ 100) (h : degF dg 0 12 = 100) {s e : Nat} (h1 : s < e) (h2 : e ≤ 12) : alN dg s e ≤ 100 := by
  unfold alN muF
  have z1 := degF_bd hd (Nat.zero_le s) (show s ≤ 12 by omega)
  have z2 := degF_bd hd h2 (Nat.le_refl 12)
  by_cases q : degF dg s e = 0
  · rw [if_pos q, if_pos q]; omega
  · rw [if_neg q, if_neg q]; unfold degF at *
    have : sumF 0 dg = 0 := rfl
    omega
theorem cut_ok {n : Nat} {hs bd : Nat → Nat → Bool} {vl : Nat → Nat → Int} {fh dg : Nat → Int} (hd : ∀ k : Nat, k < 12 → 0 ≤ dg k ∧ dg k ≤ 100) (hn : degF dg 0 12 = 100 ∨ ndB n hs bd = false) {p : SP} {f : Nat} (hf : f < n) (hfr : p.2.1 = 0 ∨ hs f p.2.1.toNat = true) (hr : 0 ≤ p.2.1 ∧ p.2.1 < p.2.2.1 ∧ p.2.2.1 ≤ 12) (hto : p.2.2.1 = 12 ∨ (1 ≤ p.2.2.1 ∧ p.2.2.1 < 12 ∧ hs f p.2.2.1.toNat = true)) :
    ∀ s e, isSt (bd f) s e → (s < p.2.1.toNat ∧ p.2.1.toNat < e) ∨ (s < p.2.2.1.toNat ∧ p.2.2.1.toNat < e) → alN dg s e ≤ 100 := by
  intro s e H hx
  rcases hn with z | z
  · exact al_100 hd z H.2.1 H.2.2.1
  · exfalso
    have h12 := H.2.2.1
    have hit : ∀ x, 1 ≤ x → x < 12 → hs f x = true → bd f x = false → False := fun x h1 h2 h3 h4 => by
      have y : ndB n hs bd = true := anyF_hit hf (anyF_hit h2 (by simp [h1, h3, h4]))
      rw [z] at y; cases y
    rcases hx with y | y
    · rcases hfr with c | c
      · omega
      · exact hit _ (by omega) (by omega) c (H.2.2.2.2 _ y.1 y.2)
    · rcases hto with c | c
      · omega
      · exact hit _ (by omega) (by omega) c.2.2 (H.2.2.2.2 _ y.1 y.2)

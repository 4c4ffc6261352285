/-! What the reference's look leaves behind. -/
def RK (h : AH) (n : Nat) (td : Nat → Int) (a b c d e be : Int) : AH := fun t i j =>
  if t = 40 ∧ i = 0 then (if j = 25 then a else if j = 26 then b else if j = 27 then c else if j = 28 then d else if j = 29 then e else if j = 30 then be else h t i j) else if t = 56 ∧ i = 0 ∧ j < n then td j else h t i j
theorem RK_fr (h : AH) (n : Nat) (td : Nat → Int) (a b c d e be : Int) {t : Nat} (z : t ≠ 40 ∧ t ≠ 56) : RK h n td a b c d e be t = h t := by
  funext i j; unfold RK; rw [if_neg (by omega), if_neg (by omega)]
theorem RK_25 (h : AH) (n : Nat) (td : Nat → Int) (a b c d e be : Int) (x : Int) : hset (RK h n td a b c d e be) 40 0 25 x = RK h n td x b c d e be := by
  funext t i j; unfold hset RK
  by_cases z : t = 40 ∧ i = 0
  · obtain ⟨rfl, rfl⟩ := z; by_cases z : j = 25 <;> simp [z]
  · rw [if_neg (by omega), if_neg z, if_neg z]
theorem RK_g25 (h : AH) (n : Nat) (td : Nat → Int) (a b c d e be : Int) : RK h n td a b c d e be 40 0 25 = a := rfl
theorem RK_26 (h : AH) (n : Nat) (td : Nat → Int) (a b c d e be : Int) (x : Int) : hset (RK h n td a b c d e be) 40 0 26 x = RK h n td a x c d e be := by
  funext t i j; unfold hset RK
  by_cases z : t = 40 ∧ i = 0
  · obtain ⟨rfl, rfl⟩ := z; by_cases z : j = 26 <;> simp [z]
  · rw [if_neg (by omega), if_neg z, if_neg z]
theorem RK_g26 (h : AH) (n : Nat) (td : Nat → Int) (a b c d e be : Int) : RK h n td a b c d e be 40 0 26 = b := rfl
theorem RK_27 (h : AH) (n : Nat) (td : Nat → Int) (a b c d e be : Int) (x : Int) : hset (RK h n td a b c d e be) 40 0 27 x = RK h n td a b x d e be := by
  funext t i j; unfold hset RK
  by_cases z : t = 40 ∧ i = 0
  · obtain ⟨rfl, rfl⟩ := z; by_cases z : j = 27 <;> simp [z]
  · rw [if_neg (by omega), if_neg z, if_neg z]
theorem RK_g27 (h : AH) (n : Nat) (td : Nat → Int) (a b c d e be : Int) : RK h n td a b c d e be 40 0 27 = c := rfl
theorem RK_28 (h : AH) (n : Nat) (td : Nat → Int) (a b c d e be : Int) (x : Int) : hset (RK h n td a b c d e be) 40 0 28 x = RK h n td a b c x e be := by
  funext t i j; unfold hset RK
  by_cases z : t = 40 ∧ i = 0
  · obtain ⟨rfl, rfl⟩ := z; by_cases z : j = 28 <;> simp [z]
  · rw [if_neg (by omega), if_neg z, if_neg z]
theorem RK_g28 (h : AH) (n : Nat) (td : Nat → Int) (a b c d e be : Int) : RK h n td a b c d e be 40 0 28 = d := rfl
theorem RK_29 (h : AH) (n : Nat) (td : Nat → Int) (a b c d e be : Int) (x : Int) : hset (RK h n td a b c d e be) 40 0 29 x = RK h n td a b c d x be := by
  funext t i j; unfold hset RK
  by_cases z : t = 40 ∧ i = 0
  · obtain ⟨rfl, rfl⟩ := z; by_cases z : j = 29 <;> simp [z]
  · rw [if_neg (by omega), if_neg z, if_neg z]
theorem RK_g29 (h : AH) (n : Nat) (td : Nat → Int) (a b c d e be : Int) : RK h n td a b c d e be 40 0 29 = e := rfl
theorem RK_30 (h : AH) (n : Nat) (td : Nat → Int) (a b c d e be : Int) (x : Int) : hset (RK h n td a b c d e be) 40 0 30 x = RK h n td a b c d e x := by
  funext t i j; unfold hset RK
  by_cases z : t = 40 ∧ i = 0
  · obtain ⟨rfl, rfl⟩ := z; by_cases z : j = 30 <;> simp [z]
  · rw [if_neg (by omega), if_neg z, if_neg z]
theorem RK_g30 (h : AH) (n : Nat) (td : Nat → Int) (a b c d e be : Int) : RK h n td a b c d e be 40 0 30 = be := rfl
theorem RK_g1 (h : AH) (n : Nat) (td : Nat → Int) (a b c d e be : Int) : RK h n td a b c d e be 40 0 1 = h 40 0 1 := rfl
theorem RK_rd (h : AH) (n : Nat) (td : Nat → Int) (a b c d e be : Int) (f : Nat) : rdR (RK h n td a b c d e be) f = rdR h f := rfl
theorem RK_f41 (h : AH) (n : Nat) (td : Nat → Int) (a b c d e be : Int) : RK h n td a b c d e be 41 = h 41 := RK_fr h n td a b c d e be (by decide)
theorem RK_f43 (h : AH) (n : Nat) (td : Nat → Int) (a b c d e be : Int) : RK h n td a b c d e be 43 = h 43 := RK_fr h n td a b c d e be (by decide)
theorem RK_f44 (h : AH) (n : Nat) (td : Nat → Int) (a b c d e be : Int) : RK h n td a b c d e be 44 = h 44 := RK_fr h n td a b c d e be (by decide)
theorem RK_f47 (h : AH) (n : Nat) (td : Nat → Int) (a b c d e be : Int) : RK h n td a b c d e be 47 = h 47 := RK_fr h n td a b c d e be (by decide)
theorem RK_self (h : AH) (td : Nat → Int) : RK h 0 td (h 40 0 25) (h 40 0 26) (h 40 0 27) (h 40 0 28) (h 40 0 29) (h 40 0 30) = h := by
  funext t i j; unfold RK
  by_cases z : t = 40 ∧ i = 0
  · obtain ⟨rfl, rfl⟩ := z
    rw [if_pos ⟨rfl, rfl⟩]
    (repeat' split) <;> simp_all
  · rw [if_neg z, if_neg (by omega)]
theorem RK_step (h : AH) (n : Nat) (td : Nat → Int) (a b c d e be : Int) : hset (RK h n td a b c d e be) 56 0 n (td n) = RK h (n + 1) td a b c d e be := by
  funext t i j; unfold hset RK
  by_cases z : t = 40 ∧ i = 0
  · rw [if_neg (by omega), if_pos z, if_pos z]
  · rw [if_neg z, if_neg z]
    by_cases y : t = 56 ∧ i = 0
    · obtain ⟨rfl, rfl⟩ := y
      by_cases u : j = n
      · subst u; simp
      · by_cases u1 : j < n
        · simp [u, u1, show j < n + 1 by omega]
        · simp [u, u1, show ¬ j < n + 1 by omega]
    · rw [if_neg (by omega), if_neg (by omega), if_neg (by omega)]
def vS (k mu kn ar pu ru be on tw : Int) : Int := if k = 0 then mu * be else if k = 1 then tw * kn * pu else if k = 2 then on * ar * ru else 0
def tdS (k mu kn ar pu ru be on tw : Int) : Int := if k ≠ 0 ∧ 200 * be < vS k mu kn ar pu ru be on tw then 200 * be else vS k mu kn ar pu ru be on tw
section RVIEW
variable (n : Nat) (ar fc kn : Nat → Int) (rd : Nat → Nat → Int)
def rcV : Int := sumF n (rcG rd)
def kdW : Nat → Int := fun f => kdS (rdI (rd f)) (kn f) (puV n fc kn rd) (plV n kn rd) (rcV n rd)
def onV : Int := if 0 < plV n kn rd ∧ 0 < puV n fc kn rd then plV n kn rd else 1
def twV : Int := if 0 < rcV n rd then raV n ar rd else 1
def beV : Int := onV n fc kn rd * twV n ar rd
def tdV : Nat → Int := fun f => tdS (kdW n fc kn rd f) (mU (fc f) (rd f)) (kn f) (ar f) (puV n fc kn rd) (ruV n fc rd) (beV n ar fc kn rd) (onV n fc kn rd) (twV n ar rd)
end RVIEW
section RVIEWB
variable {n : Nat} {ar fc kn : Nat → Int} {rd : Nat → Nat → Int}
theorem rcV_bd (hn : n ≤ 6) : 0 ≤ rcV n rd ∧ rcV n rd ≤ 6 := by have := rc_bd (n := n) (rd := rd); unfold rcV; omega
theorem onV_bd (H : FIv n ar fc kn rd) (hn : n ≤ 6) : 1 ≤ onV n fc kn rd ∧ onV n fc kn rd ≤ 1200 := by have := plV_bd H hn; unfold onV; split <;> omega
theorem twV_bd (H : FIv n ar fc kn rd) (hn : n ≤ 6) : 0 ≤ twV n ar rd ∧ twV n ar rd ≤ 300 := by have := raV_bd H hn; unfold twV; split <;> omega
theorem beV_bd (H : FIv n ar fc kn rd) (hn : n ≤ 6) : 0 ≤ beV n ar fc kn rd ∧ beV n ar fc kn rd ≤ 360000 := by
  have h1 := onV_bd H hn
  have h2 := twV_bd H hn
  unfold beV
  have h3 := mulN (A := 1200) (B := 300) (a := onV n fc kn rd) (b := twV n ar rd) ⟨by omega, h1.2⟩ h2
  omega
end RVIEWB

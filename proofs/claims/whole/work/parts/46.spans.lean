/-! The spans of a flat: (flat, from, to, holder). -/
abbrev SP : Type := Int × Int × Int × Int
def goS (f : Int) (hs : Nat → Bool) (vl : Nat → Int) (k t : Nat) (b who : Int) : List SP := match k with
  | 0 => [(f, b, 12, who)]
  | k + 1 => if hs t then (f, b, (t : Int), who) :: goS f hs vl k (t + 1) t (vl t) else goS f hs vl k (t + 1) b who
def spF (f : Int) (hs : Nat → Bool) (vl : Nat → Int) (fh : Int) : List SP := goS f hs vl 11 1 0 (if hs 0 then vl 0 else fh)
theorem goS_len (f : Int) (hs : Nat → Bool) (vl : Nat → Int) : ∀ (k t : Nat) (b who : Int), 1 ≤ (goS f hs vl k t b who).length ∧ (goS f hs vl k t b who).length ≤ k + 1 := by
  intro k
  induction k with
  | zero => intro t b who; simp [goS]
  | succ k ih =>
    intro t b who
    unfold goS
    split
    · have := ih (t + 1) t (vl t); simp only [List.length_cons]; omega
    · have := ih (t + 1) b who; omega
/-- of all flats in their order -/
def spA (hs : Nat → Nat → Bool) (vl : Nat → Nat → Int) (fh : Nat → Int) (n : Nat) : List SP := match n with
  | 0 => []
  | n + 1 => spA hs vl fh n ++ spF n (hs n) (vl n) (fh n)
theorem spA_len (hs : Nat → Nat → Bool) (vl : Nat → Nat → Int) (fh : Nat → Int) : ∀ n, (spA hs vl fh n).length ≤ 12 * n := by
  intro n
  induction n with
  | zero => simp [spA]
  | succ n ih =>
    show (spA hs vl fh n ++ spF n (hs n) (vl n) (fh n)).length ≤ _
    have := goS_len n (hs n) (vl n) 11 1 0 (if hs n 0 then vl n 0 else fh n)
    rw [List.length_append]
    unfold spF
    omega
/-- the class's spans hold the list S -/
def SPH (h : AH) (S : List SP) : AH := fun t i j =>
  if t = 13 ∧ i = 0 ∧ j = 4 then (S.length : Int)
  else if t = 14 ∧ i = 0 ∧ j < S.length then (S.getD j (0, 0, 0, 0)).1
  else if t = 15 ∧ i = 0 ∧ j < S.length then (S.getD j (0, 0, 0, 0)).2.1
  else if t = 16 ∧ i = 0 ∧ j < S.length then (S.getD j (0, 0, 0, 0)).2.2.1
  else if t = 17 ∧ i = 0 ∧ j < S.length then (S.getD j (0, 0, 0, 0)).2.2.2
  else h t i j
theorem SPH_fr (h : AH) (S : List SP) {t : Nat} (e : t ≠ 13 ∧ t ≠ 14 ∧ t ≠ 15 ∧ t ≠ 16 ∧ t ≠ 17) : SPH h S t = h t := by
  funext i j; unfold SPH
  rw [if_neg (by omega), if_neg (by omega), if_neg (by omega), if_neg (by omega), if_neg (by omega)]
theorem SPH_cnt (h : AH) (S : List SP) : SPH h S 13 0 4 = (S.length : Int) := rfl
theorem SPH_nil (h : AH) : hset h 13 0 4 0 = SPH h [] := by
  funext t i j; unfold hset SPH
  by_cases e : t = 13 ∧ i = 0 ∧ j = 4
  · rw [if_pos e, if_pos e]; rfl
  · rw [if_neg e, if_neg e, if_neg (by simp), if_neg (by simp), if_neg (by simp), if_neg (by simp)]
theorem getD_app {S : List SP} {q : SP} (j : Nat) : (S ++ [q]).getD j (0, 0, 0, 0) = if j = S.length then q else S.getD j (0, 0, 0, 0) := by
  by_cases e : j = S.length
  · subst e; simp
  · rw [if_neg e]
    by_cases e2 : j < S.length
    · simp [List.getD_eq_getElem?_getD, List.getElem?_append_left e2]
    · have e3 : S.length < j := by omega
      simp only [List.getD_eq_getElem?_getD]
      rw [List.getElem?_eq_none (by simp; omega), List.getElem?_eq_none (by omega)]
theorem SPH_add (h : AH) (S : List SP) (q : SP) : hset (hset (hset (hset (hset (SPH h S) 14 0 S.length q.1) 15 0 S.length q.2.1) 16 0 S.length q.2.2.1) 17 0 S.length q.2.2.2) 13 0 4 ((S.length : Int) + 1) = SPH h (S ++ [q]) := by
  funext t i j
  have hl : (S ++ [q]).length = S.length + 1 := by simp
  unfold hset SPH
  rw [hl]
  by_cases c13 : t = 13 ∧ i = 0 ∧ j = 4
  · rw [if_pos c13, if_pos c13]; rfl
  · rw [if_neg c13, if_neg c13]
    rw [getD_app]
    by_cases z : j = S.length
    · subst z
      by_cases i0 : i = 0
      · subst i0
        by_cases t17 : t = 17
        · subst t17; simp
        · by_cases t16 : t = 16
          · subst t16; simp
          · by_cases t15 : t = 15
            · subst t15; simp
            · by_cases t14 : t = 14
              · subst t14; simp
              · simp [t14, t15, t16, t17, c13]
                intro z1 z2; exact absurd ⟨z1, rfl, z2⟩ c13
      · simp [i0]
    · have e1 : (j < S.length + 1) = (j < S.length) := by apply propext; omega
      simp only [z, if_false, e1, and_false, c13]
theorem SPH_14 (h : AH) {S : List SP} {j : Nat} (hj : j < S.length) : SPH h S 14 0 j = (S.getD j (0, 0, 0, 0)).1 := by
  unfold SPH; rw [if_neg (by omega), if_pos ⟨rfl, rfl, hj⟩]
theorem SPH_15 (h : AH) {S : List SP} {j : Nat} (hj : j < S.length) : SPH h S 15 0 j = (S.getD j (0, 0, 0, 0)).2.1 := by
  unfold SPH; rw [if_neg (by omega), if_neg (by omega), if_pos ⟨rfl, rfl, hj⟩]
theorem SPH_16 (h : AH) {S : List SP} {j : Nat} (hj : j < S.length) : SPH h S 16 0 j = (S.getD j (0, 0, 0, 0)).2.2.1 := by
  unfold SPH; rw [if_neg (by omega), if_neg (by omega), if_neg (by omega), if_pos ⟨rfl, rfl, hj⟩]
theorem SPH_17 (h : AH) {S : List SP} {j : Nat} (hj : j < S.length) : SPH h S 17 0 j = (S.getD j (0, 0, 0, 0)).2.2.2 := by
  unfold SPH; rw [if_neg (by omega), if_neg (by omega), if_neg (by omega), if_neg (by omega), if_pos ⟨rfl, rfl, hj⟩]

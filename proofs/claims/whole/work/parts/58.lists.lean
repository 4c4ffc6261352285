/-! The list of spans: its members, sums over it. -/
def qS (S : List SP) (s : Nat) : SP := S.getD s (0, 0, 0, 0)
theorem qS_mem {S : List SP} {s : Nat} (h : s < S.length) : qS S s ∈ S := by
  unfold qS
  rw [List.getD_eq_getElem?_getD, List.getElem?_eq_getElem h]
  exact List.getElem_mem h
theorem mem_qS {S : List SP} {p : SP} (h : p ∈ S) : ∃ s, s < S.length ∧ qS S s = p := by
  obtain ⟨s, hs, e⟩ := List.getElem_of_mem h
  refine ⟨s, hs, ?_⟩
  unfold qS
  rw [List.getD_eq_getElem?_getD, List.getElem?_eq_getElem hs]
  exact e
def sumS (φ : SP → Int) (S : List SP) : Int := match S with
  | [] => 0
  | p :: l => φ p + sumS φ l
theorem sumS_app (φ : SP → Int) : ∀ S T : List SP, sumS φ (S ++ T) = sumS φ S + sumS φ T := by
  intro S
  induction S with
  | nil => intro T; show sumS φ T = 0 + sumS φ T; omega
  | cons p l ih => intro T; show φ p + sumS φ (l ++ T) = φ p + sumS φ l + sumS φ T; rw [ih T]; omega
theorem sumF_shift (g : Nat → Int) : ∀ n : Nat, sumF (n + 1) g = g 0 + sumF n (fun k => g (k + 1)) := by
  intro n
  induction n with
  | zero => show 0 + g 0 = g 0 + 0; omega
  | succ n ih => rw [sumF_succ, ih, sumF_succ]; omega
theorem sumF_S (φ : SP → Int) : ∀ S : List SP, sumF S.length (fun s => φ (qS S s)) = sumS φ S := by
  intro S
  induction S with
  | nil => rfl
  | cons p l ih =>
    show sumF (l.length + 1) _ = φ p + sumS φ l
    rw [sumF_shift, ← ih]
    rfl
theorem sumF_one {g : Nat → Int} : ∀ {n k : Nat}, (∀ j, j < n → 0 ≤ g j) → k < n → g k ≤ sumF n g := by
  intro n
  induction n with
  | zero => intro k _ h; omega
  | succ n ih =>
    intro k h0 hk
    rw [sumF_succ]
    have z := sumF_nn (n := n) fun j hj => h0 j (by omega)
    by_cases e : k = n
    · subst e; omega
    · have y := ih (fun j hj => h0 j (by omega)) (show k < n by omega)
      have u := h0 n (by omega)
      omega
/-- how far a function of flat and time goes in a span -/
def tlS (Γ : Int → Int → Int) : SP → Int := fun p => Γ p.1 p.2.2.1 - Γ p.1 p.2.1
theorem tl_goS (Γ : Int → Int → Int) (f : Int) (hs : Nat → Bool) (vl : Nat → Int) : ∀ (k t : Nat) (b who : Int), sumS (tlS Γ) (goS f hs vl k t b who) = Γ f 12 - Γ f b := by
  intro k
  induction k with
  | zero => intro t b who; show (Γ f 12 - Γ f b) + 0 = _; omega
  | succ k ih =>
    intro t b who
    unfold goS
    split
    · show (Γ f t - Γ f b) + sumS (tlS Γ) _ = _
      rw [ih]; omega
    · exact ih _ _ _
theorem tl_spA (Γ : Int → Int → Int) (hs : Nat → Nat → Bool) (vl : Nat → Nat → Int) (fh : Nat → Int) : ∀ n, sumS (tlS Γ) (spA hs vl fh n) = sumF n (fun f => Γ f 12 - Γ f 0) := by
  intro n
  induction n with
  | zero => rfl
  | succ n ih =>
    show sumS (tlS Γ) (spA hs vl fh n ++ spF n (hs n) (vl n) (fh n)) = _
    rw [sumS_app, ih, sumF_succ]
    unfold spF
    rw [tl_goS]
theorem mem_goS (f : Int) (hs : Nat → Bool) (vl : Nat → Int) : ∀ (k t : Nat) (b who : Int) (p : SP), t + k = 12 → 0 ≤ b → b < t → p ∈ goS f hs vl k t b who → p.1 = f ∧ (0 ≤ p.2.1 ∧ p.2.1 < p.2.2.1 ∧ p.2.2.1 ≤ 12) ∧ (p.2.1 = b ∨ hs p.2.1.toNat = true) ∧ (p.2.2.1 = 12 ∨ ((t : Int) ≤ p.2.2.1 ∧ p.2.2.1 < 12 ∧ hs p.2.2.1.toNat = true)) ∧ (p.2.2.2 = who ∨ ∃ x, x < 12 ∧ hs x = true ∧ p.2.2.2 = vl x) := by
  intro k
  induction k with
  | zero =>
    intro t b who p h1 h2 h3 hp
    simp only [goS, List.mem_singleton] at hp
    subst hp
    exact ⟨rfl, ⟨h2, by show b < 12; omega, by show (12 : Int) ≤ 12; omega⟩, Or.inl rfl, Or.inl rfl, Or.inl rfl⟩
  | succ k ih =>
    intro t b who p h1 h2 h3 hp
    unfold goS at hp
    split at hp
    · rename_i z
      rcases List.mem_cons.mp hp with e | e
      · subst e
        exact ⟨rfl, ⟨h2, h3, by show (t : Int) ≤ 12; omega⟩, Or.inl rfl, Or.inr ⟨by show (t : Int) ≤ t; omega, by show (t : Int) < 12; omega, by show hs (t : Int).toNat = true; rw [Int.toNat_natCast]; exact z⟩, Or.inl rfl⟩
      · obtain ⟨a1, a2, a3, a4, a5⟩ := ih (t + 1) t (vl t) p (by omega) (by omega) (by omega) e
        refine ⟨a1, a2, Or.inr ?_, a4.imp id (fun y => ⟨by omega, y.2⟩), ?_⟩
        · rcases a3 with y | y
          · rw [y, Int.toNat_natCast]; exact z
          · exact y
        · rcases a5 with y | y
          · exact Or.inr ⟨t, by omega, z, y⟩
          · exact Or.inr y
    · obtain ⟨a1, a2, a3, a4, a5⟩ := ih (t + 1) b who p (by omega) h2 (by omega) hp
      exact ⟨a1, a2, a3, a4.imp id (fun y => ⟨by omega, y.2⟩), a5⟩
theorem ex_goS (f : Int) (hs : Nat → Bool) (vl : Nat → Int) : ∀ (k t : Nat) (b who : Int) (x : Nat), t + k = 12 → t ≤ x → x < 12 → hs x = true → ∃ p, p ∈ goS f hs vl k t b who ∧ p.1 = f ∧ p.2.1 = (x : Int) := by
  intro k
  induction k with
  | zero => intro t b who x h1 h2 h3 _; omega
  | succ k ih =>
    intro t b who x h1 h2 h3 hx
    unfold goS
    by_cases e : x = t
    · subst e
      rw [if_pos hx]
      have hd : ∀ (k t : Nat) (b who : Int), ∃ p, p ∈ goS f hs vl k t b who ∧ p.1 = f ∧ p.2.1 = b := by
        intro k
        induction k with
        | zero => intro t b who; exact ⟨_, List.mem_singleton.mpr rfl, rfl, rfl⟩
        | succ k ih2 =>
          intro t b who
          unfold goS
          split
          · exact ⟨_, List.mem_cons.mpr (Or.inl rfl), rfl, rfl⟩
          · exact ih2 _ _ _
      obtain ⟨p, hp, q1, q2⟩ := hd k (x + 1) x (vl x)
      exact ⟨p, List.mem_cons.mpr (Or.inr hp), q1, q2⟩
    · split
      · obtain ⟨p, hp, q1, q2⟩ := ih (t + 1) t (vl t) x (by omega) (by omega) h3 hx
        exact ⟨p, List.mem_cons.mpr (Or.inr hp), q1, q2⟩
      · exact ih (t + 1) b who x (by omega) (by omega) h3 hx
section SPAS
variable {hs : Nat → Nat → Bool} {vl : Nat → Nat → Int} {fh : Nat → Int}
theorem mem_spA : ∀ {n : Nat} {p : SP}, p ∈ spA hs vl fh n → ∃ f : Nat, f < n ∧ p.1 = (f : Int) ∧ (0 ≤ p.2.1 ∧ p.2.1 < p.2.2.1 ∧ p.2.2.1 ≤ 12) ∧ (p.2.1 = 0 ∨ hs f p.2.1.toNat = true) ∧ (p.2.2.1 = 12 ∨ (1 ≤ p.2.2.1 ∧ p.2.2.1 < 12 ∧ hs f p.2.2.1.toNat = true)) ∧ (p.2.2.2 = fh f ∨ ∃ x, x < 12 ∧ hs f x = true ∧ p.2.2.2 = vl f x) := by
  intro n
  induction n with
  | zero => intro p hp; cases hp
  | succ n ih =>
    intro p hp
    rcases List.mem_append.mp (show p ∈ spA hs vl fh n ++ spF n (hs n) (vl n) (fh n) from hp) with e | e
    · obtain ⟨f, hf, r⟩ := ih e
      exact ⟨f, by omega, r⟩
    · unfold spF at e
      obtain ⟨a1, a2, a3, a4, a5⟩ := mem_goS n (hs n) (vl n) 11 1 0 _ p (by omega) (by omega) (by omega) e
      refine ⟨n, by omega, a1, a2, a3, a4, ?_⟩
      rcases a5 with y | y
      · by_cases z : hs n 0 = true
        · rw [if_pos z] at y; exact Or.inr ⟨0, by omega, z, y⟩
        · rw [if_neg z] at y; exact Or.inl y
      · exact Or.inr y
theorem ex_spA : ∀ {n f x : Nat}, f < n → 1 ≤ x → x < 12 → hs f x = true → ∃ p, p ∈ spA hs vl fh n ∧ p.1 = (f : Int) ∧ p.2.1 = (x : Int) := by
  intro n
  induction n with
  | zero => intro f x h; omega
  | succ n ih =>
    intro f x h1 h2 h3 h4
    by_cases e : f = n
    · subst e
      obtain ⟨p, hp, q⟩ := ex_goS f (hs f) (vl f) 11 1 0 (if hs f 0 then vl f 0 else fh f) x (by omega) h2 h3 h4
      exact ⟨p, List.mem_append.mpr (Or.inr hp), q⟩
    · obtain ⟨p, hp, q⟩ := ih (show f < n by omega) h2 h3 h4
      exact ⟨p, List.mem_append.mpr (Or.inl hp), q⟩
theorem spA_pos {n : Nat} (h : 1 ≤ n) : 1 ≤ (spA hs vl fh n).length := by
  obtain ⟨m, rfl⟩ : ∃ m, n = m + 1 := ⟨n - 1, by omega⟩
  show 1 ≤ (spA hs vl fh m ++ spF m (hs m) (vl m) (fh m)).length
  rw [List.length_append]
  have := goS_len m (hs m) (vl m) 11 1 0 (if hs m 0 then vl m 0 else fh m)
  unfold spF
  omega
end SPAS

/-! Stretches of an array that hold one number; how a call of the reference ends. -/
def hfill (h : AH) (t i lo n : Nat) (v : Int) : AH := fun t' i' j' => if t' = t ∧ i' = i ∧ lo ≤ j' ∧ j' < lo + n then v else h t' i' j'
theorem hfill_zero (h : AH) (t i lo : Nat) (v : Int) : hfill h t i lo 0 v = h := by
  funext t' i' j'
  unfold hfill
  rw [if_neg (by omega)]
theorem hfill_succ (h : AH) (t i lo n : Nat) (v : Int) : hset (hfill h t i lo n v) t i (lo + n) v = hfill h t i lo (n + 1) v := by
  funext t' i' j'
  unfold hset hfill
  by_cases e : t' = t ∧ i' = i ∧ j' = lo + n
  · rw [if_pos e, if_pos (by omega)]
  · rw [if_neg e]
    by_cases e2 : t' = t ∧ i' = i ∧ lo ≤ j' ∧ j' < lo + n
    · rw [if_pos e2, if_pos (by omega)]
    · rw [if_neg e2, if_neg (by omega)]
theorem hfill_tag (h : AH) {t t' : Nat} (i lo n : Nat) (v : Int) (e : t' ≠ t) : hfill h t i lo n v t' = h t' := by
  funext i' j'
  unfold hfill
  rw [if_neg (by omega)]
theorem hset_fr (h : AH) {t t' : Nat} (i j : Nat) (v : Int) (e : t' ≠ t) : hset h t i j v t' = h t' := by
  funext i' j'
  unfold hset
  rw [if_neg (by omega)]
theorem hset_num (h : AH) {t i i' : Nat} (j : Nat) (v : Int) (e : i' ≠ i) : hset h t i j v t i' = h t i' := by
  funext j'
  unfold hset
  rw [if_neg (by omega)]
/-- E: what the reference writes down as thrown -/
def Rout (E : Int) (r0 r1 : Option AV) (h : AH) (P : AH → Prop) : AO → AH → Prop := fun o h' => (E ≠ 0 ∧ o = .inl r0 ∧ h' = hset h 40 0 0 E) ∨ (E = 0 ∧ o = .inl r1 ∧ P h')
theorem Rout.thr {E v : Int} {r0 r1 : Option AV} {h : AH} {P : AH → Prop} (hv : v = E) (h0 : v ≠ 0) : Rout E r0 r1 h P (.inl r0) (hset h 40 0 0 v) := by
  subst hv
  exact Or.inl ⟨h0, rfl, rfl⟩
theorem Rout.ret {E : Int} {r0 r1 : Option AV} {h h' : AH} {P : AH → Prop} (hv : 0 = E) (hp : P h') : Rout E r0 r1 h P (.inl r1) h' := Or.inr ⟨hv.symm, rfl, hp⟩
theorem hset_slot (h : AH) {t i j t' i' j' : Nat} (n : Int) (e : j' ≠ j) : hset h t i j n t' i' j' = h t' i' j' := if_neg fun q => e q.2.2
theorem hset_numb (h : AH) {t i j t' i' j' : Nat} (n : Int) (e : i' ≠ i) : hset h t i j n t' i' j' = h t' i' j' := if_neg fun q => e q.2.1
theorem hfill_tag3 (h : AH) {t i lo n t' i' j' : Nat} (v : Int) (e : t' ≠ t) : hfill h t i lo n v t' i' j' = h t' i' j' := if_neg fun q => e q.1
theorem Rout.retv {E : Int} {r0 r1 r : Option AV} {h h' : AH} {P : AH → Prop} (hv : 0 = E) (hr : r = r1) (hp : P h') : Rout E r0 r1 h P (.inl r) h' := Or.inr ⟨hv.symm, by rw [hr], hp⟩

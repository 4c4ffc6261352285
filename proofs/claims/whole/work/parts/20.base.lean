/-! Abstract values: an int, a long, an object of the universe (tag, number), any other reference. -/
abbrev AV : Type := Int ⊕ Int ⊕ (Nat × Nat) ⊕ Nat
abbrev vI (n : Int) : AV := Sum.inl n
abbrev vL (n : Int) : AV := Sum.inr (Sum.inl n)
abbrev vO (t i : Nat) : AV := Sum.inr (Sum.inr (Sum.inl (t, i)))
abbrev vX (a : Nat) : AV := Sum.inr (Sum.inr (Sum.inr a))
/-- the universe's numbers: tag, number, slot -/
abbrev AH : Type := Nat → Nat → Nat → Int
/-- a world: addresses; class numbers and slots; array classes -/
abbrev XW : Type := (Nat → Nat → Nat) × va_G × (Nat → ClassId)
def cV (w : XW) (v : AV) : Value := match v with
  | .inl n => .int (Int32.ofInt n)
  | .inr (.inl n) => .long (Int64.ofInt n)
  | .inr (.inr (.inl o)) => .ref (w.1 o.1 o.2)
  | .inr (.inr (.inr a)) => .ref a
def isL (v : AV) : Bool := match v with
  | .inr (.inl _) => true
  | _ => false
theorem cV_cat (w : XW) (v : AV) : ((cV w v).category == 2) = isL v := by
  rcases v with n | n | o | a <;> rfl
theorem cV_cat1 (w : XW) (v : AV) (h : isL v = false) : (cV w v).category = 1 := by
  rcases v with n | n | o | a <;> first | rfl | cases h
abbrev okI (n : Int) : Prop := -2147483648 ≤ n ∧ n ≤ 2147483647
abbrev okJ (n : Int) : Prop := -9223372036854775808 ≤ n ∧ n ≤ 9223372036854775807
def okV (v : AV) : Prop := match v with
  | .inl n => okI n
  | .inr (.inl n) => okJ n
  | .inr (.inr (.inl o)) => o.2 < cntT o.1
  | .inr (.inr (.inr _)) => True
def okS (st : List AV) : Prop := match st with
  | [] => True
  | v :: st => okV v ∧ okS st
def okL (lv : List (Nat × AV)) : Prop := match lv with
  | [] => True
  | q :: lv => okV q.2 ∧ okL lv
theorem okL_mem {lv : List (Nat × AV)} (h : okL lv) : ∀ q ∈ lv, okV q.2 := by
  induction lv with
  | nil => intro q hq; cases hq
  | cons a l ih =>
    intro q hq
    rcases List.mem_cons.mp hq with e | e
    · subst e; exact h.1
    · exact ih h.2 q e
theorem okL_of {lv : List (Nat × AV)} (h : ∀ q ∈ lv, okV q.2) : okL lv := by
  induction lv with
  | nil => trivial
  | cons a l ih => exact ⟨h a List.mem_cons_self, ih fun q hq => h q (List.mem_cons_of_mem _ hq)⟩
theorem okS_mem {st : List AV} (h : okS st) : ∀ v ∈ st, okV v := by
  induction st with
  | nil => intro q hq; cases hq
  | cons a l ih =>
    intro q hq
    rcases List.mem_cons.mp hq with e | e
    · subst e; exact h.1
    · exact ih h.2 q e
theorem okS_of {st : List AV} (h : ∀ v ∈ st, okV v) : okS st := by
  induction st with
  | nil => trivial
  | cons a l ih => exact ⟨h a List.mem_cons_self, ih fun q hq => h q (List.mem_cons_of_mem _ hq)⟩
theorem okS_app {a b : List AV} (h : okS (a ++ b)) : okS a ∧ okS b :=
  ⟨okS_of fun v hv => okS_mem h v (List.mem_append_left _ hv), okS_of fun v hv => okS_mem h v (List.mem_append_right _ hv)⟩
theorem okS_rev {a : List AV} (h : okS a.reverse) : okS a := okS_of fun v hv => okS_mem h v (List.mem_reverse.mpr hv)
def cP (w : XW) (q : Nat × AV) : Nat × Value := (q.1, cV w q.2)
theorem lk_mem {lv : List (Nat × AV)} {i : Nat} {v : AV} (h : lv.lookup i = some v) : (i, v) ∈ lv := by
  induction lv with
  | nil => cases h
  | cons a l ih =>
    obtain ⟨j, u⟩ := a
    by_cases e : i = j
    · subst e
      simp only [List.lookup, beq_self_eq_true] at h
      cases h
      exact List.mem_cons_self
    · have e' : (i == j) = false := by simpa using e
      simp only [List.lookup, e'] at h
      exact List.mem_cons_of_mem _ (ih h)
theorem lk_has {w : XW} {ls : Array Slot} {nL : Nat} {lv : List (Nat × AV)} (hv : lv_has ls nL (lv.map (cP w))) {i : Nat} {v : AV} (h : lv.lookup i = some v) : ls[i]? = some (.val (cV w v)) :=
  hv.2.2 (i, cV w v) (List.mem_map.mpr ⟨(i, v), lk_mem h, rfl⟩)
theorem lk_ok {lv : List (Nat × AV)} (hl : okL lv) {i : Nat} {v : AV} (h : lv.lookup i = some v) : okV v := okL_mem hl _ (lk_mem h)
/-- a store into a local variable -/
def lst (lv : List (Nat × AV)) (i : Nat) (v : AV) : List (Nat × AV) := (i, v) :: lv.filter (fun q => !(q.1 == i) && !(q.1 + 1 == i && isL q.2))
def lstL (lv : List (Nat × AV)) (i : Nat) (v : AV) : List (Nat × AV) := (i, v) :: lv.filter (fun q => !(q.1 == i) && (!(q.1 == i + 1) && !(q.1 + 1 == i && isL q.2)))
theorem lst_map (w : XW) (lv : List (Nat × AV)) (i : Nat) (v : AV) : (i, cV w v) :: (lv.map (cP w)).filter (fun q => !(q.1 == i) && !(q.1 + 1 == i && q.2.category == 2)) = (lst lv i v).map (cP w) := by
  show _ = (i, cV w v) :: (lv.filter _).map (cP w)
  rw [List.filter_map]
  congr 2
  refine congrArg (fun f => List.filter f lv) (funext fun q => ?_)
  show (!(q.1 == i) && !(q.1 + 1 == i && (cV w q.2).category == 2)) = _
  rw [cV_cat]
theorem lstL_map (w : XW) (lv : List (Nat × AV)) (i : Nat) (v : AV) : (i, cV w v) :: (lv.map (cP w)).filter (fun q => !(q.1 == i) && (!(q.1 == i + 1) && !(q.1 + 1 == i && q.2.category == 2))) = (lstL lv i v).map (cP w) := by
  show _ = (i, cV w v) :: (lv.filter _).map (cP w)
  rw [List.filter_map]
  congr 2
  refine congrArg (fun f => List.filter f lv) (funext fun q => ?_)
  show (!(q.1 == i) && (!(q.1 == i + 1) && !(q.1 + 1 == i && (cV w q.2).category == 2))) = _
  rw [cV_cat]
theorem lst_ok {lv : List (Nat × AV)} {i : Nat} {v : AV} (h : okL lv) (hv : okV v) : okL (lst lv i v) := ⟨hv, okL_of fun q hq => okL_mem h q (List.mem_filter.mp hq).1⟩
theorem lstL_ok {lv : List (Nat × AV)} {i : Nat} {v : AV} (h : okL lv) (hv : okV v) : okL (lstL lv i v) := ⟨hv, okL_of fun q hq => okL_mem h q (List.mem_filter.mp hq).1⟩
/-- a method's arguments as its first locals -/
def aargs (k : Nat) (as : List AV) : List (Nat × AV) := match as with
  | [] => []
  | v :: as => (k, v) :: aargs (if isL v then k + 2 else k + 1) as
theorem aargs_ok {as : List AV} (h : okS as) : ∀ k, okL (aargs k as) := by
  induction as with
  | nil => intro k; trivial
  | cons v as ih => intro k; exact ⟨h.1, ih h.2 _⟩
/-- what slot j of an object holds -/
def fv (h : AH) (t i j : Nat) : AV := match ftT t j with
  | 0 => vI (h t i j)
  | 1 => vL (h t i j)
  | _ => vO (rfT t i j).1 (rfT t i j).2
def cellR (w : XW) (h : AH) (t i : Nat) (H : Heap) : Prop := match kdT t with
  | 0 => t_OB (w.1 t i) (w.2.1.1 (clT t)) (nfT t) (w.2.1.2 (clT t)) H (fun j => cV w (fv h t i j))
  | k + 1 => H[w.1 t i]? = some (arrV (w.2.2 k) (lnT t) (fun j => cV w (fv h t i j)))
def HRep (w : XW) (h : AH) (H : Heap) : Prop := ∀ t i, i < cntT t → cellR w h t i H
def okH (h : AH) : Prop := ∀ t i j, (ftT t j = 0 → okI (h t i j)) ∧ (ftT t j = 1 → okJ (h t i j))
def adInj (w : XW) : Prop := ∀ t i t' i', i < cntT t → i' < cntT t' → w.1 t i = w.1 t' i' → t = t' ∧ i = i'
def inU (w : XW) (sz : Nat) (q : Nat) : Prop := (∃ t i, i < cntT t ∧ w.1 t i = q) ∨ sz ≤ q
def hset (h : AH) (t i j : Nat) (n : Int) : AH := fun t' i' j' => if t' = t ∧ i' = i ∧ j' = j then n else h t' i' j'
theorem hset_same (h : AH) (t i j : Nat) (n : Int) : hset h t i j n t i j = n := if_pos ⟨rfl, rfl, rfl⟩
theorem hset_ne (h : AH) {t i j t' i' j' : Nat} (n : Int) (e : ¬ (t' = t ∧ i' = i ∧ j' = j)) : hset h t i j n t' i' j' = h t' i' j' := if_neg e
theorem hset_tag (h : AH) {t i j t' i' j' : Nat} (n : Int) (e : t' ≠ t) : hset h t i j n t' i' j' = h t' i' j' := if_neg fun q => e q.1
theorem hset_ok {h : AH} {t i j : Nat} {n : Int} (hh : okH h) (h0 : ftT t j = 0 → okI n) (h1 : ftT t j = 1 → okJ n) : okH (hset h t i j n) := by
  intro t' i' j'
  by_cases e : t' = t ∧ i' = i ∧ j' = j
  · obtain ⟨rfl, rfl, rfl⟩ := e
    rw [hset_same]; exact ⟨h0, h1⟩
  · rw [hset_ne h n e]; exact hh t' i' j'
theorem fv_ne (h : AH) {t i j t' i' j' : Nat} (n : Int) (e : ¬ (t' = t ∧ i' = i ∧ j' = j)) : fv (hset h t i j n) t' i' j' = fv h t' i' j' := by
  unfold fv
  rw [hset_ne h n e]
theorem fv_ok {h : AH} (hh : okH h) {t i j : Nat} (hr : ¬ ftT t j = 0 → ¬ ftT t j = 1 → (rfT t i j).2 < cntT (rfT t i j).1) : okV (fv h t i j) := by
  unfold fv
  split
  · rename_i e; exact (hh t i j).1 e
  · rename_i e; exact (hh t i j).2 e
  · rename_i e1 e2; exact hr (fun q => e1 q) (fun q => e2 q)
theorem fv_0 {h : AH} {t i j : Nat} (e : ftT t j = 0) : fv h t i j = vI (h t i j) := by unfold fv; rw [e]; rfl
theorem fv_1 {h : AH} {t i j : Nat} (e : ftT t j = 1) : fv h t i j = vL (h t i j) := by unfold fv; rw [e]; rfl
theorem fv_2 {h : AH} {t i j : Nat} (e : ftT t j = 2) : fv h t i j = vO (rfT t i j).1 (rfT t i j).2 := by unfold fv; rw [e]; rfl
theorem cellR_kept {w : XW} {h h' : AH} {t i : Nat} {H H' : Heap} (hc : cellR w h t i H) (hq : H'[w.1 t i]? = H[w.1 t i]?) (he : ∀ j, fv h' t i j = fv h t i j) : cellR w h' t i H' := by
  unfold cellR at hc ⊢
  have hf : (fun j => cV w (fv h' t i j)) = (fun j => cV w (fv h t i j)) := funext fun j => by rw [he j]
  rw [hf]
  split at hc
  · exact hc.kept hq
  · rw [hq]; exact hc
theorem HRep.set {w : XW} {h : AH} {H H' : Heap} (hR : HRep w h H) (hI : adInj w) {t i j : Nat} {n : Int} (hi : i < cntT t) (hc : cellR w (hset h t i j n) t i H') (oq : ∀ q, q ≠ w.1 t i → H'[q]? = H[q]?) : HRep w (hset h t i j n) H' := by
  intro t' i' hi'
  by_cases e : t' = t ∧ i' = i
  · obtain ⟨rfl, rfl⟩ := e; exact hc
  · refine cellR_kept (hR t' i' hi') (oq _ fun q => e (hI _ _ _ _ hi' hi q)) fun j' => fv_ne h n fun q => e ⟨q.1, q.2.1⟩
theorem cellR_arr {w : XW} {h : AH} {t i k : Nat} {H : Heap} (hk : kdT t = k + 1) (hc : cellR w h t i H) : H[w.1 t i]? = some (arrV (w.2.2 k) (lnT t) (fun j => cV w (fv h t i j))) := by
  unfold cellR at hc; rw [hk] at hc; exact hc
theorem cellR_obj {w : XW} {h : AH} {t i : Nat} {H : Heap} (hk : kdT t = 0) (hc : cellR w h t i H) : t_OB (w.1 t i) (w.2.1.1 (clT t)) (nfT t) (w.2.1.2 (clT t)) H (fun j => cV w (fv h t i j)) := by
  unfold cellR at hc; rw [hk] at hc; exact hc
theorem cellR_ofArr {w : XW} {h : AH} {t i k : Nat} {H : Heap} (hk : kdT t = k + 1) (hc : H[w.1 t i]? = some (arrV (w.2.2 k) (lnT t) (fun j => cV w (fv h t i j)))) : cellR w h t i H := by
  unfold cellR; rw [hk]; exact hc
theorem cellR_ofObj {w : XW} {h : AH} {t i : Nat} {H : Heap} (hk : kdT t = 0) (hc : t_OB (w.1 t i) (w.2.1.1 (clT t)) (nfT t) (w.2.1.2 (clT t)) H (fun j => cV w (fv h t i j))) : cellR w h t i H := by
  unfold cellR; rw [hk]; exact hc
theorem fv_upd {w : XW} {h : AH} {t i j : Nat} {n : Int} {v : AV} (hv : fv (hset h t i j n) t i j = v) : updV (fun j' => cV w (fv h t i j')) j (cV w v) = fun j' => cV w (fv (hset h t i j n) t i j') := by
  funext j'
  unfold updV
  by_cases e : j' = j
  · subst e; rw [if_pos rfl, hv]
  · rw [if_neg e, fv_ne h n fun q => e q.2.2]
/-- an array's store -/
theorem HRep.setA {w : XW} {h : AH} {H H' : Heap} (hR : HRep w h H) (hI : adInj w) {t i j k : Nat} {n : Int} {v : AV} (hi : i < cntT t) (hk : kdT t = k + 1) (hv : fv (hset h t i j n) t i j = v)
    (hc : H'[w.1 t i]? = some ((arrV (w.2.2 k) (lnT t) (fun j => cV w (fv h t i j))).setSlot j (cV w v))) (oq : ∀ q, q ≠ w.1 t i → H'[q]? = H[q]?) : HRep w (hset h t i j n) H' := by
  refine hR.set hI hi (cellR_ofArr hk ?_) oq
  rw [hc, arrV_store, fv_upd hv]
/-- integers -/
theorem i32_toInt {n : Int} (h : okI n) : (Int32.ofInt n).toInt = n := Int32.toInt_ofInt_of_le (by have := h.1; omega) (by have := h.2; omega)
theorem i64_toInt {n : Int} (h : okJ n) : (Int64.ofInt n).toInt = n := Int64.toInt_ofInt_of_le (by have := h.1; omega) (by have := h.2; omega)
theorem i32_lt {a b : Int} (ha : okI a) (hb : okI b) : (Int32.ofInt a < Int32.ofInt b) = (a < b) := by
  rw [Int32.lt_iff_toInt_lt, i32_toInt ha, i32_toInt hb]
theorem i32_le {a b : Int} (ha : okI a) (hb : okI b) : (Int32.ofInt a ≤ Int32.ofInt b) = (a ≤ b) := by
  rw [Int32.le_iff_toInt_le, i32_toInt ha, i32_toInt hb]
theorem i32_eq {a b : Int} (ha : okI a) (hb : okI b) : (Int32.ofInt a = Int32.ofInt b) = (a = b) := by
  apply propext
  rw [← Int32.toInt_inj, i32_toInt ha, i32_toInt hb]
theorem i64_lt {a b : Int} (ha : okJ a) (hb : okJ b) : (Int64.ofInt a < Int64.ofInt b) = (a < b) := by
  rw [Int64.lt_iff_toInt_lt, i64_toInt ha, i64_toInt hb]
theorem i64_le {a b : Int} (ha : okJ a) (hb : okJ b) : (Int64.ofInt a ≤ Int64.ofInt b) = (a ≤ b) := by
  rw [Int64.le_iff_toInt_le, i64_toInt ha, i64_toInt hb]
theorem i64_eq {a b : Int} (ha : okJ a) (hb : okJ b) : (Int64.ofInt a = Int64.ofInt b) = (a = b) := by
  apply propext
  rw [← Int64.toInt_inj, i64_toInt ha, i64_toInt hb]
theorem i32_div {a b : Int} (ha : okI a) (hb : okI b) (hq : okI (a.tdiv b)) : Int32.ofInt a / Int32.ofInt b = Int32.ofInt (a.tdiv b) := by
  rw [← Int32.toInt_inj, Int32.toInt_div, i32_toInt ha, i32_toInt hb, Int32.toInt_ofInt]
theorem i64_div {a b : Int} (ha : okJ a) (hb : okJ b) (hq : okJ (a.tdiv b)) : Int64.ofInt a / Int64.ofInt b = Int64.ofInt (a.tdiv b) := by
  rw [← Int64.toInt_inj, Int64.toInt_div, i64_toInt ha, i64_toInt hb, Int64.toInt_ofInt]
theorem i32_rem {a b : Int} (ha : okI a) (hb : okI b) (hq : okI (a.tdiv b)) : Int32.ofInt a - Int32.ofInt a / Int32.ofInt b * Int32.ofInt b = Int32.ofInt (a.tmod b) := by
  rw [i32_div ha hb hq, ← Int32.ofInt_mul, ← Int32.ofInt_sub]
  congr 1
  have := Int.tmod_def a b
  rw [this, Int.mul_comm]
theorem i64_rem {a b : Int} (ha : okJ a) (hb : okJ b) (hq : okJ (a.tdiv b)) : Int64.ofInt a - Int64.ofInt a / Int64.ofInt b * Int64.ofInt b = Int64.ofInt (a.tmod b) := by
  rw [i64_div ha hb hq, ← Int64.ofInt_mul, ← Int64.ofInt_sub]
  congr 1
  have := Int.tmod_def a b
  rw [this, Int.mul_comm]
theorem i32_i2l {a : Int} (ha : okI a) : (Int32.ofInt a).toInt64 = Int64.ofInt a := by
  rw [← Int64.toInt_inj, Int32.toInt_toInt64, i32_toInt ha, i64_toInt ⟨by have := ha.1; omega, by have := ha.2; omega⟩]
theorem i64_l2i {a : Int} (ha : okI a) : (Int64.ofInt a).toInt32 = Int32.ofInt a := by
  rw [← Int32.toInt_inj, Int64.toInt_toInt32, i32_toInt ha, i64_toInt ⟨by have := ha.1; omega, by have := ha.2; omega⟩]
  have h := Int32.toInt_ofInt (n := a)
  rw [i32_toInt ha] at h
  exact h.symm
theorem i32_in {a : Int} {n : Nat} (ha : okI a) (h0 : 0 ≤ a) (hn : a < n) : ¬ (Int32.ofInt a < 0 ∨ n ≤ (Int32.ofInt a).toNatClampNeg) := by
  have h1 : (Int32.ofInt a).toNatClampNeg = a.toNat := by rw [← Int32.toNat_toInt, i32_toInt ha]
  rw [h1]
  intro q
  rcases q with q | q
  · rw [Int32.lt_iff_toInt_lt, i32_toInt ha] at q
    have : (0 : Int32).toInt = 0 := rfl
    omega
  · omega
theorem i32_ix {a : Int} (ha : okI a) : (Int32.ofInt a).toNatClampNeg = a.toNat := by rw [← Int32.toNat_toInt, i32_toInt ha]

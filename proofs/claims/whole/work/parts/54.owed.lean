/-! Contracts: filling an array; what is owed. -/
set_option maxHeartbeats 1000000 in
theorem c_J_fill {l : Launch} (hl : l.stackTraces = false) {w : XW} {h : AH} {t i : Nat} {v : Int} (hk : kdT t = 1) (h0 : ∀ j, ftT t j = 0) (hn : lnT t ≤ 100) : AM l y_J_fill (wsM y_J_fill b_J_fill 4 none []) false (rmV 0 0) w [vO t i, vI v] h (RetP none (fun h' => h' = hfill h t i 0 (lnT t) v)) := by
  refine AM.of hl (by decide +kernel) (Nat.le_of_ble_eq_true rfl) fun x hx C _ => ?_
  have loop : ∀ (m : Nat) (k : Int), 0 ≤ k → k ≤ (lnT t : Int) → ((lnT t : Int) - k).toNat = m → AW x w 4 false 0 0 (AQ x w false 0 0 (RetP none (fun h' => h' = hfill h t i 0 (lnT t) v))) 5 [(2, vI k), (3, vI (lnT t : Int)), (0, vO t i), (1, vI v)] [] (hfill h t i 0 k.toNat v) := by
    intro m
    induction m using Nat.strongRecOn with
    | _ m ih =>
    intro k hi0 hi1 hm
    refine r_iload_n (i0 := 2) C d_J_fill_5 rfl rfl ?_
    refine r_iload_n (i0 := 3) C d_J_fill_6 rfl rfl ?_
    refine r_icmp_ge (tgt := 20) C d_J_fill_7 (by decide) (fun q7 => ?_) (fun q7 => ?_)
    · have e : k.toNat = lnT t := (by omega)
      rw [e]
      exact r_vret C d_J_fill_20 (⟨rfl, rfl⟩) (by decide) (fun q => nomatch q)
    · refine r_aload_n (i0 := 0) C d_J_fill_10 rfl rfl ?_
      refine r_iload_n (i0 := 2) C d_J_fill_11 rfl rfl ?_
      refine r_iload_n (i0 := 1) C d_J_fill_12 rfl rfl ?_
      refine r_iastore (ln := lnT t) C d_J_fill_13 hk h0 rfl (by omega) ?_
      refine r_iinc C d_J_fill_14 rfl (by decide) (by omega) ?_
      refine r_goto (tgt := 5) C d_J_fill_17 (by decide) ?_
      have e2 : (k + 1).toNat = k.toNat + 1 := by omega
      have ee := ih (m - 1) (by omega) (k + 1) (by omega) (by omega) (by omega)
      rw [e2] at ee
      have es := hfill_succ h t i 0 k.toNat v
      rw [Nat.zero_add] at es
      exact AW.lvs [(2, _), (3, _), (0, _), (1, _)] ⟨rfl, rfl, rfl, rfl, trivial⟩ (AW.heq es ee)
  refine r_iconst C d_J_fill_0 (by decide) ?_
  refine r_istore_n (i0 := 2) C d_J_fill_1 rfl (by decide) ?_
  refine r_aload_n (i0 := 0) C d_J_fill_2 rfl rfl ?_
  refine r_alen C d_J_fill_3 (k := 0) hk rfl (by omega) ?_
  refine r_istore_n (i0 := 3) C d_J_fill_4 rfl (by decide) ?_
  exact AW.lvs [(2, _), (3, _), (0, _), (1, _)] ⟨rfl, rfl, rfl, rfl, trivial⟩ (AW.dirty (AW.heq (hfill_zero h t i 0 v).symm (loop _ 0 (by omega) (by omega) rfl)))
def CO (h : AH) (n : Nat) : AH := fun t i j => if t = 25 ∧ i < n ∧ j < 21 then 0 else h t i j
theorem CO_zero (h : AH) : CO h 0 = h := by funext t i j; unfold CO; rw [if_neg (by omega)]
theorem CO_step (h : AH) (n : Nat) : hfill (CO h n) 25 n 0 (lnT 25) 0 = CO h (n + 1) := by
  funext t i j
  show (if t = 25 ∧ i = n ∧ 0 ≤ j ∧ j < 0 + 21 then 0 else CO h n t i j) = _
  unfold CO
  by_cases e : t = 25 ∧ i < n + 1 ∧ j < 21
  · rw [if_pos e]
    by_cases e2 : i = n
    · rw [if_pos (by omega)]
    · rw [if_neg (by omega), if_pos (by omega)]
  · rw [if_neg e, if_neg (by omega), if_neg (by omega)]
theorem CO_fr (h : AH) (n : Nat) {t : Nat} (e : t ≠ 25) : CO h n t = h t := by funext i j; unfold CO; rw [if_neg (by omega)]
theorem CO_25 (h : AH) {n i j : Nat} (hi : i < n) (hj : j < 21) : CO h n 25 i j = 0 := by unfold CO; rw [if_pos ⟨rfl, hi, hj⟩]
set_option maxHeartbeats 1000000 in
theorem c_A_clearOwed {l : Launch} (hl : l.stackTraces = false) {w : XW} {h : AH}  : AM l y_A_clearOwed (wsM y_A_clearOwed b_A_clearOwed 2 none []) false (rmV 1 0) w [vO 23 0] h (RetP none (fun h' => h' = CO h 3)) := by
  refine AM.of hl (by decide +kernel) (Nat.le_of_ble_eq_true rfl) fun x hx C _ => ?_
  have loop : ∀ (m : Nat) (k : Int), 0 ≤ k → k ≤ 3 → (3 - k).toNat = m → AW x w 2 false 0 0 (AQ x w false 0 0 (RetP none (fun h' => h' = CO h 3))) 2 [(1, vI k), (0, vO 23 0)] [] (CO h k.toNat) := by
    intro m
    induction m using Nat.strongRecOn with
    | _ m ih =>
    intro k hi0 hi1 hm
    refine r_iload_n (i0 := 1) C d_A_clearOwed_2 rfl rfl ?_
    refine r_iconst C d_A_clearOwed_3 (by decide) ?_
    refine r_icmp_ge (tgt := 23) C d_A_clearOwed_4 (by decide) (fun q4 => ?_) (fun q4 => ?_)
    · have e : k.toNat = 3 := (by omega)
      rw [e]
      exact r_vret C d_A_clearOwed_23 (⟨rfl, rfl⟩) (by decide) (fun q => nomatch q)
    · refine r_aload_n (i0 := 0) C d_A_clearOwed_7 rfl rfl ?_
      refine r_getO C fl_A_11 d_A_clearOwed_8 rfl rfl (fun hi => hi) ?_
      refine r_iload_n (i0 := 1) C d_A_clearOwed_11 rfl rfl ?_
      refine r_aaW C d_A_clearOwed_12 (by omega) ?_
      refine r_iconst C d_A_clearOwed_13 (by decide) ?_
      refine r_callSw C cl_A_30 st_J_fill (c_J_fill hx rfl (fun _ => rfl) (by decide)) rfl rfl d_A_clearOwed_14 (by decide) (by decide) (Nat.le_of_ble_eq_true rfl) (fun h14 p14 => ?_)
      subst p14
      refine r_iinc C d_A_clearOwed_17 rfl (by decide) (by omega) ?_
      refine r_goto (tgt := 2) C d_A_clearOwed_20 (by decide) ?_
      have e2 : (k + 1).toNat = k.toNat + 1 := by omega
      have ee := ih (m - 1) (by omega) (k + 1) (by omega) (by omega) (by omega)
      rw [e2] at ee
      exact AW.heq (CO_step h k.toNat) ee
  refine r_iconst C d_A_clearOwed_0 (by decide) ?_
  refine r_istore_n (i0 := 1) C d_A_clearOwed_1 rfl (by decide) ?_
  exact AW.dirty (AW.heq (CO_zero h).symm (loop _ 0 (by omega) (by omega) rfl))
set_option maxHeartbeats 1000000 in
theorem c_A_startYear {l : Launch} (hl : l.stackTraces = false) {w : XW} {h : AH}  : AM l y_A_startYear (wsM y_A_startYear b_A_startYear 1 none []) false (rmV 1 0) w [vO 23 0] h (RetP none (fun h' => h' = hfill (hfill (hfill h 26 0 0 21 0) 28 0 0 21 0) 27 0 0 20 0)) := by
  refine AM.of hl (by decide +kernel) (Nat.le_of_ble_eq_true rfl) fun x hx C _ => ?_
  refine r_aload_n (i0 := 0) C d_A_startYear_0 rfl rfl ?_
  refine r_getO C fl_A_16 d_A_startYear_1 rfl rfl (fun hi => hi) ?_
  refine r_iconst C d_A_startYear_4 (by decide) ?_
  refine r_callSw C cl_A_30 st_J_fill (c_J_fill hx rfl (fun _ => rfl) (by decide)) rfl rfl d_A_startYear_5 (by decide) (by decide) (Nat.le_of_ble_eq_true rfl) (fun h5 p5 => ?_)
  subst p5
  refine r_aload_n (i0 := 0) C d_A_startYear_8 rfl rfl ?_
  refine r_getO C fl_A_23 d_A_startYear_9 rfl rfl (fun hi => hi) ?_
  refine r_iconst C d_A_startYear_12 (by decide) ?_
  refine r_callSw C cl_A_30 st_J_fill (c_J_fill hx rfl (fun _ => rfl) (by decide)) rfl rfl d_A_startYear_13 (by decide) (by decide) (Nat.le_of_ble_eq_true rfl) (fun h13 p13 => ?_)
  subst p13
  refine r_aload_n (i0 := 0) C d_A_startYear_16 rfl rfl ?_
  refine r_getO C fl_A_20 d_A_startYear_17 rfl rfl (fun hi => hi) ?_
  refine r_iconst C d_A_startYear_20 (by decide) ?_
  refine r_callSw C cl_A_30 st_J_fill (c_J_fill hx rfl (fun _ => rfl) (by decide)) rfl rfl d_A_startYear_21 (by decide) (by decide) (Nat.le_of_ble_eq_true rfl) (fun h21 p21 => ?_)
  subst p21
  exact r_vret C d_A_startYear_24 (⟨rfl, rfl⟩) (by decide) (fun q => nomatch q)
def acF (n : Nat) (G ho : Nat → Int) (j : Nat) : Int := sumF n (fun s => if (ho s + 1).toNat = j then G s else 0)
def AC (g : AH) (a n : Nat) (G ho : Nat → Int) : AH := fun t i j => if t = 25 ∧ i = a ∧ j < 21 then acF n G ho j else g t i j
theorem AC_fr (g : AH) (a n : Nat) (G ho : Nat → Int) {t : Nat} (e : t ≠ 25) : AC g a n G ho t = g t := by funext i j; unfold AC; rw [if_neg (by omega)]
theorem AC_num (g : AH) (a n : Nat) (G ho : Nat → Int) {i : Nat} (e : i ≠ a) : AC g a n G ho 25 i = g 25 i := by funext j; unfold AC; rw [if_neg (by omega)]
theorem AC_at (g : AH) (a n : Nat) (G ho : Nat → Int) {j : Nat} (e : j < 21) : AC g a n G ho 25 a j = acF n G ho j := by unfold AC; rw [if_pos ⟨rfl, rfl, e⟩]
theorem AC_zero (g : AH) (a : Nat) (G ho : Nat → Int) (h0 : ∀ j : Nat, j < 21 → g 25 a j = 0) : g = AC g a 0 G ho := by
  funext t i j; unfold AC
  split
  · rename_i z; obtain ⟨rfl, rfl, z⟩ := z; exact h0 j z
  · rfl
theorem AC_step (g : AH) (a n : Nat) (G ho : Nat → Int) (hj : (ho n + 1).toNat < 21) : hset (AC g a n G ho) 25 a (ho n + 1).toNat (acF n G ho (ho n + 1).toNat + G n) = AC g a (n + 1) G ho := by
  funext t i j; unfold hset AC
  have ss : ∀ j, acF (n + 1) G ho j = acF n G ho j + (if (ho n + 1).toNat = j then G n else 0) := fun j => sumF_succ _ _
  by_cases e : t = 25 ∧ i = a ∧ j = (ho n + 1).toNat
  · rw [if_pos e, if_pos (by omega), e.2.2, ss, if_pos rfl]
  · rw [if_neg e]
    by_cases e2 : t = 25 ∧ i = a ∧ j < 21
    · rw [if_pos e2, if_pos e2, ss, if_neg (by omega)]; omega
    · rw [if_neg e2, if_neg e2]
theorem gvC_bd (n : Nat) (hn : 1 ≤ n) : ∀ (m : Nat) (r c : Nat → Int) (M : Int), (∀ s : Nat, s < n → 0 ≤ c s ∧ c s ≤ M) → ∀ s : Nat, s < n → 0 ≤ gvC n m r c s ∧ gvC n m r c s ≤ M + m := by
  intro m
  induction m with
  | zero => intro r c M hc s hs; have := hc s hs; show 0 ≤ c s ∧ c s ≤ M + ((0 : Nat) : Int); omega
  | succ m ih =>
    intro r c M hc s hs
    have g0 := gm_le r (n - 1)
    have z := ih (upI r (gm r (n - 1)) 0) (upI c (gm r (n - 1)) (c (gm r (n - 1)) + 1)) (M + 1) (fun q hq => by
      have y := hc q hq
      unfold upI; split
      · rename_i e; subst e; omega
      · omega) s hs
    show 0 ≤ gvC n m _ _ s ∧ gvC n m _ _ s ≤ _
    omega
theorem SPL.gv {h : AH} {n : Nat} {p D : Int} {N : Nat → Int} (H : SPL h n p D N) : ∀ s : Nat, s < n → 0 ≤ gvN n p D N s ∧ gvN n p D N s ≤ 260072 := by
  obtain ⟨hn, hp, hD, hA, hW⟩ := H
  intro s hs
  have z := gvC_bd n hn.1 (min (p - sumF n (fun s => N s / D)).toNat n) (fun s => N s % D) (fun s => N s / D) 260000 (fun s hs => by
    have y := hW s hs
    have ab := Int.mul_pos (show 0 < h 18 0 4 by omega) (show 0 < h 21 0 s by omega)
    show 0 ≤ N s / D ∧ N s / D ≤ 260000
    rw [← quo_eq ab hD y.2.2.2]
    have z := Int.ediv_le_ediv ab (Int.mul_le_mul_of_nonneg_left y.2.2.1 (show 0 ≤ p by omega))
    rw [Int.mul_ediv_cancel _ (by omega)] at z
    exact ⟨Int.ediv_nonneg (Int.mul_nonneg hp.1 y.1.1) (by omega), by omega⟩) s hs
  unfold gvN
  omega
theorem acF_bd {n : Nat} {G ho : Nat → Int} {M : Int} (hM : 0 ≤ M) (h : ∀ s : Nat, s < n → 0 ≤ G s ∧ G s ≤ M) (j : Nat) : 0 * (n : Int) ≤ acF n G ho j ∧ acF n G ho j ≤ M * n := sumF_bd fun s hs => by
  have := h s hs
  split <;> omega
set_option maxHeartbeats 1000000 in
theorem c_H_sharePart {l : Launch} (hl : l.stackTraces = false) {w : XW} {h : AH} {p a D : Int} {N : Nat → Int} (hS : SPok h) (ha : 0 ≤ a ∧ a < 3) (hs : SPL h (h 13 0 4).toNat p D N) (h0 : ∀ j : Nat, j < 21 → h 25 a.toNat j = 0) : AM l y_H_sharePart (wsM y_H_sharePart b_H_sharePart 4 none []) false (rmV 2 0) w [vO 1 0, vI p, vI a] h (RetP none (fun h' => (∀ t : Nat, t ≠ 19 → t ≠ 22 → t ≠ 25 → h' t = h t) ∧ (∀ i : Nat, i ≠ a.toNat → h' 25 i = h 25 i) ∧ ∀ j : Nat, j < 21 → h' 25 a.toNat j = acF (h 13 0 4).toNat (gvN (h 13 0 4).toNat p D N) (h 17 0) j)) := by
  refine AM.of hl (by decide +kernel) (Nat.le_of_ble_eq_true rfl) fun x hx C _ => ?_
  have c0 := hS.cnt
  have loop : ∀ (g : AH) (hg : (∀ t : Nat, t ≠ 19 → t ≠ 22 → g t = h t) ∧ ∀ s : Nat, s < (h 13 0 4).toNat → g 19 0 s = (gvN (h 13 0 4).toNat p D N) s) (m : Nat) (i : Int), 0 ≤ i → i ≤ (h 13 0 4) → ((h 13 0 4) - i).toNat = m → AW x w 4 false 0 0 (AQ x w false 0 0 (RetP none (fun h' => (∀ t : Nat, t ≠ 19 → t ≠ 22 → t ≠ 25 → h' t = h t) ∧ (∀ i : Nat, i ≠ a.toNat → h' 25 i = h 25 i) ∧ ∀ j : Nat, j < 21 → h' 25 a.toNat j = acF (h 13 0 4).toNat (gvN (h 13 0 4).toNat p D N) (h 17 0) j))) 17 [(3, vI i), (0, vO 1 0), (1, vI p), (2, vI a)] [] (AC g a.toNat i.toNat (gvN (h 13 0 4).toNat p D N) (h 17 0)) := by
    intro g hg
    intro m
    induction m using Nat.strongRecOn with
    | _ m ih =>
    intro i hi0 hi1 hm
    refine r_iload_n (i0 := 3) C d_H_sharePart_17 rfl rfl ?_
    refine r_aload_n (i0 := 0) C d_H_sharePart_18 rfl rfl ?_
    refine r_getO C fl_H_33 d_H_sharePart_19 rfl rfl (fun hi => hi) ?_
    refine r_getI C fl_H_294 d_H_sharePart_22 rfl ?_
    rw [AC_fr _ _ _ _ _ (by decide), hg.1 13 (by decide) (by decide)]
    refine r_icmp_ge (tgt := 67) C d_H_sharePart_25 (by decide) (fun q25 => ?_) (fun q25 => ?_)
    · have e : i.toNat = (h 13 0 4).toNat := (by omega)
      rw [e]
      exact r_vret C d_H_sharePart_67 (⟨rfl, fun t h1 h2 h3 => by rw [AC_fr _ _ _ _ _ h3, hg.1 t h1 h2], fun q hq => by rw [AC_num _ _ _ _ _ hq, hg.1 25 (by decide) (by decide)], fun j hj => AC_at _ _ _ _ _ hj⟩) (by decide) (fun q => nomatch q)
    · have hw := hS.ho i.toNat (by omega)
      have gv := hs.gv i.toNat (by omega)
      have ab := acF_bd (n := i.toNat) (G := (gvN (h 13 0 4).toNat p D N)) (ho := (h 17 0)) (M := 260072) (by omega) (fun s hq => hs.gv s (by omega)) (h 17 0 i.toNat + 1).toNat
      refine r_aload_n (i0 := 0) C d_H_sharePart_28 rfl rfl ?_
      refine r_getO C fl_H_47 d_H_sharePart_29 rfl rfl (fun hi => hi) ?_
      refine r_getO C fl_H_211 d_H_sharePart_32 rfl rfl (fun hi => hi) ?_
      refine r_iload_n (i0 := 2) C d_H_sharePart_35 rfl rfl ?_
      refine r_aaW C d_H_sharePart_36 (by omega) ?_
      refine r_aload_n (i0 := 0) C d_H_sharePart_37 rfl rfl ?_
      refine r_getO C fl_H_33 d_H_sharePart_38 rfl rfl (fun hi => hi) ?_
      refine r_getO C fl_H_298 d_H_sharePart_41 rfl rfl (fun hi => hi) ?_
      refine r_iload_n (i0 := 3) C d_H_sharePart_44 rfl rfl ?_
      refine r_iaload (ln := 72) C d_H_sharePart_45 rfl (fun _ => rfl) rfl (by omega) ?_
      rw [AC_fr _ _ _ _ _ (by decide), hg.1 17 (by decide) (by decide)]
      refine r_iconst C d_H_sharePart_46 (by decide) ?_
      refine r_iadd C d_H_sharePart_47 (by omega) ?_
      refine r_dup2 C d_H_sharePart_48 rfl rfl ?_
      refine r_iaload (ln := 21) C d_H_sharePart_49 rfl (fun _ => rfl) rfl (by omega) ?_
      rw [AC_at _ _ _ _ _ (by omega)]
      refine r_aload_n (i0 := 0) C d_H_sharePart_50 rfl rfl ?_
      refine r_getO C fl_H_40 d_H_sharePart_51 rfl rfl (fun hi => hi) ?_
      refine r_getO C fl_H_301 d_H_sharePart_54 rfl rfl (fun hi => hi) ?_
      refine r_iload_n (i0 := 3) C d_H_sharePart_57 rfl rfl ?_
      refine r_iaload (ln := 72) C d_H_sharePart_58 rfl (fun _ => rfl) rfl (by omega) ?_
      rw [AC_fr _ _ _ _ _ (by decide), hg.2 i.toNat (by omega)]
      refine r_iadd C d_H_sharePart_59 (by omega) ?_
      refine r_iastore (ln := 21) C d_H_sharePart_60 rfl (fun _ => rfl) rfl (by omega) ?_
      refine r_iinc C d_H_sharePart_61 rfl (by decide) (by omega) ?_
      refine r_goto (tgt := 17) C d_H_sharePart_64 (by decide) ?_
      have e2 : (i + 1).toNat = i.toNat + 1 := by omega
      have ee := ih (m - 1) (by omega) (i + 1) (by omega) (by omega) (by omega)
      rw [e2] at ee
      exact AW.lvs [(3, _), (0, _), (1, _), (2, _)] ⟨rfl, rfl, rfl, rfl, trivial⟩ (AW.heq (AC_step g a.toNat i.toNat (gvN (h 13 0 4).toNat p D N) (h 17 0) (by omega)) ee)
  refine r_aload_n (i0 := 0) C d_H_sharePart_0 rfl rfl ?_
  refine r_getO C fl_H_40 d_H_sharePart_1 rfl rfl (fun hi => hi) ?_
  refine r_iload_n (i0 := 1) C d_H_sharePart_4 rfl rfl ?_
  refine r_aload_n (i0 := 0) C d_H_sharePart_5 rfl rfl ?_
  refine r_getO C fl_H_33 d_H_sharePart_6 rfl rfl (fun hi => hi) ?_
  refine r_getI C fl_H_294 d_H_sharePart_9 rfl ?_
  refine r_callVw C cl_H_295 im_S_split rfl rfl (c_S_split hx hs) rfl rfl d_H_sharePart_12 (by decide) (by decide) (Nat.le_of_ble_eq_true rfl) (fun h12 p12 => ?_)
  refine r_iconst C d_H_sharePart_15 (by decide) ?_
  refine r_istore_n (i0 := 3) C d_H_sharePart_16 rfl (by decide) ?_
  exact AW.lvs [(3, _), (0, _), (1, _), (2, _)] ⟨rfl, rfl, rfl, rfl, trivial⟩ (AW.heq (AC_zero _ _ (gvN (h 13 0 4).toNat p D N) (h 17 0) (fun j hj => by rw [p12.1 25 (by decide) (by decide)]; exact h0 j hj)) (loop h12 p12 _ 0 (by omega) (by omega) rfl))

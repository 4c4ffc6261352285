/-! Contracts: stretches, whether the meters are fit, areas. -/
/-- 1 if a stretch ends at time t, for a meter of kind k with readings r -/
def esI (k : Int) (r : Nat → Int) (t : Int) : Int := if t = 12 ∨ (k = 0 ∧ r t.toNat ≠ -1) then 1 else 0
theorem esI_01 (k : Int) (r : Nat → Int) (t : Int) : esI k r t = 0 ∨ esI k r t = 1 := by unfold esI; split <;> simp
def suS (k fc sc un : Int) (r : Nat → Int) (a b : Int) : Int := if k = 0 then (r b.toNat - r a.toNat) * fc * sc else un
/-- the spans that are laid are within their ranges -/
def SPok (h : AH) : Prop := (0 ≤ h 13 0 4 ∧ h 13 0 4 ≤ 72) ∧ (∀ j : Nat, j < (h 13 0 4).toNat → 0 ≤ h 14 0 j ∧ h 14 0 j < h 2 0 1) ∧ (∀ j : Nat, j < (h 13 0 4).toNat → 0 ≤ h 15 0 j ∧ h 15 0 j < h 16 0 j ∧ h 16 0 j ≤ 12) ∧ (∀ j : Nat, j < (h 13 0 4).toNat → -1 ≤ h 17 0 j ∧ h 17 0 j < 20)
theorem SPok.cnt {h : AH} (H : SPok h) : 0 ≤ h 13 0 4 ∧ h 13 0 4 ≤ 72 := H.1
theorem SPok.fl {h : AH} (H : SPok h) : ∀ j : Nat, j < (h 13 0 4).toNat → 0 ≤ h 14 0 j ∧ h 14 0 j < h 2 0 1 := H.2.1
theorem SPok.fr {h : AH} (H : SPok h) : ∀ j : Nat, j < (h 13 0 4).toNat → 0 ≤ h 15 0 j ∧ h 15 0 j < h 16 0 j ∧ h 16 0 j ≤ 12 := H.2.2.1
theorem SPok.ho {h : AH} (H : SPok h) : ∀ j : Nat, j < (h 13 0 4).toNat → -1 ≤ h 17 0 j ∧ h 17 0 j < 20 := H.2.2.2
set_option maxHeartbeats 1000000 in
theorem c_P_months {l : Launch} (hl : l.stackTraces = false) {w : XW} {h : AH} {a : Int} (hS : SPok h) (ha : 0 ≤ a ∧ a < h 13 0 4) : AM l y_P_months (wsM y_P_months b_P_months 2 (some .int) []) true (rmV 0 0) w [vO 13 0, vI a] h (Ret (some (vI (h 16 0 a.toNat - h 15 0 a.toNat))) h) := by
  refine AM.of hl (by decide +kernel) (Nat.le_of_ble_eq_true rfl) fun x hx C _ => ?_
  refine r_aload_n (i0 := 0) C d_P_months_0 rfl rfl ?_
  refine r_getO C fl_P_18 d_P_months_1 rfl rfl (fun hi => hi) ?_
  refine r_iload_n (i0 := 1) C d_P_months_4 rfl rfl ?_
  refine r_iaload (ln := 72) C d_P_months_5 rfl (fun _ => rfl) rfl (by have := hS.cnt; omega) ?_
  refine r_aload_n (i0 := 0) C d_P_months_6 rfl rfl ?_
  refine r_getO C fl_P_15 d_P_months_7 rfl rfl (fun hi => hi) ?_
  refine r_iload_n (i0 := 1) C d_P_months_10 rfl rfl ?_
  refine r_iaload (ln := 72) C d_P_months_11 rfl (fun _ => rfl) rfl (by have := hS.cnt; omega) ?_
  refine r_isub C d_P_months_12 (by have h1 := hS.fr a.toNat (by omega); omega) ?_
  exact r_iret C d_P_months_13 (fun _ => ⟨rfl, rfl⟩) (by decide) (fun _ => ⟨rfl, rfl, rfl⟩)
set_option maxHeartbeats 1000000 in
theorem c_M_endsStretch {l : Launch} (hl : l.stackTraces = false) {w : XW} {h : AH} {f : Nat} {a b : Int} (ha : 0 ≤ a ∧ a < 6) (hb : 0 ≤ b ∧ b < 13) : AM l y_M_endsStretch (wsM y_M_endsStretch b_M_endsStretch 4 (some .boolean) []) true (rmV 0 0) w [vO 10 0, vO 4 f, vI a, vI b] h (Ret (some (vI (esI (h 11 0 a.toNat) (h 5 f) b))) h) := by
  refine AM.of hl (by decide +kernel) (Nat.le_of_ble_eq_true rfl) fun x hx C _ => ?_
  refine r_iload_n (i0 := 3) C d_M_endsStretch_0 rfl rfl ?_
  refine r_bipush C d_M_endsStretch_1 (by decide) (by decide) ?_
  refine r_icmp_eq (tgt := 25) C d_M_endsStretch_3 (by decide) (fun q3 => ?_) (fun q3 => ?_)
  · refine r_iconst C d_M_endsStretch_25 (by decide) ?_
    refine r_goto (tgt := 30) C d_M_endsStretch_26 (by decide) ?_
    exact r_zret C d_M_endsStretch_30 (by omega) (⟨vi_e (by unfold esI; split <;> omega), rfl⟩) (by decide) (fun _ => ⟨rfl, rfl, rfl⟩)
  · refine r_aload_n (i0 := 0) C d_M_endsStretch_6 rfl rfl ?_
    refine r_getO C fl_M_9 d_M_endsStretch_7 rfl rfl (fun hi => hi) ?_
    refine r_iload_n (i0 := 2) C d_M_endsStretch_10 rfl rfl ?_
    refine r_iaload (ln := 6) C d_M_endsStretch_11 rfl (fun _ => rfl) rfl (by omega) ?_
    refine r_if_ne (tgt := 29) C d_M_endsStretch_12 (by decide) (fun q12 => ?_) (fun q12 => ?_)
    · refine r_iconst C d_M_endsStretch_29 (by decide) ?_
      exact r_zret C d_M_endsStretch_30 (by omega) (⟨vi_e (by unfold esI; split <;> omega), rfl⟩) (by decide) (fun _ => ⟨rfl, rfl, rfl⟩)
    · refine r_aload_n (i0 := 1) C d_M_endsStretch_15 rfl rfl ?_
      refine r_getO C fl_M_87 d_M_endsStretch_16 rfl rfl (fun hi => hi) ?_
      refine r_iload_n (i0 := 3) C d_M_endsStretch_19 rfl rfl ?_
      refine r_iaload (ln := 13) C d_M_endsStretch_20 rfl (fun _ => rfl) rfl (by omega) ?_
      refine r_iconst C d_M_endsStretch_21 (by decide) ?_
      refine r_icmp_eq (tgt := 29) C d_M_endsStretch_22 (by decide) (fun q22 => ?_) (fun q22 => ?_)
      · refine r_iconst C d_M_endsStretch_29 (by decide) ?_
        exact r_zret C d_M_endsStretch_30 (by omega) (⟨vi_e (by unfold esI; split <;> omega), rfl⟩) (by decide) (fun _ => ⟨rfl, rfl, rfl⟩)
      · refine r_iconst C d_M_endsStretch_25 (by decide) ?_
        refine r_goto (tgt := 30) C d_M_endsStretch_26 (by decide) ?_
        exact r_zret C d_M_endsStretch_30 (by omega) (⟨vi_e (by unfold esI; split <;> omega), rfl⟩) (by decide) (fun _ => ⟨rfl, rfl, rfl⟩)
set_option maxHeartbeats 1000000 in
theorem c_M_stretchUnits {l : Launch} (hl : l.stackTraces = false) {w : XW} {h : AH} {f : Nat} {a b c : Int} (hr : ∀ t : Nat, t < 13 → -1 ≤ h 5 f t ∧ h 5 f t ≤ 99) (hf : 0 ≤ h 4 f 2 ∧ h 4 f 2 ≤ 2) (hs : 1 ≤ h 10 0 2 ∧ h 10 0 2 ≤ 360000) (ha : 0 ≤ a ∧ a < 6) (hb : 0 ≤ b ∧ b < 13) (hc : 0 ≤ c ∧ c < 13) : AM l y_M_stretchUnits (wsM y_M_stretchUnits b_M_stretchUnits 5 (some .long) []) true (rmV 1 0) w [vO 10 0, vO 4 f, vI a, vI b, vI c] h (Ret (some (vL (suS (h 11 0 a.toNat) (h 4 f 2) (h 10 0 2) (h 12 0 a.toNat) (h 5 f) b c))) h) := by
  refine AM.of hl (by decide +kernel) (Nat.le_of_ble_eq_true rfl) fun x hx C _ => ?_
  refine r_aload_n (i0 := 0) C d_M_stretchUnits_0 rfl rfl ?_
  refine r_getO C fl_M_9 d_M_stretchUnits_1 rfl rfl (fun hi => hi) ?_
  refine r_iload_n (i0 := 2) C d_M_stretchUnits_4 rfl rfl ?_
  refine r_iaload (ln := 6) C d_M_stretchUnits_5 rfl (fun _ => rfl) rfl (by omega) ?_
  refine r_if_ne (tgt := 25) C d_M_stretchUnits_6 (by decide) (fun q6 => ?_) (fun q6 => ?_)
  · refine r_aload_n (i0 := 0) C d_M_stretchUnits_25 rfl rfl ?_
    refine r_getO C fl_M_15 d_M_stretchUnits_26 rfl rfl (fun hi => hi) ?_
    refine r_iload_n (i0 := 2) C d_M_stretchUnits_29 rfl rfl ?_
    refine r_laload (ln := 6) C d_M_stretchUnits_30 rfl (fun _ => rfl) rfl (by omega) ?_
    exact r_lret C d_M_stretchUnits_31 (fun _ => ⟨vl_e (by unfold suS; first | (rw [if_pos (by omega)]; done) | (rw [if_neg (by omega)]; done)), rfl⟩) (by decide) (fun _ => ⟨rfl, rfl, rfl⟩)
  · refine r_aload_n (i0 := 1) C d_M_stretchUnits_9 rfl rfl ?_
    refine r_iload_n (i0 := 3) C d_M_stretchUnits_10 rfl rfl ?_
    refine r_iload C d_M_stretchUnits_11 rfl ?_
    refine r_callVp C cl_M_90 im_F_unitsBetween rfl rfl (c_F_unitsBetween hx hr hf hb hc) rfl rfl d_M_stretchUnits_13 (by decide) (Nat.le_of_ble_eq_true rfl) ?_
    refine r_i2l C d_M_stretchUnits_16 ?_
    refine r_aload_n (i0 := 0) C d_M_stretchUnits_17 rfl rfl ?_
    refine r_getL C fl_M_19 d_M_stretchUnits_18 rfl ?_
    refine r_lmul C d_M_stretchUnits_21 (by have r1 := hr c.toNat (by omega); have r2 := hr b.toNat (by omega); have m1 := mulB (A := 100) (B := 2) (a := h 5 f c.toNat - h 5 f b.toNat) (b := h 4 f 2) (by omega) (by omega); have m2 := mulB (A := 200) (B := 360000) (a := ((h 5 f c.toNat - h 5 f b.toNat) * h 4 f 2)) (b := h 10 0 2) (by omega) (by omega); omega) ?_
    refine r_goto (tgt := 31) C d_M_stretchUnits_22 (by decide) ?_
    exact r_lret C d_M_stretchUnits_31 (fun _ => ⟨vl_e (by unfold suS; first | (rw [if_pos (by omega)]; done) | (rw [if_neg (by omega)]; done)), rfl⟩) (by decide) (fun _ => ⟨rfl, rfl, rfl⟩)
set_option maxHeartbeats 1000000 in
theorem c_O_allArea {l : Launch} (hl : l.stackTraces = false) {w : XW} {h : AH} (hc : 0 ≤ h 2 0 1 ∧ h 2 0 1 ≤ 6) (har : ∀ f : Nat, f < 6 → 0 ≤ h 4 f 0 ∧ h 4 f 0 ≤ 50) : AM l y_O_allArea (wsM y_O_allArea b_O_allArea 3 (some .int) []) true (rmV 0 0) w [vO 2 0] h (Ret (some (vI (sumF (h 2 0 1).toNat (fun f => h 4 f 0)))) h) := by
  refine AM.of hl (by decide +kernel) (Nat.le_of_ble_eq_true rfl) fun x hx C _ => ?_
  have loop : ∀ (m : Nat) (i A : Int), 0 ≤ i → i ≤ h 2 0 1 → (h 2 0 1 - i).toNat = m → A = sumF i.toNat (fun f => h 4 f 0) → AW x w 3 true 0 0 (AQ x w true 0 0 (Ret (some (vI (sumF (h 2 0 1).toNat (fun f => h 4 f 0)))) h)) 4 [(2, vI i), (1, vI A), (0, vO 2 0)] [] h := by
    intro m
    induction m using Nat.strongRecOn with
    | _ m ih =>
    intro i A hi0 hi1 hm hA
    refine r_iload_n (i0 := 2) C d_O_allArea_4 rfl rfl ?_
    refine r_aload_n (i0 := 0) C d_O_allArea_5 rfl rfl ?_
    refine r_getI C fl_O_17 d_O_allArea_6 rfl ?_
    refine r_icmp_ge (tgt := 30) C d_O_allArea_9 (by decide) (fun q9 => ?_) (fun q9 => ?_)
    · refine r_iload_n (i0 := 1) C d_O_allArea_30 rfl rfl ?_
      exact r_iret C d_O_allArea_31 (fun _ => ⟨vi_e (by rw [hA, show i.toNat = (h 2 0 1).toNat by omega]), rfl⟩) (by decide) (fun _ => ⟨rfl, rfl, rfl⟩)
    · refine r_iload_n (i0 := 1) C d_O_allArea_12 rfl rfl ?_
      refine r_aload_n (i0 := 0) C d_O_allArea_13 rfl rfl ?_
      refine r_getO C fl_O_11 d_O_allArea_14 rfl rfl (fun hi => hi) ?_
      refine r_iload_n (i0 := 2) C d_O_allArea_17 rfl rfl ?_
      refine r_aaF C d_O_allArea_18 (by omega) ?_
      refine r_getI C fl_O_22 d_O_allArea_19 rfl ?_
      refine r_iadd C d_O_allArea_22 (by have s1 := sumF_bd (g := (fun f => h 4 f 0)) (L := 0) (M := 50) (n := i.toNat) (fun k hk => har k (by omega)); have s2 := har i.toNat (by omega); omega) ?_
      refine r_istore_n (i0 := 1) C d_O_allArea_23 rfl (by decide) ?_
      refine r_iinc C d_O_allArea_24 rfl (by decide) (by omega) ?_
      refine r_goto (tgt := 4) C d_O_allArea_27 (by decide) ?_
      exact ih (m - 1) (by omega) (i + 1) _ (by omega) (by omega) (by omega) (by rw [sumF_int hi0, hA])
  refine r_iconst C d_O_allArea_0 (by decide) ?_
  refine r_istore_n (i0 := 1) C d_O_allArea_1 rfl (by decide) ?_
  refine r_iconst C d_O_allArea_2 (by decide) ?_
  refine r_istore_n (i0 := 2) C d_O_allArea_3 rfl (by decide) ?_
  exact loop _ 0 _ (by omega) (by omega) rfl rfl
def anyF (n : Nat) (p : Nat → Bool) : Bool := match n with
  | 0 => false
  | n + 1 => anyF n p || p n
theorem anyF_hit {p : Nat → Bool} : ∀ {n k : Nat}, k < n → p k = true → anyF n p = true := by
  intro n
  induction n with
  | zero => intro k hk _; exact absurd hk (Nat.not_lt_zero _)
  | succ n ih =>
    intro k hk hp
    show (anyF n p || p n) = true
    by_cases e : k = n
    · subst e; rw [hp]; simp
    · rw [ih (by omega) hp]; rfl
theorem anyF_no {p : Nat → Bool} {n : Nat} (h : anyF n p = false) (hp : p n = false) : anyF (n + 1) p = false := by
  show (anyF n p || p n) = false
  rw [h, hp]; rfl
theorem anyF_ex {p : Nat → Bool} : ∀ {n : Nat}, anyF n p = true → ∃ k, k < n ∧ p k = true := by
  intro n
  induction n with
  | zero => intro h; cases h
  | succ n ih =>
    intro h
    by_cases z : anyF n p = true
    · obtain ⟨k, hk, hp⟩ := ih z; exact ⟨k, by omega, hp⟩
    · have h' : (anyF n p || p n) = true := h
      rw [Bool.eq_false_iff.mpr z] at h'
      exact ⟨n, by omega, by simpa using h'⟩
set_option maxHeartbeats 1000000 in
theorem c_O_hasWaterArea {l : Launch} (hl : l.stackTraces = false) {w : XW} {h : AH} (hc : 0 ≤ h 2 0 1 ∧ h 2 0 1 ≤ 6) : AM l y_O_hasWaterArea (wsM y_O_hasWaterArea b_O_hasWaterArea 2 (some .boolean) []) true (rmV 0 0) w [vO 2 0] h (Ret (some (vI (if anyF (h 2 0 1).toNat (fun f => decide (0 < h 4 f 1)) = true then 1 else 0))) h) := by
  refine AM.of hl (by decide +kernel) (Nat.le_of_ble_eq_true rfl) fun x hx C _ => ?_
  have loop : ∀ (m : Nat) (i : Int), 0 ≤ i → i ≤ h 2 0 1 → (h 2 0 1 - i).toNat = m → anyF i.toNat (fun f => decide (0 < h 4 f 1)) = false → AW x w 2 true 0 0 (AQ x w true 0 0 (Ret (some (vI (if anyF (h 2 0 1).toNat (fun f => decide (0 < h 4 f 1)) = true then 1 else 0))) h)) 2 [(1, vI i), (0, vO 2 0)] [] h := by
    intro m
    induction m using Nat.strongRecOn with
    | _ m ih =>
    intro i hi0 hi1 hm hA
    refine r_iload_n (i0 := 1) C d_O_hasWaterArea_2 rfl rfl ?_
    refine r_aload_n (i0 := 0) C d_O_hasWaterArea_3 rfl rfl ?_
    refine r_getI C fl_O_17 d_O_hasWaterArea_4 rfl ?_
    refine r_icmp_ge (tgt := 30) C d_O_hasWaterArea_7 (by decide) (fun q7 => ?_) (fun q7 => ?_)
    · refine r_iconst C d_O_hasWaterArea_30 (by decide) ?_
      exact r_zret C d_O_hasWaterArea_31 (by omega) (⟨vi_e (by rw [← show i.toNat = (h 2 0 1).toNat by omega, hA]; rfl), rfl⟩) (by decide) (fun _ => ⟨rfl, rfl, rfl⟩)
    · refine r_aload_n (i0 := 0) C d_O_hasWaterArea_10 rfl rfl ?_
      refine r_getO C fl_O_11 d_O_hasWaterArea_11 rfl rfl (fun hi => hi) ?_
      refine r_iload_n (i0 := 1) C d_O_hasWaterArea_14 rfl rfl ?_
      refine r_aaF C d_O_hasWaterArea_15 (by omega) ?_
      refine r_getI C fl_O_25 d_O_hasWaterArea_16 rfl ?_
      refine r_if_le (tgt := 24) C d_O_hasWaterArea_19 (by decide) (fun q19 => ?_) (fun q19 => ?_)
      · refine r_iinc C d_O_hasWaterArea_24 rfl (by decide) (by omega) ?_
        refine r_goto (tgt := 2) C d_O_hasWaterArea_27 (by decide) ?_
        have e2 : (i + 1).toNat = i.toNat + 1 := by omega
        exact ih (m - 1) (by omega) (i + 1) (by omega) (by omega) (by omega) (by rw [e2]; exact anyF_no hA (by simp; omega))
      · refine r_iconst C d_O_hasWaterArea_22 (by decide) ?_
        exact r_zret C d_O_hasWaterArea_23 (by omega) (⟨vi_e (by rw [if_pos (anyF_hit (k := i.toNat) (by omega) (by simp; omega))]), rfl⟩) (by decide) (fun _ => ⟨rfl, rfl, rfl⟩)
  refine r_iconst C d_O_hasWaterArea_0 (by decide) ?_
  refine r_istore_n (i0 := 1) C d_O_hasWaterArea_1 rfl (by decide) ?_
  exact loop _ 0 (by omega) (by omega) rfl rfl
/-- whether span j begins inside a stretch -/
def ctB (h : AH) : Nat → Bool := fun j => decide (0 < h 15 0 j) && decide (esI (h 11 0 (h 14 0 j).toNat) (h 5 (h 14 0 j).toNat) (h 15 0 j) = 0)
set_option maxHeartbeats 1000000 in
theorem c_P_cutStretches {l : Launch} (hl : l.stackTraces = false) {w : XW} {h : AH} (hc : 0 ≤ h 2 0 1 ∧ h 2 0 1 ≤ 6) (hS : SPok h) : AM l y_P_cutStretches (wsM y_P_cutStretches b_P_cutStretches 5 (some .boolean) []) true (rmV 1 0) w [vO 13 0, vO 2 0, vO 10 0] h (Ret (some (vI (if anyF (h 13 0 4).toNat (ctB h) = true then 1 else 0))) h) := by
  refine AM.of hl (by decide +kernel) (Nat.le_of_ble_eq_true rfl) fun x hx C _ => ?_
  have c0 := hS.cnt
  have loop : ∀ (m : Nat) (i : Int), 0 ≤ i → i ≤ h 13 0 4 → (h 13 0 4 - i).toNat = m → anyF i.toNat (ctB h) = false → AW x w 5 true 0 0 (AQ x w true 0 0 (Ret (some (vI (if anyF (h 13 0 4).toNat (ctB h) = true then 1 else 0))) h)) 2 [(3, vI i), (0, vO 13 0), (1, vO 2 0), (2, vO 10 0)] [] h := by
    intro m
    induction m using Nat.strongRecOn with
    | _ m ih =>
    intro i hi0 hi1 hm hA
    refine r_iload_n (i0 := 3) C d_P_cutStretches_2 rfl rfl ?_
    refine r_aload_n (i0 := 0) C d_P_cutStretches_3 rfl rfl ?_
    refine r_getI C fl_P_24 d_P_cutStretches_4 rfl ?_
    refine r_icmp_ge (tgt := 57) C d_P_cutStretches_7 (by decide) (fun q7 => ?_) (fun q7 => ?_)
    · refine r_iconst C d_P_cutStretches_57 (by decide) ?_
      exact r_zret C d_P_cutStretches_58 (by omega) (⟨vi_e (by rw [← show i.toNat = (h 13 0 4).toNat by omega, hA]; rfl), rfl⟩) (by decide) (fun _ => ⟨rfl, rfl, rfl⟩)
    · have c1 := hS.cnt
      have f1 := hS.fl i.toNat (by omega)
      have r1 := hS.fr i.toNat (by omega)
      refine r_aload_n (i0 := 0) C d_P_cutStretches_10 rfl rfl ?_
      refine r_getO C fl_P_9 d_P_cutStretches_11 rfl rfl (fun hi => hi) ?_
      refine r_iload_n (i0 := 3) C d_P_cutStretches_14 rfl rfl ?_
      refine r_iaload (ln := 72) C d_P_cutStretches_15 rfl (fun _ => rfl) rfl (by omega) ?_
      refine r_istore C d_P_cutStretches_16 (by decide) ?_
      refine r_aload_n (i0 := 0) C d_P_cutStretches_18 rfl rfl ?_
      refine r_getO C fl_P_15 d_P_cutStretches_19 rfl rfl (fun hi => hi) ?_
      refine r_iload_n (i0 := 3) C d_P_cutStretches_22 rfl rfl ?_
      refine r_iaload (ln := 72) C d_P_cutStretches_23 rfl (fun _ => rfl) rfl (by omega) ?_
      refine r_if_le (tgt := 51) C d_P_cutStretches_24 (by decide) (fun q24 => ?_) (fun q24 => ?_)
      · refine r_iinc C d_P_cutStretches_51 rfl (by decide) (by omega) ?_
        refine r_goto (tgt := 2) C d_P_cutStretches_54 (by decide) ?_
        have e2 : (i + 1).toNat = i.toNat + 1 := by omega
        refine AW.lvs [(3, _), (0, _), (1, _), (2, _)] ⟨rfl, rfl, rfl, rfl, trivial⟩ (ih (m - 1) (by omega) (i + 1) (by omega) (by omega) (by omega) (by rw [e2]; exact anyF_no hA (by unfold ctB; simp; omega)))
      · refine r_aload_n (i0 := 2) C d_P_cutStretches_27 rfl rfl ?_
        refine r_aload_n (i0 := 1) C d_P_cutStretches_28 rfl rfl ?_
        refine r_getO C fl_P_31 d_P_cutStretches_29 rfl rfl (fun hi => hi) ?_
        refine r_iload C d_P_cutStretches_32 rfl ?_
        refine r_aaF C d_P_cutStretches_34 (by omega) ?_
        refine r_iload C d_P_cutStretches_35 rfl ?_
        refine r_aload_n (i0 := 0) C d_P_cutStretches_37 rfl rfl ?_
        refine r_getO C fl_P_15 d_P_cutStretches_38 rfl rfl (fun hi => hi) ?_
        refine r_iload_n (i0 := 3) C d_P_cutStretches_41 rfl rfl ?_
        refine r_iaload (ln := 72) C d_P_cutStretches_42 rfl (fun _ => rfl) rfl (by omega) ?_
        refine r_callVp C cl_P_55 im_M_endsStretch rfl rfl (c_M_endsStretch hx (by omega) (by omega)) rfl rfl d_P_cutStretches_43 (by decide) (Nat.le_of_ble_eq_true rfl) ?_
        refine r_if_ne (tgt := 51) C d_P_cutStretches_46 (by decide) (fun q46 => ?_) (fun q46 => ?_)
        · refine r_iinc C d_P_cutStretches_51 rfl (by decide) (by omega) ?_
          refine r_goto (tgt := 2) C d_P_cutStretches_54 (by decide) ?_
          have e2 : (i + 1).toNat = i.toNat + 1 := by omega
          refine AW.lvs [(3, _), (0, _), (1, _), (2, _)] ⟨rfl, rfl, rfl, rfl, trivial⟩ (ih (m - 1) (by omega) (i + 1) (by omega) (by omega) (by omega) (by rw [e2]; exact anyF_no hA (by unfold ctB; simp; omega)))
        · refine r_iconst C d_P_cutStretches_49 (by decide) ?_
          exact r_zret C d_P_cutStretches_50 (by omega) (⟨vi_e (by rw [if_pos (anyF_hit (k := i.toNat) (by omega) (by unfold ctB; simp; omega))]), rfl⟩) (by decide) (fun _ => ⟨rfl, rfl, rfl⟩)
  refine r_iconst C d_P_cutStretches_0 (by decide) ?_
  refine r_istore_n (i0 := 3) C d_P_cutStretches_1 rfl (by decide) ?_
  exact AW.lvs [(3, _), (0, _), (1, _), (2, _)] ⟨rfl, rfl, rfl, rfl, trivial⟩ (loop _ 0 (by omega) (by omega) rfl rfl)
/-- the areas of the flats that are not read; whether the meters are fit -/
def oaG (kd ar : Nat → Int) : Nat → Int := fun f => if kd f = 0 then 0 else ar f
def fitI (n : Nat) (kd ar : Nat → Int) (au : Int) : Int := if anyF n (fun f => decide (kd f = 3)) = false ∧ 4 * sumF n (oaG kd ar) ≤ sumF n ar ∧ 0 < au then 1 else 0
set_option maxHeartbeats 1000000 in
theorem c_M_areFitFor {l : Launch} (hl : l.stackTraces = false) {w : XW} {h : AH} (hc : 0 ≤ h 2 0 1 ∧ h 2 0 1 ≤ 6) (har : ∀ f : Nat, f < 6 → 0 ≤ h 4 f 0 ∧ h 4 f 0 ≤ 50) : AM l y_M_areFitFor (wsM y_M_areFitFor b_M_areFitFor 4 (some .boolean) []) true (rmV 1 0) w [vO 10 0, vO 2 0] h (Ret (some (vI (fitI (h 2 0 1).toNat (h 11 0) (fun f => h 4 f 0) (h 10 0 3)))) h) := by
  refine AM.of hl (by decide +kernel) (Nat.le_of_ble_eq_true rfl) fun x hx C _ => ?_
  have loop : ∀ (m : Nat) (i A : Int), 0 ≤ i → i ≤ h 2 0 1 → (h 2 0 1 - i).toNat = m → A = sumF i.toNat (oaG (h 11 0) (fun f => h 4 f 0)) → anyF i.toNat (fun f => decide ((h 11 0) f = 3)) = false → AW x w 4 true 0 0 (AQ x w true 0 0 (Ret (some (vI (fitI (h 2 0 1).toNat (h 11 0) (fun f => h 4 f 0) (h 10 0 3)))) h)) 4 [(3, vI i), (2, vI A), (0, vO 10 0), (1, vO 2 0)] [] h := by
    intro m
    induction m using Nat.strongRecOn with
    | _ m ih =>
    intro i A hi0 hi1 hm hA hB
    refine r_iload_n (i0 := 3) C d_M_areFitFor_4 rfl rfl ?_
    refine r_aload_n (i0 := 1) C d_M_areFitFor_5 rfl rfl ?_
    refine r_getI C fl_M_43 d_M_areFitFor_6 rfl ?_
    refine r_icmp_ge (tgt := 51) C d_M_areFitFor_9 (by decide) (fun q9 => ?_) (fun q9 => ?_)
    · refine r_iconst C d_M_areFitFor_51 (by decide) ?_
      refine r_iload_n (i0 := 2) C d_M_areFitFor_52 rfl rfl ?_
      refine r_imul C d_M_areFitFor_53 (by have s1 := sumF_bd (g := (oaG (h 11 0) (fun f => h 4 f 0))) (L := 0) (M := 50) (n := i.toNat) (fun k hk => by have := har k (by omega); unfold oaG; split <;> omega); omega) ?_
      refine r_aload_n (i0 := 1) C d_M_areFitFor_54 rfl rfl ?_
      refine r_callVp C cl_M_84 im_O_allArea rfl rfl (c_O_allArea hx hc har) rfl rfl d_M_areFitFor_55 (by decide) (Nat.le_of_ble_eq_true rfl) ?_
      refine r_icmp_gt (tgt := 74) C d_M_areFitFor_58 (by decide) (fun q58 => ?_) (fun q58 => ?_)
      · refine r_iconst C d_M_areFitFor_74 (by decide) ?_
        exact r_zret C d_M_areFitFor_75 (by omega) (⟨vi_e (by have e : i.toNat = (h 2 0 1).toNat := (by omega); rw [e] at hA hB; unfold fitI; rw [← hA]; first | (rw [if_pos ⟨hB, by omega, by omega⟩]; done) | (rw [if_neg (by omega)]; done)), rfl⟩) (by decide) (fun _ => ⟨rfl, rfl, rfl⟩)
      · refine r_aload_n (i0 := 0) C d_M_areFitFor_61 rfl rfl ?_
        refine r_getL C fl_M_23 d_M_areFitFor_62 rfl ?_
        refine r_lconst C 0 d_M_areFitFor_65 (by decide) (by decide) ?_
        refine r_lcmp_le (tgt := 74) C d_M_areFitFor_66 d_M_areFitFor_67 (by decide) (fun q66 => ?_) (fun q66 => ?_)
        · refine r_iconst C d_M_areFitFor_74 (by decide) ?_
          exact r_zret C d_M_areFitFor_75 (by omega) (⟨vi_e (by have e : i.toNat = (h 2 0 1).toNat := (by omega); rw [e] at hA hB; unfold fitI; rw [← hA]; first | (rw [if_pos ⟨hB, by omega, by omega⟩]; done) | (rw [if_neg (by omega)]; done)), rfl⟩) (by decide) (fun _ => ⟨rfl, rfl, rfl⟩)
        · refine r_iconst C d_M_areFitFor_70 (by decide) ?_
          refine r_goto (tgt := 75) C d_M_areFitFor_71 (by decide) ?_
          exact r_zret C d_M_areFitFor_75 (by omega) (⟨vi_e (by have e : i.toNat = (h 2 0 1).toNat := (by omega); rw [e] at hA hB; unfold fitI; rw [← hA]; first | (rw [if_pos ⟨hB, by omega, by omega⟩]; done) | (rw [if_neg (by omega)]; done)), rfl⟩) (by decide) (fun _ => ⟨rfl, rfl, rfl⟩)
    · refine r_aload_n (i0 := 0) C d_M_areFitFor_12 rfl rfl ?_
      refine r_getO C fl_M_9 d_M_areFitFor_13 rfl rfl (fun hi => hi) ?_
      refine r_iload_n (i0 := 3) C d_M_areFitFor_16 rfl rfl ?_
      refine r_iaload (ln := 6) C d_M_areFitFor_17 rfl (fun _ => rfl) rfl (by omega) ?_
      refine r_iconst C d_M_areFitFor_18 (by decide) ?_
      refine r_icmp_ne (tgt := 24) C d_M_areFitFor_19 (by decide) (fun q19 => ?_) (fun q19 => ?_)
      · refine r_aload_n (i0 := 0) C d_M_areFitFor_24 rfl rfl ?_
        refine r_getO C fl_M_9 d_M_areFitFor_25 rfl rfl (fun hi => hi) ?_
        refine r_iload_n (i0 := 3) C d_M_areFitFor_28 rfl rfl ?_
        refine r_iaload (ln := 6) C d_M_areFitFor_29 rfl (fun _ => rfl) rfl (by omega) ?_
        refine r_if_eq (tgt := 45) C d_M_areFitFor_30 (by decide) (fun q30 => ?_) (fun q30 => ?_)
        · refine r_iinc C d_M_areFitFor_45 rfl (by decide) (by omega) ?_
          refine r_goto (tgt := 4) C d_M_areFitFor_48 (by decide) ?_
          have e2 : (i + 1).toNat = i.toNat + 1 := by omega
          refine AW.lvs [(3, _), (2, _), (0, _), (1, _)] ⟨rfl, rfl, rfl, rfl, trivial⟩ (ih (m - 1) (by omega) (i + 1) _ (by omega) (by omega) (by omega) ?_ (by rw [e2]; exact anyF_no hB (by simp; omega)))
          rw [sumF_int hi0, hA]
          show _ = _ + (if h 11 0 i.toNat = 0 then 0 else h 4 i.toNat 0)
          split <;> omega
        · refine r_iload_n (i0 := 2) C d_M_areFitFor_33 rfl rfl ?_
          refine r_aload_n (i0 := 1) C d_M_areFitFor_34 rfl rfl ?_
          refine r_getO C fl_M_48 d_M_areFitFor_35 rfl rfl (fun hi => hi) ?_
          refine r_iload_n (i0 := 3) C d_M_areFitFor_38 rfl rfl ?_
          refine r_aaF C d_M_areFitFor_39 (by omega) ?_
          refine r_getI C fl_M_70 d_M_areFitFor_40 rfl ?_
          refine r_iadd C d_M_areFitFor_43 (by have s1 := sumF_bd (g := (oaG (h 11 0) (fun f => h 4 f 0))) (L := 0) (M := 50) (n := i.toNat) (fun k hk => by have := har k (by omega); unfold oaG; split <;> omega); have s2 := har i.toNat (by omega); omega) ?_
          refine r_istore_n (i0 := 2) C d_M_areFitFor_44 rfl (by decide) ?_
          refine r_iinc C d_M_areFitFor_45 rfl (by decide) (by omega) ?_
          refine r_goto (tgt := 4) C d_M_areFitFor_48 (by decide) ?_
          have e2 : (i + 1).toNat = i.toNat + 1 := by omega
          refine AW.lvs [(3, _), (2, _), (0, _), (1, _)] ⟨rfl, rfl, rfl, rfl, trivial⟩ (ih (m - 1) (by omega) (i + 1) _ (by omega) (by omega) (by omega) ?_ (by rw [e2]; exact anyF_no hB (by simp; omega)))
          rw [sumF_int hi0, hA]
          show _ = _ + (if h 11 0 i.toNat = 0 then 0 else h 4 i.toNat 0)
          split <;> omega
      · refine r_iconst C d_M_areFitFor_22 (by decide) ?_
        exact r_zret C d_M_areFitFor_23 (by omega) (⟨vi_e (by unfold fitI; rw [if_neg (by rw [anyF_hit (k := i.toNat) (by omega) (by simp; omega)]; simp)]), rfl⟩) (by decide) (fun _ => ⟨rfl, rfl, rfl⟩)
  refine r_iconst C d_M_areFitFor_0 (by decide) ?_
  refine r_istore_n (i0 := 2) C d_M_areFitFor_1 rfl (by decide) ?_
  refine r_iconst C d_M_areFitFor_2 (by decide) ?_
  refine r_istore_n (i0 := 3) C d_M_areFitFor_3 rfl (by decide) ?_
  exact AW.lvs [(3, _), (2, _), (0, _), (1, _)] ⟨rfl, rfl, rfl, rfl, trivial⟩ (loop _ 0 _ (by omega) (by omega) rfl rfl rfl)
set_option maxHeartbeats 1000000 in
theorem c_M_wholeUnits {l : Launch} (hl : l.stackTraces = false) {w : XW} {h : AH} {a : Int} (ha : 0 ≤ a ∧ a < 6) (hs : 1 ≤ h 10 0 2) (hu : 0 ≤ h 12 0 a.toNat ∧ h 12 0 a.toNat ≤ 200 * h 10 0 2) : AM l y_M_wholeUnits (wsM y_M_wholeUnits b_M_wholeUnits 4 (some .int) []) true (rmV 0 0) w [vO 10 0, vI a] h (Ret (some (vI (if 0 < (h 12 0 a.toNat / h 10 0 2) then (h 12 0 a.toNat / h 10 0 2) else -1))) h) := by
  refine AM.of hl (by decide +kernel) (Nat.le_of_ble_eq_true rfl) fun x hx C _ => ?_
  have hq : (h 12 0 a.toNat / h 10 0 2) ≤ 200 := by have q := Int.ediv_le_ediv (show 0 < h 10 0 2 by omega) hu.2; rwa [Int.mul_ediv_cancel _ (by omega)] at q
  have hq0 : 0 ≤ (h 12 0 a.toNat / h 10 0 2) := Int.ediv_nonneg hu.1 (by omega)
  refine r_aload_n (i0 := 0) C d_M_wholeUnits_0 rfl rfl ?_
  refine r_getL C fl_M_19 d_M_wholeUnits_1 rfl ?_
  refine r_lconst C 0 d_M_wholeUnits_4 (by decide) (by decide) ?_
  refine r_lcmp_le (tgt := 23) C d_M_wholeUnits_5 d_M_wholeUnits_6 (by decide) (fun q5 => ?_) (fun q5 => ?_)
  · exfalso; omega 
  · refine r_aload_n (i0 := 0) C d_M_wholeUnits_9 rfl rfl ?_
    refine r_getO C fl_M_15 d_M_wholeUnits_10 rfl rfl (fun hi => hi) ?_
    refine r_iload_n (i0 := 1) C d_M_wholeUnits_13 rfl rfl ?_
    refine r_laload (ln := 6) C d_M_wholeUnits_14 rfl (fun _ => rfl) rfl (by omega) ?_
    refine r_aload_n (i0 := 0) C d_M_wholeUnits_15 rfl rfl ?_
    refine r_getL C fl_M_19 d_M_wholeUnits_16 rfl ?_
    refine r_ldiv C d_M_wholeUnits_19 (by omega) (by rw [tdiv_nn hu.1]; have := ediv_le_self' hu.1 (show 0 < h 10 0 2 by omega); omega) ?_
    refine r_goto (tgt := 24) C d_M_wholeUnits_20 (by decide) ?_
    refine r_lstore_n (i0 := 2) C d_M_wholeUnits_24 rfl (by decide) ?_
    refine r_lload_n (i0 := 2) C d_M_wholeUnits_25 rfl rfl ?_
    refine r_lconst C 0 d_M_wholeUnits_26 (by decide) (by decide) ?_
    refine r_lcmp_le (tgt := 36) C d_M_wholeUnits_27 d_M_wholeUnits_28 (by decide) (fun q27 => ?_) (fun q27 => ?_)
    · refine r_iconst C d_M_wholeUnits_36 (by decide) ?_
      exact r_iret C d_M_wholeUnits_37 (fun _ => ⟨vi_e (by rw [tdiv_nn hu.1] at *; first | (rw [if_pos (by omega)]; done) | (rw [if_neg (by omega)]; done)), rfl⟩) (by decide) (fun _ => ⟨rfl, rfl, rfl⟩)
    · refine r_lload_n (i0 := 2) C d_M_wholeUnits_31 rfl rfl ?_
      refine r_l2i C d_M_wholeUnits_32 (by rw [tdiv_nn hu.1] at *; omega) ?_
      refine r_goto (tgt := 37) C d_M_wholeUnits_33 (by decide) ?_
      exact r_iret C d_M_wholeUnits_37 (fun _ => ⟨vi_e (by rw [tdiv_nn hu.1] at *; first | (rw [if_pos (by omega)]; done) | (rw [if_neg (by omega)]; done)), rfl⟩) (by decide) (fun _ => ⟨rfl, rfl, rfl⟩)

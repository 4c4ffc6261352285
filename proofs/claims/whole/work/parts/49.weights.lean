/-! Contracts: the weights of the spans. -/
/-- Shares' weights and divisors of the first n spans, and the whole weight -/
def WG (h : AH) (n : Nat) (wt dv : Nat → Int) (A : Int) : AH := fun t i j =>
  if t = 18 ∧ i = 0 ∧ j = 4 then A else if t = 20 ∧ i = 0 ∧ j < n then wt j else if t = 21 ∧ i = 0 ∧ j < n then dv j else h t i j
theorem WG_fr (h : AH) (n : Nat) (wt dv : Nat → Int) (A : Int) {t : Nat} (e : t ≠ 18 ∧ t ≠ 20 ∧ t ≠ 21) : WG h n wt dv A t = h t := by
  funext i j; unfold WG; rw [if_neg (by omega), if_neg (by omega), if_neg (by omega)]
theorem WG_A (h : AH) (n : Nat) (wt dv : Nat → Int) (A : Int) : WG h n wt dv A 18 0 4 = A := rfl
theorem WG_w (h : AH) {n : Nat} (wt dv : Nat → Int) (A : Int) {j : Nat} (e : j < n) : WG h n wt dv A 20 0 j = wt j := by
  unfold WG; rw [if_neg (by omega), if_pos ⟨rfl, rfl, e⟩]
theorem WG_d (h : AH) {n : Nat} (wt dv : Nat → Int) (A : Int) {j : Nat} (e : j < n) : WG h n wt dv A 21 0 j = dv j := by
  unfold WG; rw [if_neg (by omega), if_neg (by omega), if_pos ⟨rfl, rfl, e⟩]
theorem WG_zero (h : AH) (wt dv : Nat → Int) (A : Int) : hset h 18 0 4 A = WG h 0 wt dv A := by
  funext t i j; unfold hset WG
  by_cases e : t = 18 ∧ i = 0 ∧ j = 4
  · rw [if_pos e, if_pos e]
  · rw [if_neg e, if_neg e, if_neg (by omega), if_neg (by omega)]
theorem WG_step (h : AH) (n : Nat) (wt dv : Nat → Int) (A : Int) : hset (hset (WG h n wt dv A) 20 0 n (wt n)) 21 0 n (dv n) = WG h (n + 1) wt dv A := by
  funext t i j; unfold hset WG
  by_cases e : t = 18 ∧ i = 0 ∧ j = 4
  · rw [if_neg (by omega), if_neg (by omega), if_pos e, if_pos e]
  · rw [if_neg e, if_neg e]
    by_cases e20 : t = 20 ∧ i = 0
    · obtain ⟨rfl, rfl⟩ := e20
      by_cases z : j = n
      · subst z; simp
      · by_cases z1 : j < n
        · simp [z, z1, show j < n + 1 by omega]
        · simp [z, z1, show ¬ j < n + 1 by omega]
    · by_cases e21 : t = 21 ∧ i = 0
      · obtain ⟨rfl, rfl⟩ := e21
        by_cases z : j = n
        · subst z; simp
        · by_cases z1 : j < n
          · simp [z, z1, show j < n + 1 by omega]
          · simp [z, z1, show ¬ j < n + 1 by omega]
      · rw [if_neg (by omega), if_neg (by omega), if_neg (by omega), if_neg (by omega), if_neg (by omega), if_neg (by omega)]
theorem WG_all (h : AH) (n : Nat) (wt dv : Nat → Int) (A B : Int) : hset (WG h n wt dv A) 18 0 4 B = WG h n wt dv B := by
  funext t i j; unfold hset WG
  by_cases e : t = 18 ∧ i = 0 ∧ j = 4
  · rw [if_pos e, if_pos e]
  · rw [if_neg e, if_neg e, if_neg e]
/-- weights by area (q = 0) or water area (q = 1) -/
def waF (h : AH) (q : Nat) : Nat → Int := fun j => h 4 (h 14 0 j).toNat q * (h 16 0 j - h 15 0 j)
theorem WG_2 (h : AH) (n : Nat) (wt dv : Nat → Int) (A : Int) : WG h n wt dv A 2 = h 2 := WG_fr h n wt dv A (by decide)
theorem WG_4 (h : AH) (n : Nat) (wt dv : Nat → Int) (A : Int) : WG h n wt dv A 4 = h 4 := WG_fr h n wt dv A (by decide)
theorem WG_5 (h : AH) (n : Nat) (wt dv : Nat → Int) (A : Int) : WG h n wt dv A 5 = h 5 := WG_fr h n wt dv A (by decide)
theorem WG_10 (h : AH) (n : Nat) (wt dv : Nat → Int) (A : Int) : WG h n wt dv A 10 = h 10 := WG_fr h n wt dv A (by decide)
theorem WG_11 (h : AH) (n : Nat) (wt dv : Nat → Int) (A : Int) : WG h n wt dv A 11 = h 11 := WG_fr h n wt dv A (by decide)
theorem WG_12 (h : AH) (n : Nat) (wt dv : Nat → Int) (A : Int) : WG h n wt dv A 12 = h 12 := WG_fr h n wt dv A (by decide)
theorem WG_13 (h : AH) (n : Nat) (wt dv : Nat → Int) (A : Int) : WG h n wt dv A 13 = h 13 := WG_fr h n wt dv A (by decide)
theorem WG_14 (h : AH) (n : Nat) (wt dv : Nat → Int) (A : Int) : WG h n wt dv A 14 = h 14 := WG_fr h n wt dv A (by decide)
theorem WG_15 (h : AH) (n : Nat) (wt dv : Nat → Int) (A : Int) : WG h n wt dv A 15 = h 15 := WG_fr h n wt dv A (by decide)
theorem WG_16 (h : AH) (n : Nat) (wt dv : Nat → Int) (A : Int) : WG h n wt dv A 16 = h 16 := WG_fr h n wt dv A (by decide)
theorem WG_29 (h : AH) (n : Nat) (wt dv : Nat → Int) (A : Int) : WG h n wt dv A 29 = h 29 := WG_fr h n wt dv A (by decide)
set_option maxHeartbeats 1000000 in
theorem c_S_setWhole {l : Launch} (hl : l.stackTraces = false) {w : XW} {h : AH} {a b : Int} (ha : 0 ≤ a ∧ a < 72) (hb : 0 ≤ b ∧ b ≤ 1000) (hA : 0 ≤ h 18 0 4 ∧ h 18 0 4 ≤ 100000) : AM l y_S_setWhole (wsM y_S_setWhole b_S_setWhole 3 none []) false (rmV 0 0) w [vO 18 0, vI a, vI b] h (RetP none (fun h' => h' = hset (hset (hset h 20 0 a.toNat b) 21 0 a.toNat 1) 18 0 4 (h 18 0 4 + b))) := by
  refine AM.of hl (by decide +kernel) (Nat.le_of_ble_eq_true rfl) fun x hx C _ => ?_
  refine r_aload_n (i0 := 0) C d_S_setWhole_0 rfl rfl ?_
  refine r_getO C fl_S_15 d_S_setWhole_1 rfl rfl (fun hi => hi) ?_
  refine r_iload_n (i0 := 1) C d_S_setWhole_4 rfl rfl ?_
  refine r_iload_n (i0 := 2) C d_S_setWhole_5 rfl rfl ?_
  refine r_i2l C d_S_setWhole_6 ?_
  refine r_lastore (ln := 72) C d_S_setWhole_7 rfl (fun _ => rfl) rfl (by omega) ?_
  refine r_aload_n (i0 := 0) C d_S_setWhole_8 rfl rfl ?_
  refine r_getO C fl_S_19 d_S_setWhole_9 rfl rfl (fun hi => hi) ?_
  refine r_iload_n (i0 := 1) C d_S_setWhole_12 rfl rfl ?_
  refine r_lconst C 1 d_S_setWhole_13 (by decide) (by decide) ?_
  refine r_lastore (ln := 72) C d_S_setWhole_14 rfl (fun _ => rfl) rfl (by omega) ?_
  refine r_aload_n (i0 := 0) C d_S_setWhole_15 rfl rfl ?_
  refine r_dup C d_S_setWhole_16 rfl ?_
  refine r_getL C fl_S_25 d_S_setWhole_17 rfl ?_
  rw [show hset (hset h 20 0 a.toNat b) 21 0 a.toNat 1 18 0 4 = h 18 0 4 from rfl]
  refine r_iload_n (i0 := 2) C d_S_setWhole_20 rfl rfl ?_
  refine r_i2l C d_S_setWhole_21 ?_
  refine r_ladd C d_S_setWhole_22 (by omega) ?_
  refine r_putL C pl_S_25 d_S_setWhole_23 rfl ?_
  exact r_vret C d_S_setWhole_26 (⟨rfl, rfl⟩) (by decide) (fun q => nomatch q)
set_option maxHeartbeats 1000000 in
theorem c_S_weighByArea {l : Launch} (hl : l.stackTraces = false) {w : XW} {h : AH} (hc : 0 ≤ h 2 0 1 ∧ h 2 0 1 ≤ 6) (har : ∀ f : Nat, f < 6 → 0 ≤ h 4 f 0 ∧ h 4 f 0 ≤ 50) (hS : SPok h) : AM l y_S_weighByArea (wsM y_S_weighByArea b_S_weighByArea 4 none []) false (rmV 1 0) w [vO 18 0, vO 2 0, vO 13 0] h (RetP none (fun h' => h' = WG h (h 13 0 4).toNat (waF h 0) (fun _ => 1) (sumF (h 13 0 4).toNat (waF h 0)))) := by
  refine AM.of hl (by decide +kernel) (Nat.le_of_ble_eq_true rfl) fun x hx C _ => ?_
  have c0 := hS.cnt
  have wbd : ∀ n : Nat, n ≤ (h 13 0 4).toNat → 0 * (n : Int) ≤ sumF n (waF h 0) ∧ sumF n (waF h 0) ≤ 600 * n := fun n hn => sumF_bd fun k hk => by
    have f1 := hS.fl k (by omega)
    have r1 := hS.fr k (by omega)
    have m1 := mulN (A := 50) (B := 12) (a := h 4 (h 14 0 k).toNat 0) (b := h 16 0 k - h 15 0 k) (har _ (by omega)) (by omega)
    unfold waF; omega
  have loop : ∀ (m : Nat) (i : Int), 0 ≤ i → i ≤ h 13 0 4 → (h 13 0 4 - i).toNat = m → AW x w 4 false 0 0 (AQ x w false 0 0 (RetP none (fun h' => h' = WG h (h 13 0 4).toNat (waF h 0) (fun _ => 1) (sumF (h 13 0 4).toNat (waF h 0))))) 7 [(3, vI i), (0, vO 18 0), (1, vO 2 0), (2, vO 13 0)] [] (WG h i.toNat (waF h 0) (fun _ => 1) (sumF i.toNat (waF h 0))) := by
    intro m
    induction m using Nat.strongRecOn with
    | _ m ih =>
    intro i hi0 hi1 hm
    refine r_iload_n (i0 := 3) C d_S_weighByArea_7 rfl rfl ?_
    refine r_aload_n (i0 := 2) C d_S_weighByArea_8 rfl rfl ?_
    refine r_getI C fl_S_29 d_S_weighByArea_9 rfl ?_
    simp only [WG_2, WG_4, WG_5, WG_10, WG_11, WG_12, WG_13, WG_14, WG_15, WG_16, WG_29]
    refine r_icmp_ge (tgt := 46) C d_S_weighByArea_12 (by decide) (fun q12 => ?_) (fun q12 => ?_)
    · have e : i.toNat = (h 13 0 4).toNat := (by omega)
      rw [e]
      exact r_vret C d_S_weighByArea_46 (⟨rfl, rfl⟩) (by decide) (fun q => nomatch q)
    · have f1 := hS.fl i.toNat (by omega)
      have r1 := hS.fr i.toNat (by omega)
      have a1 := har (h 14 0 i.toNat).toNat (by omega)
      have m1 := mulN (A := 50) (B := 12) (a := h 4 (h 14 0 i.toNat).toNat 0) (b := h 16 0 i.toNat - h 15 0 i.toNat) a1 (by omega)
      have s1 := wbd i.toNat (by omega)
      refine r_aload_n (i0 := 0) C d_S_weighByArea_15 rfl rfl ?_
      refine r_iload_n (i0 := 3) C d_S_weighByArea_16 rfl rfl ?_
      refine r_aload_n (i0 := 1) C d_S_weighByArea_17 rfl rfl ?_
      refine r_getO C fl_S_35 d_S_weighByArea_18 rfl rfl (fun hi => hi) ?_
      refine r_aload_n (i0 := 2) C d_S_weighByArea_21 rfl rfl ?_
      refine r_getO C fl_S_41 d_S_weighByArea_22 rfl rfl (fun hi => hi) ?_
      refine r_iload_n (i0 := 3) C d_S_weighByArea_25 rfl rfl ?_
      refine r_iaload (ln := 72) C d_S_weighByArea_26 rfl (fun _ => rfl) rfl (by omega) ?_
      simp only [WG_2, WG_4, WG_5, WG_10, WG_11, WG_12, WG_13, WG_14, WG_15, WG_16, WG_29]
      refine r_aaF C d_S_weighByArea_27 (by omega) ?_
      refine r_getI C fl_S_44 d_S_weighByArea_28 rfl ?_
      simp only [WG_2, WG_4, WG_5, WG_10, WG_11, WG_12, WG_13, WG_14, WG_15, WG_16, WG_29]
      refine r_aload_n (i0 := 2) C d_S_weighByArea_31 rfl rfl ?_
      refine r_iload_n (i0 := 3) C d_S_weighByArea_32 rfl rfl ?_
      refine r_callVp C cl_S_49 im_P_months rfl rfl (c_P_months hx (h := WG h i.toNat (waF h 0) (fun _ => 1) (sumF i.toNat (waF h 0))) (by unfold SPok; simp only [WG_13, WG_14, WG_15, WG_16, WG_2]; rw [WG_fr _ _ _ _ _ (show (17 : Nat) ≠ 18 ∧ (17 : Nat) ≠ 20 ∧ (17 : Nat) ≠ 21 by decide)]; exact hS) (by simp only [WG_13]; omega)) rfl rfl d_S_weighByArea_33 (by decide) (Nat.le_of_ble_eq_true rfl) ?_
      simp only [WG_2, WG_4, WG_5, WG_10, WG_11, WG_12, WG_13, WG_14, WG_15, WG_16, WG_29]
      refine r_imul C d_S_weighByArea_36 (by omega) ?_
      refine r_callVw C cl_S_53 im_S_setWhole rfl rfl (c_S_setWhole hx (by omega) (by omega) (by rw [WG_A]; omega)) rfl rfl d_S_weighByArea_37 (by decide) (by decide) (Nat.le_of_ble_eq_true rfl) (fun h37 p37 => ?_)
      have e2 : (i + 1).toNat = i.toNat + 1 := by omega
      subst p37
      have ee := ih (m - 1) (by omega) (i + 1) (by omega) (by omega) (by omega)
      rw [e2] at ee
      refine r_iinc C d_S_weighByArea_40 rfl (by decide) (by omega) ?_
      refine r_goto (tgt := 7) C d_S_weighByArea_43 (by decide) ?_
      refine AW.lvs [(3, _), (0, _), (1, _), (2, _)] ⟨rfl, rfl, rfl, rfl, trivial⟩ (AW.heq ?_ ee)
      rw [WG_A, show h 4 (h 14 0 i.toNat).toNat 0 * (h 16 0 i.toNat - h 15 0 i.toNat) = waF h 0 i.toNat from rfl, show (1 : Int) = (fun _ : Nat => (1 : Int)) i.toNat from rfl, WG_step, WG_all, sumF_succ]
  refine r_aload_n (i0 := 0) C d_S_weighByArea_0 rfl rfl ?_
  refine r_lconst C 0 d_S_weighByArea_1 (by decide) (by decide) ?_
  refine r_putL C pl_S_25 d_S_weighByArea_2 rfl ?_
  refine r_iconst C d_S_weighByArea_5 (by decide) ?_
  refine r_istore_n (i0 := 3) C d_S_weighByArea_6 rfl (by decide) ?_
  rw [WG_zero h (waF h 0) (fun _ => 1) 0]
  exact AW.lvs [(3, _), (0, _), (1, _), (2, _)] ⟨rfl, rfl, rfl, rfl, trivial⟩ (loop _ 0 (by omega) (by omega) rfl)
set_option maxHeartbeats 1000000 in
theorem c_S_weighByWaterArea {l : Launch} (hl : l.stackTraces = false) {w : XW} {h : AH} (hc : 0 ≤ h 2 0 1 ∧ h 2 0 1 ≤ 6) (har : ∀ f : Nat, f < 6 → 0 ≤ h 4 f 1 ∧ h 4 f 1 ≤ 50) (hS : SPok h) : AM l y_S_weighByWaterArea (wsM y_S_weighByWaterArea b_S_weighByWaterArea 4 none []) false (rmV 1 0) w [vO 18 0, vO 2 0, vO 13 0] h (RetP none (fun h' => h' = WG h (h 13 0 4).toNat (waF h 1) (fun _ => 1) (sumF (h 13 0 4).toNat (waF h 1)))) := by
  refine AM.of hl (by decide +kernel) (Nat.le_of_ble_eq_true rfl) fun x hx C _ => ?_
  have c0 := hS.cnt
  have wbd : ∀ n : Nat, n ≤ (h 13 0 4).toNat → 0 * (n : Int) ≤ sumF n (waF h 1) ∧ sumF n (waF h 1) ≤ 600 * n := fun n hn => sumF_bd fun k hk => by
    have f1 := hS.fl k (by omega)
    have r1 := hS.fr k (by omega)
    have m1 := mulN (A := 50) (B := 12) (a := h 4 (h 14 0 k).toNat 1) (b := h 16 0 k - h 15 0 k) (har _ (by omega)) (by omega)
    unfold waF; omega
  have loop : ∀ (m : Nat) (i : Int), 0 ≤ i → i ≤ h 13 0 4 → (h 13 0 4 - i).toNat = m → AW x w 4 false 0 0 (AQ x w false 0 0 (RetP none (fun h' => h' = WG h (h 13 0 4).toNat (waF h 1) (fun _ => 1) (sumF (h 13 0 4).toNat (waF h 1))))) 7 [(3, vI i), (0, vO 18 0), (1, vO 2 0), (2, vO 13 0)] [] (WG h i.toNat (waF h 1) (fun _ => 1) (sumF i.toNat (waF h 1))) := by
    intro m
    induction m using Nat.strongRecOn with
    | _ m ih =>
    intro i hi0 hi1 hm
    refine r_iload_n (i0 := 3) C d_S_weighByWaterArea_7 rfl rfl ?_
    refine r_aload_n (i0 := 2) C d_S_weighByWaterArea_8 rfl rfl ?_
    refine r_getI C fl_S_29 d_S_weighByWaterArea_9 rfl ?_
    simp only [WG_2, WG_4, WG_5, WG_10, WG_11, WG_12, WG_13, WG_14, WG_15, WG_16, WG_29]
    refine r_icmp_ge (tgt := 46) C d_S_weighByWaterArea_12 (by decide) (fun q12 => ?_) (fun q12 => ?_)
    · have e : i.toNat = (h 13 0 4).toNat := (by omega)
      rw [e]
      exact r_vret C d_S_weighByWaterArea_46 (⟨rfl, rfl⟩) (by decide) (fun q => nomatch q)
    · have f1 := hS.fl i.toNat (by omega)
      have r1 := hS.fr i.toNat (by omega)
      have a1 := har (h 14 0 i.toNat).toNat (by omega)
      have m1 := mulN (A := 50) (B := 12) (a := h 4 (h 14 0 i.toNat).toNat 1) (b := h 16 0 i.toNat - h 15 0 i.toNat) a1 (by omega)
      have s1 := wbd i.toNat (by omega)
      refine r_aload_n (i0 := 0) C d_S_weighByWaterArea_15 rfl rfl ?_
      refine r_iload_n (i0 := 3) C d_S_weighByWaterArea_16 rfl rfl ?_
      refine r_aload_n (i0 := 1) C d_S_weighByWaterArea_17 rfl rfl ?_
      refine r_getO C fl_S_35 d_S_weighByWaterArea_18 rfl rfl (fun hi => hi) ?_
      refine r_aload_n (i0 := 2) C d_S_weighByWaterArea_21 rfl rfl ?_
      refine r_getO C fl_S_41 d_S_weighByWaterArea_22 rfl rfl (fun hi => hi) ?_
      refine r_iload_n (i0 := 3) C d_S_weighByWaterArea_25 rfl rfl ?_
      refine r_iaload (ln := 72) C d_S_weighByWaterArea_26 rfl (fun _ => rfl) rfl (by omega) ?_
      simp only [WG_2, WG_4, WG_5, WG_10, WG_11, WG_12, WG_13, WG_14, WG_15, WG_16, WG_29]
      refine r_aaF C d_S_weighByWaterArea_27 (by omega) ?_
      refine r_getI C fl_S_57 d_S_weighByWaterArea_28 rfl ?_
      simp only [WG_2, WG_4, WG_5, WG_10, WG_11, WG_12, WG_13, WG_14, WG_15, WG_16, WG_29]
      refine r_aload_n (i0 := 2) C d_S_weighByWaterArea_31 rfl rfl ?_
      refine r_iload_n (i0 := 3) C d_S_weighByWaterArea_32 rfl rfl ?_
      refine r_callVp C cl_S_49 im_P_months rfl rfl (c_P_months hx (h := WG h i.toNat (waF h 1) (fun _ => 1) (sumF i.toNat (waF h 1))) (by unfold SPok; simp only [WG_13, WG_14, WG_15, WG_16, WG_2]; rw [WG_fr _ _ _ _ _ (show (17 : Nat) ≠ 18 ∧ (17 : Nat) ≠ 20 ∧ (17 : Nat) ≠ 21 by decide)]; exact hS) (by simp only [WG_13]; omega)) rfl rfl d_S_weighByWaterArea_33 (by decide) (Nat.le_of_ble_eq_true rfl) ?_
      simp only [WG_2, WG_4, WG_5, WG_10, WG_11, WG_12, WG_13, WG_14, WG_15, WG_16, WG_29]
      refine r_imul C d_S_weighByWaterArea_36 (by omega) ?_
      refine r_callVw C cl_S_53 im_S_setWhole rfl rfl (c_S_setWhole hx (by omega) (by omega) (by rw [WG_A]; omega)) rfl rfl d_S_weighByWaterArea_37 (by decide) (by decide) (Nat.le_of_ble_eq_true rfl) (fun h37 p37 => ?_)
      have e2 : (i + 1).toNat = i.toNat + 1 := by omega
      subst p37
      have ee := ih (m - 1) (by omega) (i + 1) (by omega) (by omega) (by omega)
      rw [e2] at ee
      refine r_iinc C d_S_weighByWaterArea_40 rfl (by decide) (by omega) ?_
      refine r_goto (tgt := 7) C d_S_weighByWaterArea_43 (by decide) ?_
      refine AW.lvs [(3, _), (0, _), (1, _), (2, _)] ⟨rfl, rfl, rfl, rfl, trivial⟩ (AW.heq ?_ ee)
      rw [WG_A, show h 4 (h 14 0 i.toNat).toNat 1 * (h 16 0 i.toNat - h 15 0 i.toNat) = waF h 1 i.toNat from rfl, show (1 : Int) = (fun _ : Nat => (1 : Int)) i.toNat from rfl, WG_step, WG_all, sumF_succ]
  refine r_aload_n (i0 := 0) C d_S_weighByWaterArea_0 rfl rfl ?_
  refine r_lconst C 0 d_S_weighByWaterArea_1 (by decide) (by decide) ?_
  refine r_putL C pl_S_25 d_S_weighByWaterArea_2 rfl ?_
  refine r_iconst C d_S_weighByWaterArea_5 (by decide) ?_
  refine r_istore_n (i0 := 3) C d_S_weighByWaterArea_6 rfl (by decide) ?_
  rw [WG_zero h (waF h 1) (fun _ => 1) 0]
  exact AW.lvs [(3, _), (0, _), (1, _), (2, _)] ⟨rfl, rfl, rfl, rfl, trivial⟩ (loop _ 0 (by omega) (by omega) rfl)

/-! Contracts: leaves. -/
theorem sumF_int {g : Nat → Int} {i : Int} (hi : 0 ≤ i) : sumF (i + 1).toNat g = sumF i.toNat g + g i.toNat := by
  have e : (i + 1).toNat = i.toNat + 1 := by omega
  rw [e]; rfl
theorem vi_e {a b : Int} (h : a = b) : (Sum.inl (some (vI a)) : AO) = Sum.inl (some (vI b)) := by rw [h]
theorem vl_e {a b : Int} (h : a = b) : (Sum.inl (some (vL a)) : AO) = Sum.inl (some (vL b)) := by rw [h]
set_option maxHeartbeats 1000000 in
theorem c_H_isOutside {l : Launch} (hl : l.stackTraces = false) {w : XW} {h : AH} {a b c : Int} : AM l y_H_isOutside (wsM y_H_isOutside b_H_isOutside 3 (some .boolean) []) true (rmV 0 0) w [vI a, vI b, vI c] h (Ret (some (vI (if a < b ∨ c < a then 1 else 0))) h) := by
  refine AM.of hl (by decide +kernel) (Nat.le_of_ble_eq_true rfl) fun x hx C _ => ?_
  refine r_iload_n (i0 := 0) C d_H_isOutside_0 rfl rfl ?_
  refine r_iload_n (i0 := 1) C d_H_isOutside_1 rfl rfl ?_
  refine r_icmp_lt (tgt := 10) C d_H_isOutside_2 (by decide) (fun q2 => ?_) (fun q2 => ?_)
  · refine r_iconst C d_H_isOutside_10 (by decide) ?_
    refine r_goto (tgt := 15) C d_H_isOutside_11 (by decide) ?_
    exact r_zret C d_H_isOutside_15 (by omega) (⟨vi_e (by split <;> omega), rfl⟩) (by decide) (fun _ => ⟨rfl, rfl, rfl⟩)
  · refine r_iload_n (i0 := 0) C d_H_isOutside_5 rfl rfl ?_
    refine r_iload_n (i0 := 2) C d_H_isOutside_6 rfl rfl ?_
    refine r_icmp_le (tgt := 14) C d_H_isOutside_7 (by decide) (fun q7 => ?_) (fun q7 => ?_)
    · refine r_iconst C d_H_isOutside_14 (by decide) ?_
      exact r_zret C d_H_isOutside_15 (by omega) (⟨vi_e (by split <;> omega), rfl⟩) (by decide) (fun _ => ⟨rfl, rfl, rfl⟩)
    · refine r_iconst C d_H_isOutside_10 (by decide) ?_
      refine r_goto (tgt := 15) C d_H_isOutside_11 (by decide) ?_
      exact r_zret C d_H_isOutside_15 (by omega) (⟨vi_e (by split <;> omega), rfl⟩) (by decide) (fun _ => ⟨rfl, rfl, rfl⟩)
set_option maxHeartbeats 1000000 in
theorem c_R_within {l : Launch} (hl : l.stackTraces = false) {w : XW} {h : AH} {a b c : Int} : AM l y_R_within (wsM y_R_within b_R_within 3 (some .boolean) []) true (rmV 0 0) w [vI a, vI b, vI c] h (Ret (some (vI (if b ≤ a ∧ a ≤ c then 1 else 0))) h) := by
  refine AM.of hl (by decide +kernel) (Nat.le_of_ble_eq_true rfl) fun x hx C _ => ?_
  refine r_iload_n (i0 := 0) C d_R_within_0 rfl rfl ?_
  refine r_iload_n (i0 := 1) C d_R_within_1 rfl rfl ?_
  refine r_icmp_lt (tgt := 14) C d_R_within_2 (by decide) (fun q2 => ?_) (fun q2 => ?_)
  · refine r_iconst C d_R_within_14 (by decide) ?_
    exact r_zret C d_R_within_15 (by omega) (⟨vi_e (by split <;> omega), rfl⟩) (by decide) (fun _ => ⟨rfl, rfl, rfl⟩)
  · refine r_iload_n (i0 := 0) C d_R_within_5 rfl rfl ?_
    refine r_iload_n (i0 := 2) C d_R_within_6 rfl rfl ?_
    refine r_icmp_gt (tgt := 14) C d_R_within_7 (by decide) (fun q7 => ?_) (fun q7 => ?_)
    · refine r_iconst C d_R_within_14 (by decide) ?_
      exact r_zret C d_R_within_15 (by omega) (⟨vi_e (by split <;> omega), rfl⟩) (by decide) (fun _ => ⟨rfl, rfl, rfl⟩)
    · refine r_iconst C d_R_within_10 (by decide) ?_
      refine r_goto (tgt := 15) C d_R_within_11 (by decide) ?_
      exact r_zret C d_R_within_15 (by omega) (⟨vi_e (by split <;> omega), rfl⟩) (by decide) (fun _ => ⟨rfl, rfl, rfl⟩)
set_option maxHeartbeats 1000000 in
theorem c_R_isFlat {l : Launch} (hl : l.stackTraces = false) {w : XW} {h : AH} {a : Int} : AM l y_R_isFlat (wsM y_R_isFlat b_R_isFlat 2 (some .boolean) []) true (rmV 0 0) w [vO 40 0, vI a] h (Ret (some (vI (if 0 ≤ a ∧ a < h 40 0 1 then 1 else 0))) h) := by
  refine AM.of hl (by decide +kernel) (Nat.le_of_ble_eq_true rfl) fun x hx C _ => ?_
  refine r_iload_n (i0 := 1) C d_R_isFlat_0 rfl rfl ?_
  refine r_if_lt (tgt := 16) C d_R_isFlat_1 (by decide) (fun q1 => ?_) (fun q1 => ?_)
  · refine r_iconst C d_R_isFlat_16 (by decide) ?_
    exact r_zret C d_R_isFlat_17 (by omega) (⟨vi_e (by split <;> omega), rfl⟩) (by decide) (fun _ => ⟨rfl, rfl, rfl⟩)
  · refine r_iload_n (i0 := 1) C d_R_isFlat_4 rfl rfl ?_
    refine r_aload_n (i0 := 0) C d_R_isFlat_5 rfl rfl ?_
    refine r_getI C fl_R_88 d_R_isFlat_6 rfl ?_
    refine r_icmp_ge (tgt := 16) C d_R_isFlat_9 (by decide) (fun q9 => ?_) (fun q9 => ?_)
    · refine r_iconst C d_R_isFlat_16 (by decide) ?_
      exact r_zret C d_R_isFlat_17 (by omega) (⟨vi_e (by split <;> omega), rfl⟩) (by decide) (fun _ => ⟨rfl, rfl, rfl⟩)
    · refine r_iconst C d_R_isFlat_12 (by decide) ?_
      refine r_goto (tgt := 17) C d_R_isFlat_13 (by decide) ?_
      exact r_zret C d_R_isFlat_17 (by omega) (⟨vi_e (by split <;> omega), rfl⟩) (by decide) (fun _ => ⟨rfl, rfl, rfl⟩)
set_option maxHeartbeats 1000000 in
theorem c_R_isTenant {l : Launch} (hl : l.stackTraces = false) {w : XW} {h : AH} {a : Int} : AM l y_R_isTenant (wsM y_R_isTenant b_R_isTenant 2 (some .boolean) []) true (rmV 0 0) w [vO 40 0, vI a] h (Ret (some (vI (if 0 ≤ a ∧ a < h 40 0 9 then 1 else 0))) h) := by
  refine AM.of hl (by decide +kernel) (Nat.le_of_ble_eq_true rfl) fun x hx C _ => ?_
  refine r_iload_n (i0 := 1) C d_R_isTenant_0 rfl rfl ?_
  refine r_if_lt (tgt := 16) C d_R_isTenant_1 (by decide) (fun q1 => ?_) (fun q1 => ?_)
  · refine r_iconst C d_R_isTenant_16 (by decide) ?_
    exact r_zret C d_R_isTenant_17 (by omega) (⟨vi_e (by split <;> omega), rfl⟩) (by decide) (fun _ => ⟨rfl, rfl, rfl⟩)
  · refine r_iload_n (i0 := 1) C d_R_isTenant_4 rfl rfl ?_
    refine r_aload_n (i0 := 0) C d_R_isTenant_5 rfl rfl ?_
    refine r_getI C fl_R_91 d_R_isTenant_6 rfl ?_
    refine r_icmp_ge (tgt := 16) C d_R_isTenant_9 (by decide) (fun q9 => ?_) (fun q9 => ?_)
    · refine r_iconst C d_R_isTenant_16 (by decide) ?_
      exact r_zret C d_R_isTenant_17 (by omega) (⟨vi_e (by split <;> omega), rfl⟩) (by decide) (fun _ => ⟨rfl, rfl, rfl⟩)
    · refine r_iconst C d_R_isTenant_12 (by decide) ?_
      refine r_goto (tgt := 17) C d_R_isTenant_13 (by decide) ?_
      exact r_zret C d_R_isTenant_17 (by omega) (⟨vi_e (by split <;> omega), rfl⟩) (by decide) (fun _ => ⟨rfl, rfl, rfl⟩)
set_option maxHeartbeats 1000000 in
theorem c_J_maxI {l : Launch} (hl : l.stackTraces = false) {w : XW} {h : AH} {a b : Int} : AM l y_J_maxI (wsM y_J_maxI b_J_maxI 2 (some .int) []) true (rmV 0 0) w [vI a, vI b] h (Ret (some (vI (if a < b then b else a))) h) := by
  refine AM.of hl (by decide +kernel) (Nat.le_of_ble_eq_true rfl) fun x hx C _ => ?_
  refine r_iload_n (i0 := 0) C d_J_maxI_0 rfl rfl ?_
  refine r_iload_n (i0 := 1) C d_J_maxI_1 rfl rfl ?_
  refine r_icmp_lt (tgt := 9) C d_J_maxI_2 (by decide) (fun q2 => ?_) (fun q2 => ?_)
  · refine r_iload_n (i0 := 1) C d_J_maxI_9 rfl rfl ?_
    exact r_iret C d_J_maxI_10 (fun _ => ⟨vi_e (by split <;> omega), rfl⟩) (by decide) (fun _ => ⟨rfl, rfl, rfl⟩)
  · refine r_iload_n (i0 := 0) C d_J_maxI_5 rfl rfl ?_
    refine r_goto (tgt := 10) C d_J_maxI_6 (by decide) ?_
    exact r_iret C d_J_maxI_10 (fun _ => ⟨vi_e (by split <;> omega), rfl⟩) (by decide) (fun _ => ⟨rfl, rfl, rfl⟩)
set_option maxHeartbeats 1000000 in
theorem c_J_minI {l : Launch} (hl : l.stackTraces = false) {w : XW} {h : AH} {a b : Int} : AM l y_J_minI (wsM y_J_minI b_J_minI 2 (some .int) []) true (rmV 0 0) w [vI a, vI b] h (Ret (some (vI (if b < a then b else a))) h) := by
  refine AM.of hl (by decide +kernel) (Nat.le_of_ble_eq_true rfl) fun x hx C _ => ?_
  refine r_iload_n (i0 := 0) C d_J_minI_0 rfl rfl ?_
  refine r_iload_n (i0 := 1) C d_J_minI_1 rfl rfl ?_
  refine r_icmp_gt (tgt := 9) C d_J_minI_2 (by decide) (fun q2 => ?_) (fun q2 => ?_)
  · refine r_iload_n (i0 := 1) C d_J_minI_9 rfl rfl ?_
    exact r_iret C d_J_minI_10 (fun _ => ⟨vi_e (by split <;> omega), rfl⟩) (by decide) (fun _ => ⟨rfl, rfl, rfl⟩)
  · refine r_iload_n (i0 := 0) C d_J_minI_5 rfl rfl ?_
    refine r_goto (tgt := 10) C d_J_minI_6 (by decide) ?_
    exact r_iret C d_J_minI_10 (fun _ => ⟨vi_e (by split <;> omega), rfl⟩) (by decide) (fun _ => ⟨rfl, rfl, rfl⟩)
set_option maxHeartbeats 1000000 in
theorem c_J_minJ {l : Launch} (hl : l.stackTraces = false) {w : XW} {h : AH} {a b : Int} : AM l y_J_minJ (wsM y_J_minJ b_J_minJ 4 (some .long) []) true (rmV 0 0) w [vL a, vL b] h (Ret (some (vL (if b < a then b else a))) h) := by
  refine AM.of hl (by decide +kernel) (Nat.le_of_ble_eq_true rfl) fun x hx C _ => ?_
  refine r_lload_n (i0 := 0) C d_J_minJ_0 rfl rfl ?_
  refine r_lload_n (i0 := 2) C d_J_minJ_1 rfl rfl ?_
  refine r_lcmp_gt (tgt := 10) C d_J_minJ_2 d_J_minJ_3 (by decide) (fun q2 => ?_) (fun q2 => ?_)
  · refine r_lload_n (i0 := 2) C d_J_minJ_10 rfl rfl ?_
    exact r_lret C d_J_minJ_11 (fun _ => ⟨vl_e (by split <;> omega), rfl⟩) (by decide) (fun _ => ⟨rfl, rfl, rfl⟩)
  · refine r_lload_n (i0 := 0) C d_J_minJ_6 rfl rfl ?_
    refine r_goto (tgt := 11) C d_J_minJ_7 (by decide) ?_
    exact r_lret C d_J_minJ_11 (fun _ => ⟨vl_e (by split <;> omega), rfl⟩) (by decide) (fun _ => ⟨rfl, rfl, rfl⟩)
set_option maxHeartbeats 1000000 in
theorem c_R_thrown {l : Launch} (hl : l.stackTraces = false) {w : XW} {h : AH}  : AM l y_R_thrown (wsM y_R_thrown b_R_thrown 1 (some .int) []) true (rmV 0 0) w [vO 40 0] h (Ret (some (vI (h 40 0 0))) h) := by
  refine AM.of hl (by decide +kernel) (Nat.le_of_ble_eq_true rfl) fun x hx C _ => ?_
  refine r_aload_n (i0 := 0) C d_R_thrown_0 rfl rfl ?_
  refine r_getI C fl_R_85 d_R_thrown_1 rfl ?_
  exact r_iret C d_R_thrown_4 (fun _ => ⟨rfl, rfl⟩) (by decide) (fun _ => ⟨rfl, rfl, rfl⟩)
set_option maxHeartbeats 1000000 in
theorem c_U_allUnits {l : Launch} (hl : l.stackTraces = false) {w : XW} {h : AH} (hn : 0 ≤ h 7 0 2 ∧ h 7 0 2 ≤ 12) (hu : ∀ k : Nat, (k : Int) < h 7 0 2 → 0 ≤ h 8 0 k ∧ h 8 0 k ≤ 1000) : AM l y_U_allUnits (wsM y_U_allUnits b_U_allUnits 3 (some .int) []) true (rmV 0 0) w [vO 7 0] h (Ret (some (vI (sumF (h 7 0 2).toNat (h 8 0)))) h) := by
  refine AM.of hl (by decide +kernel) (Nat.le_of_ble_eq_true rfl) fun x hx C _ => ?_
  have loop : ∀ (m : Nat) (i : Int), 0 ≤ i → i ≤ h 7 0 2 → (h 7 0 2 - i).toNat = m → AW x w 3 true 0 0 (AQ x w true 0 0 (Ret (some (vI (sumF (h 7 0 2).toNat (h 8 0)))) h)) 4 [(2, vI i), (1, vI (sumF i.toNat (h 8 0))), (0, vO 7 0)] [] h := by
    intro m
    induction m using Nat.strongRecOn with
    | _ m ih =>
    intro i hi0 hi1 hm
    refine r_iload_n (i0 := 2) C d_U_allUnits_4 rfl rfl ?_
    refine r_aload_n (i0 := 0) C d_U_allUnits_5 rfl rfl ?_
    refine r_getI C fl_U_18 d_U_allUnits_6 rfl ?_
    refine r_icmp_ge (tgt := 27) C d_U_allUnits_9 (by decide) (fun q9 => ?_) (fun q9 => ?_)
    · refine r_iload_n (i0 := 1) C d_U_allUnits_27 rfl rfl ?_
      exact r_iret C d_U_allUnits_28 (fun _ => ⟨vi_e (by have e : i.toNat = (h 7 0 2).toNat := (by omega); rw [e]), rfl⟩) (by decide) (fun _ => ⟨rfl, rfl, rfl⟩)
    · refine r_iload_n (i0 := 1) C d_U_allUnits_12 rfl rfl ?_
      refine r_aload_n (i0 := 0) C d_U_allUnits_13 rfl rfl ?_
      refine r_getO C fl_U_9 d_U_allUnits_14 rfl rfl (fun hi => hi) ?_
      refine r_iload_n (i0 := 2) C d_U_allUnits_17 rfl rfl ?_
      refine r_iaload (ln := 12) C d_U_allUnits_18 rfl (fun _ => rfl) rfl (by omega) ?_
      refine r_iadd C d_U_allUnits_19 (by have b1 := sumF_nn (n := i.toNat) (g := h 8 0) (fun k hk => by have := hu k (by omega); omega); have b2 := sumF_le (n := i.toNat) (g := h 8 0) (M := 1000) (fun k hk => by have := hu k (by omega); omega); have b3 := hu i.toNat (by omega); omega) ?_
      refine r_istore_n (i0 := 1) C d_U_allUnits_20 rfl (by decide) ?_
      refine r_iinc C d_U_allUnits_21 rfl (by decide) (by omega) ?_
      refine r_goto (tgt := 4) C d_U_allUnits_24 (by decide) ?_
      rw [← sumF_int hi0]
      exact ih (m - 1) (by omega) (i + 1) (by omega) (by omega) (by omega)
  refine r_iconst C d_U_allUnits_0 (by decide) ?_
  refine r_istore_n (i0 := 1) C d_U_allUnits_1 rfl (by decide) ?_
  refine r_iconst C d_U_allUnits_2 (by decide) ?_
  refine r_istore_n (i0 := 2) C d_U_allUnits_3 rfl (by decide) ?_
  exact loop _ 0 (by omega) (by omega) rfl
set_option maxHeartbeats 1000000 in
theorem c_R_allUnits {l : Launch} (hl : l.stackTraces = false) {w : XW} {h : AH} (hn : 0 ≤ h 40 0 10 ∧ h 40 0 10 ≤ 12) (hu : ∀ k : Nat, (k : Int) < h 40 0 10 → 0 ≤ h 48 0 k ∧ h 48 0 k ≤ 1000) : AM l y_R_allUnits (wsM y_R_allUnits b_R_allUnits 3 (some .int) []) true (rmV 0 0) w [vO 40 0] h (Ret (some (vI (sumF (h 40 0 10).toNat (h 48 0)))) h) := by
  refine AM.of hl (by decide +kernel) (Nat.le_of_ble_eq_true rfl) fun x hx C _ => ?_
  have loop : ∀ (m : Nat) (i : Int), 0 ≤ i → i ≤ h 40 0 10 → (h 40 0 10 - i).toNat = m → AW x w 3 true 0 0 (AQ x w true 0 0 (Ret (some (vI (sumF (h 40 0 10).toNat (h 48 0)))) h)) 4 [(2, vI i), (1, vI (sumF i.toNat (h 48 0))), (0, vO 40 0)] [] h := by
    intro m
    induction m using Nat.strongRecOn with
    | _ m ih =>
    intro i hi0 hi1 hm
    refine r_iload_n (i0 := 2) C d_R_allUnits_4 rfl rfl ?_
    refine r_aload_n (i0 := 0) C d_R_allUnits_5 rfl rfl ?_
    refine r_getI C fl_R_110 d_R_allUnits_6 rfl ?_
    refine r_icmp_ge (tgt := 27) C d_R_allUnits_9 (by decide) (fun q9 => ?_) (fun q9 => ?_)
    · refine r_iload_n (i0 := 1) C d_R_allUnits_27 rfl rfl ?_
      exact r_iret C d_R_allUnits_28 (fun _ => ⟨vi_e (by have e : i.toNat = (h 40 0 10).toNat := (by omega); rw [e]), rfl⟩) (by decide) (fun _ => ⟨rfl, rfl, rfl⟩)
    · refine r_iload_n (i0 := 1) C d_R_allUnits_12 rfl rfl ?_
      refine r_aload_n (i0 := 0) C d_R_allUnits_13 rfl rfl ?_
      refine r_getO C fl_R_31 d_R_allUnits_14 rfl rfl (fun hi => hi) ?_
      refine r_iload_n (i0 := 2) C d_R_allUnits_17 rfl rfl ?_
      refine r_iaload (ln := 12) C d_R_allUnits_18 rfl (fun _ => rfl) rfl (by omega) ?_
      refine r_iadd C d_R_allUnits_19 (by have b1 := sumF_nn (n := i.toNat) (g := h 48 0) (fun k hk => by have := hu k (by omega); omega); have b2 := sumF_le (n := i.toNat) (g := h 48 0) (M := 1000) (fun k hk => by have := hu k (by omega); omega); have b3 := hu i.toNat (by omega); omega) ?_
      refine r_istore_n (i0 := 1) C d_R_allUnits_20 rfl (by decide) ?_
      refine r_iinc C d_R_allUnits_21 rfl (by decide) (by omega) ?_
      refine r_goto (tgt := 4) C d_R_allUnits_24 (by decide) ?_
      rw [← sumF_int hi0]
      exact ih (m - 1) (by omega) (i + 1) (by omega) (by omega) (by omega)
  refine r_iconst C d_R_allUnits_0 (by decide) ?_
  refine r_istore_n (i0 := 1) C d_R_allUnits_1 rfl (by decide) ?_
  refine r_iconst C d_R_allUnits_2 (by decide) ?_
  refine r_istore_n (i0 := 2) C d_R_allUnits_3 rfl (by decide) ?_
  exact loop _ 0 (by omega) (by omega) rfl

/-! Contracts: small calls of the reference. -/
set_option maxHeartbeats 1000000 in
theorem c_R_reading {l : Launch} (hl : l.stackTraces = false) {w : XW} {h : AH} {a b c : Int} (hc : 0 ≤ h 40 0 1 ∧ h 40 0 1 ≤ 6) : AM l y_R_reading (wsM y_R_reading b_R_reading 4 none []) false (rmV 3 0) w [vO 40 0, vI a, vI b, vI c] h (Rout (if ¬ (0 ≤ a ∧ a < h 40 0 1) ∨ b < 0 ∨ 12 < b then 1 else if c < -1 ∨ 99 < c then 2 else 0) (none) (none) h (fun h' => h' = hset (hset (hset h 40 0 0 0) 44 0 (13 * a + b).toNat c) 40 0 19 0)) := by
  refine AM.of hl (by decide +kernel) (Nat.le_of_ble_eq_true rfl) fun x hx C _ => ?_
  have join : ∀ v : Int, v = (if ¬ (0 ≤ a ∧ a < h 40 0 1) ∨ b < 0 ∨ 12 < b then 1 else if c < -1 ∨ 99 < c then 2 else 0) → AW x w 4 true 0 0 (AQ x w false 0 0 (Rout (if ¬ (0 ≤ a ∧ a < h 40 0 1) ∨ b < 0 ∨ 12 < b then 1 else if c < -1 ∨ 99 < c then 2 else 0) (none) (none) h (fun h' => h' = hset (hset (hset h 40 0 0 0) 44 0 (13 * a + b).toNat c) 40 0 19 0))) 38 (aargs 0 [vO 40 0, vI a, vI b, vI c]) [vI v, vO 40 0] h := by
    intro v hv
    refine r_putI C pl_R_85 d_R_reading_38 rfl ?_
    refine r_aload_n (i0 := 0) C d_R_reading_41 rfl rfl ?_
    refine r_getI C fl_R_85 d_R_reading_42 rfl ?_
    rw [hset_same]
    refine r_if_ne (tgt := 65) C d_R_reading_45 (by decide) (fun q45 => ?_) (fun q45 => ?_)
    · exact r_vret C d_R_reading_65 ((by first | exact Rout.thr hv (by omega) | exact Rout.ret hv (by simp [hset]))) (by decide) (fun q => nomatch q)
    · have v0 : v = 0 := by omega
      subst v0
      refine r_aload_n (i0 := 0) C d_R_reading_48 rfl rfl ?_
      refine r_getO C fl_R_19 d_R_reading_49 rfl rfl (fun hi => hi) ?_
      refine r_bipush C d_R_reading_52 (by decide) (by decide) ?_
      refine r_iload_n (i0 := 1) C d_R_reading_54 rfl rfl ?_
      refine r_imul C d_R_reading_55 (by omega) ?_
      refine r_iload_n (i0 := 2) C d_R_reading_56 rfl rfl ?_
      refine r_iadd C d_R_reading_57 (by omega) ?_
      refine r_iload_n (i0 := 3) C d_R_reading_58 rfl rfl ?_
      refine r_iastore (ln := 78) C d_R_reading_59 rfl (fun _ => rfl) rfl (by omega) ?_
      refine r_aload_n (i0 := 0) C d_R_reading_60 rfl rfl ?_
      refine r_iconst C d_R_reading_61 (by decide) ?_
      refine r_putZ C pl_R_98 d_R_reading_62 rfl (by omega) ?_
      exact r_vret C d_R_reading_65 ((by first | exact Rout.thr hv (by omega) | exact Rout.ret hv (by simp [hset]))) (by decide) (fun q => nomatch q)
  refine r_aload_n (i0 := 0) C d_R_reading_0 rfl rfl ?_
  refine r_aload_n (i0 := 0) C d_R_reading_1 rfl rfl ?_
  refine r_iload_n (i0 := 1) C d_R_reading_2 rfl rfl ?_
  refine r_callVp C cl_R_102 im_R_isFlat rfl rfl (c_R_isFlat hx) rfl rfl d_R_reading_3 (by decide) (Nat.le_of_ble_eq_true rfl) ?_
  refine r_if_eq (tgt := 19) C d_R_reading_6 (by decide) (fun q6 => ?_) (fun q6 => ?_)
  · refine r_iconst C d_R_reading_19 (by decide) ?_
    refine r_goto (tgt := 38) C d_R_reading_20 (by decide) ?_
    exact join _ (by (repeat' split) <;> omega)
  · refine r_iload_n (i0 := 2) C d_R_reading_9 rfl rfl ?_
    refine r_iconst C d_R_reading_10 (by decide) ?_
    refine r_bipush C d_R_reading_11 (by decide) (by decide) ?_
    refine r_callSp C cl_R_94 st_R_within (c_R_within hx) rfl rfl d_R_reading_13 (by decide) (Nat.le_of_ble_eq_true rfl) ?_
    refine r_if_ne (tgt := 23) C d_R_reading_16 (by decide) (fun q16 => ?_) (fun q16 => ?_)
    · refine r_iload_n (i0 := 3) C d_R_reading_23 rfl rfl ?_
      refine r_iconst C d_R_reading_24 (by decide) ?_
      refine r_bipush C d_R_reading_25 (by decide) (by decide) ?_
      refine r_callSp C cl_R_94 st_R_within (c_R_within hx) rfl rfl d_R_reading_27 (by decide) (Nat.le_of_ble_eq_true rfl) ?_
      refine r_if_ne (tgt := 37) C d_R_reading_30 (by decide) (fun q30 => ?_) (fun q30 => ?_)
      · refine r_iconst C d_R_reading_37 (by decide) ?_
        exact join _ (by (repeat' split) <;> omega)
      · refine r_iconst C d_R_reading_33 (by decide) ?_
        refine r_goto (tgt := 38) C d_R_reading_34 (by decide) ?_
        exact join _ (by (repeat' split) <;> omega)
    · refine r_iconst C d_R_reading_19 (by decide) ?_
      refine r_goto (tgt := 38) C d_R_reading_20 (by decide) ?_
      exact join _ (by (repeat' split) <;> omega)
set_option maxHeartbeats 1000000 in
theorem c_R_wrongChange {l : Launch} (hl : l.stackTraces = false) {w : XW} {h : AH} {a b : Int} (hc : 0 ≤ h 40 0 1 ∧ h 40 0 1 ≤ 6) : AM l y_R_wrongChange (wsM y_R_wrongChange b_R_wrongChange 3 (some .int) []) true (rmV 2 0) w [vO 40 0, vI a, vI b] h (Ret (some (vI (if ¬ (0 ≤ a ∧ a < h 40 0 1) ∨ b < 0 ∨ 11 < b then 1 else if h 45 0 (12 * a + b).toNat = -5 then 0 else 2))) h) := by
  refine AM.of hl (by decide +kernel) (Nat.le_of_ble_eq_true rfl) fun x hx C _ => ?_
  refine r_aload_n (i0 := 0) C d_R_wrongChange_0 rfl rfl ?_
  refine r_iload_n (i0 := 1) C d_R_wrongChange_1 rfl rfl ?_
  refine r_callVp C cl_R_102 im_R_isFlat rfl rfl (c_R_isFlat hx) rfl rfl d_R_wrongChange_2 (by decide) (Nat.le_of_ble_eq_true rfl) ?_
  refine r_if_eq (tgt := 18) C d_R_wrongChange_5 (by decide) (fun q5 => ?_) (fun q5 => ?_)
  · refine r_iconst C d_R_wrongChange_18 (by decide) ?_
    refine r_goto (tgt := 43) C d_R_wrongChange_19 (by decide) ?_
    exact r_iret C d_R_wrongChange_43 (fun _ => ⟨vi_e (by (repeat' split) <;> omega), rfl⟩) (by decide) (fun _ => ⟨rfl, rfl, rfl⟩)
  · refine r_iload_n (i0 := 2) C d_R_wrongChange_8 rfl rfl ?_
    refine r_iconst C d_R_wrongChange_9 (by decide) ?_
    refine r_bipush C d_R_wrongChange_10 (by decide) (by decide) ?_
    refine r_callSp C cl_R_94 st_R_within (c_R_within hx) rfl rfl d_R_wrongChange_12 (by decide) (Nat.le_of_ble_eq_true rfl) ?_
    refine r_if_ne (tgt := 22) C d_R_wrongChange_15 (by decide) (fun q15 => ?_) (fun q15 => ?_)
    · refine r_aload_n (i0 := 0) C d_R_wrongChange_22 rfl rfl ?_
      refine r_getO C fl_R_22 d_R_wrongChange_23 rfl rfl (fun hi => hi) ?_
      refine r_bipush C d_R_wrongChange_26 (by decide) (by decide) ?_
      refine r_iload_n (i0 := 1) C d_R_wrongChange_28 rfl rfl ?_
      refine r_imul C d_R_wrongChange_29 (by omega) ?_
      refine r_iload_n (i0 := 2) C d_R_wrongChange_30 rfl rfl ?_
      refine r_iadd C d_R_wrongChange_31 (by omega) ?_
      refine r_iaload (ln := 72) C d_R_wrongChange_32 rfl (fun _ => rfl) rfl (by omega) ?_
      refine r_bipush C d_R_wrongChange_33 (by decide) (by decide) ?_
      refine r_icmp_eq (tgt := 42) C d_R_wrongChange_35 (by decide) (fun q35 => ?_) (fun q35 => ?_)
      · refine r_iconst C d_R_wrongChange_42 (by decide) ?_
        exact r_iret C d_R_wrongChange_43 (fun _ => ⟨vi_e (by (repeat' split) <;> omega), rfl⟩) (by decide) (fun _ => ⟨rfl, rfl, rfl⟩)
      · refine r_iconst C d_R_wrongChange_38 (by decide) ?_
        refine r_goto (tgt := 43) C d_R_wrongChange_39 (by decide) ?_
        exact r_iret C d_R_wrongChange_43 (fun _ => ⟨vi_e (by (repeat' split) <;> omega), rfl⟩) (by decide) (fun _ => ⟨rfl, rfl, rfl⟩)
    · refine r_iconst C d_R_wrongChange_18 (by decide) ?_
      refine r_goto (tgt := 43) C d_R_wrongChange_19 (by decide) ?_
      exact r_iret C d_R_wrongChange_43 (fun _ => ⟨vi_e (by (repeat' split) <;> omega), rfl⟩) (by decide) (fun _ => ⟨rfl, rfl, rfl⟩)
theorem hset_hset (h : AH) (t i j : Nat) (a b : Int) : hset (hset h t i j a) t i j b = hset h t i j b := by
  funext t' i' j'
  unfold hset
  split <;> rfl
theorem hset_tagf (h : AH) (a : Int) : hset h 40 0 0 a 40 0 9 = h 40 0 9 := by simp [hset]
set_option maxHeartbeats 1000000 in
theorem c_R_enter {l : Launch} (hl : l.stackTraces = false) {w : XW} {h : AH} {a b : Int} (hc : 0 ≤ h 40 0 1 ∧ h 40 0 1 ≤ 6) (ht : 0 ≤ h 40 0 9 ∧ h 40 0 9 ≤ 20) : AM l y_R_enter (wsM y_R_enter b_R_enter 3 (some .int) []) false (rmV 3 0) w [vO 40 0, vI a, vI b] h (Rout (if ¬ (0 ≤ a ∧ a < h 40 0 1) ∨ b < 0 ∨ 11 < b then 1 else if h 45 0 (12 * a + b).toNat = -5 then (if h 40 0 9 = 20 then 3 else 0) else 2) (some (vI 0)) (some (vI (h 40 0 9))) h (fun h' => h' = hset (hset (hset (hset h 40 0 0 0) 45 0 (12 * a + b).toNat (h 40 0 9)) 40 0 9 (h 40 0 9 + 1)) 40 0 19 0)) := by
  refine AM.of hl (by decide +kernel) (Nat.le_of_ble_eq_true rfl) fun x hx C _ => ?_
  have join : ∀ u v : Int, v = (if ¬ (0 ≤ a ∧ a < h 40 0 1) ∨ b < 0 ∨ 11 < b then 1 else if h 45 0 (12 * a + b).toNat = -5 then (if h 40 0 9 = 20 then 3 else 0) else 2) → AW x w 3 false 0 0 (AQ x w false 0 0 (Rout (if ¬ (0 ≤ a ∧ a < h 40 0 1) ∨ b < 0 ∨ 11 < b then 1 else if h 45 0 (12 * a + b).toNat = -5 then (if h 40 0 9 = 20 then 3 else 0) else 2) (some (vI 0)) (some (vI (h 40 0 9))) h (fun h' => h' = hset (hset (hset (hset h 40 0 0 0) 45 0 (12 * a + b).toNat (h 40 0 9)) 40 0 9 (h 40 0 9 + 1)) 40 0 19 0))) 35 (aargs 0 [vO 40 0, vI a, vI b]) [vI v, vO 40 0] (hset h 40 0 0 u) := by
    intro u v hv
    refine r_putI C pl_R_85 d_R_enter_35 rfl ?_
    refine r_aload_n (i0 := 0) C d_R_enter_38 rfl rfl ?_
    refine r_getI C fl_R_85 d_R_enter_39 rfl ?_
    rw [hset_hset, hset_same]
    refine r_if_le (tgt := 47) C d_R_enter_42 (by decide) (fun q42 => ?_) (fun q42 => ?_)
    · have v0 : v = 0 := by omega
      subst v0
      refine r_aload_n (i0 := 0) C d_R_enter_47 rfl rfl ?_
      refine r_getO C fl_R_22 d_R_enter_48 rfl rfl (fun hi => hi) ?_
      refine r_bipush C d_R_enter_51 (by decide) (by decide) ?_
      refine r_iload_n (i0 := 1) C d_R_enter_53 rfl rfl ?_
      refine r_imul C d_R_enter_54 (by omega) ?_
      refine r_iload_n (i0 := 2) C d_R_enter_55 rfl rfl ?_
      refine r_iadd C d_R_enter_56 (by omega) ?_
      refine r_aload_n (i0 := 0) C d_R_enter_57 rfl rfl ?_
      refine r_getI C fl_R_91 d_R_enter_58 rfl ?_
      refine r_iastore (ln := 72) C d_R_enter_61 rfl (fun _ => rfl) rfl (by omega) ?_
      refine r_aload_n (i0 := 0) C d_R_enter_62 rfl rfl ?_
      refine r_dup C d_R_enter_63 rfl ?_
      refine r_getI C fl_R_91 d_R_enter_64 rfl ?_
      refine r_iconst C d_R_enter_67 (by decide) ?_
      refine r_iadd C d_R_enter_68 (by simp [hset]; omega) ?_
      refine r_putI C pl_R_91 d_R_enter_69 rfl ?_
      refine r_aload_n (i0 := 0) C d_R_enter_72 rfl rfl ?_
      refine r_iconst C d_R_enter_73 (by decide) ?_
      refine r_putZ C pl_R_98 d_R_enter_74 rfl (by omega) ?_
      refine r_aload_n (i0 := 0) C d_R_enter_77 rfl rfl ?_
      refine r_getI C fl_R_91 d_R_enter_78 rfl ?_
      refine r_iconst C d_R_enter_81 (by decide) ?_
      refine r_isub C d_R_enter_82 (by simp [hset]; omega) ?_
      exact r_iret C d_R_enter_83 (fun _ => Or.inr ⟨hv.symm, by simp [hset], by simp [hset]⟩) (by decide) (fun q => nomatch q)
    · refine r_iconst C d_R_enter_45 (by decide) ?_
      exact r_iret C d_R_enter_46 (fun _ => Rout.thr hv (by omega)) (by decide) (fun q => nomatch q)
  refine r_aload_n (i0 := 0) C d_R_enter_0 rfl rfl ?_
  refine r_aload_n (i0 := 0) C d_R_enter_1 rfl rfl ?_
  refine r_iload_n (i0 := 1) C d_R_enter_2 rfl rfl ?_
  refine r_iload_n (i0 := 2) C d_R_enter_3 rfl rfl ?_
  refine r_callVp C cl_R_106 im_R_wrongChange rfl rfl (c_R_wrongChange hx hc) rfl rfl d_R_enter_4 (by decide) (Nat.le_of_ble_eq_true rfl) ?_
  refine r_putI C pl_R_85 d_R_enter_7 rfl ?_
  refine r_aload_n (i0 := 0) C d_R_enter_10 rfl rfl ?_
  refine r_aload_n (i0 := 0) C d_R_enter_11 rfl rfl ?_
  refine r_getI C fl_R_85 d_R_enter_12 rfl ?_
  rw [hset_same]
  refine r_if_ne (tgt := 31) C d_R_enter_15 (by decide) (fun q15 => ?_) (fun q15 => ?_)
  · refine r_aload_n (i0 := 0) C d_R_enter_31 rfl rfl ?_
    refine r_getI C fl_R_85 d_R_enter_32 rfl ?_
    rw [hset_same]
    exact join _ _ (by (repeat' split) <;> omega)
  · refine r_aload_n (i0 := 0) C d_R_enter_18 rfl rfl ?_
    refine r_getI C fl_R_91 d_R_enter_19 rfl ?_
    rw [hset_tagf]
    refine r_bipush C d_R_enter_22 (by decide) (by decide) ?_
    refine r_icmp_ne (tgt := 31) C d_R_enter_24 (by decide) (fun q24 => ?_) (fun q24 => ?_)
    · refine r_aload_n (i0 := 0) C d_R_enter_31 rfl rfl ?_
      refine r_getI C fl_R_85 d_R_enter_32 rfl ?_
      rw [hset_same]
      exact join _ _ (by (repeat' split) <;> omega)
    · refine r_iconst C d_R_enter_27 (by decide) ?_
      refine r_goto (tgt := 35) C d_R_enter_28 (by decide) ?_
      exact join _ _ (by (repeat' split) <;> omega)
set_option maxHeartbeats 1000000 in
theorem c_R_leave {l : Launch} (hl : l.stackTraces = false) {w : XW} {h : AH} {a b : Int} (hc : 0 ≤ h 40 0 1 ∧ h 40 0 1 ≤ 6) : AM l y_R_leave (wsM y_R_leave b_R_leave 3 none []) false (rmV 3 0) w [vO 40 0, vI a, vI b] h (Rout (if ¬ (0 ≤ a ∧ a < h 40 0 1) ∨ b < 0 ∨ 11 < b then 1 else if h 45 0 (12 * a + b).toNat = -5 then 0 else 2) (none) (none) h (fun h' => h' = hset (hset (hset h 40 0 0 0) 45 0 (12 * a + b).toNat (-1)) 40 0 19 0)) := by
  refine AM.of hl (by decide +kernel) (Nat.le_of_ble_eq_true rfl) fun x hx C _ => ?_
  have join : ∀ v : Int, v = (if ¬ (0 ≤ a ∧ a < h 40 0 1) ∨ b < 0 ∨ 11 < b then 1 else if h 45 0 (12 * a + b).toNat = -5 then 0 else 2) → AW x w 3 true 0 0 (AQ x w false 0 0 (Rout (if ¬ (0 ≤ a ∧ a < h 40 0 1) ∨ b < 0 ∨ 11 < b then 1 else if h 45 0 (12 * a + b).toNat = -5 then 0 else 2) (none) (none) h (fun h' => h' = hset (hset (hset h 40 0 0 0) 45 0 (12 * a + b).toNat (-1)) 40 0 19 0))) 7 (aargs 0 [vO 40 0, vI a, vI b]) [vI v, vO 40 0] h := by
    intro v hv
    refine r_putI C pl_R_85 d_R_leave_7 rfl ?_
    refine r_aload_n (i0 := 0) C d_R_leave_10 rfl rfl ?_
    refine r_getI C fl_R_85 d_R_leave_11 rfl ?_
    rw [hset_same]
    refine r_if_ne (tgt := 34) C d_R_leave_14 (by decide) (fun q14 => ?_) (fun q14 => ?_)
    · exact r_vret C d_R_leave_34 ((by first | exact Rout.thr hv (by omega) | exact Rout.ret hv (by simp [hset]))) (by decide) (fun q => nomatch q)
    · have v0 : v = 0 := by omega
      subst v0
      refine r_aload_n (i0 := 0) C d_R_leave_17 rfl rfl ?_
      refine r_getO C fl_R_22 d_R_leave_18 rfl rfl (fun hi => hi) ?_
      refine r_bipush C d_R_leave_21 (by decide) (by decide) ?_
      refine r_iload_n (i0 := 1) C d_R_leave_23 rfl rfl ?_
      refine r_imul C d_R_leave_24 (by omega) ?_
      refine r_iload_n (i0 := 2) C d_R_leave_25 rfl rfl ?_
      refine r_iadd C d_R_leave_26 (by omega) ?_
      refine r_iconst C d_R_leave_27 (by decide) ?_
      refine r_iastore (ln := 72) C d_R_leave_28 rfl (fun _ => rfl) rfl (by omega) ?_
      refine r_aload_n (i0 := 0) C d_R_leave_29 rfl rfl ?_
      refine r_iconst C d_R_leave_30 (by decide) ?_
      refine r_putZ C pl_R_98 d_R_leave_31 rfl (by omega) ?_
      exact r_vret C d_R_leave_34 ((by first | exact Rout.thr hv (by omega) | exact Rout.ret hv (by simp [hset]))) (by decide) (fun q => nomatch q)
  refine r_aload_n (i0 := 0) C d_R_leave_0 rfl rfl ?_
  refine r_aload_n (i0 := 0) C d_R_leave_1 rfl rfl ?_
  refine r_iload_n (i0 := 1) C d_R_leave_2 rfl rfl ?_
  refine r_iload_n (i0 := 2) C d_R_leave_3 rfl rfl ?_
  refine r_callVp C cl_R_106 im_R_wrongChange rfl rfl (c_R_wrongChange hx hc) rfl rfl d_R_leave_4 (by decide) (Nat.le_of_ble_eq_true rfl) ?_
  exact join _ (by (repeat' split) <;> omega)
set_option maxHeartbeats 1000000 in
theorem c_R_deliver {l : Launch} (hl : l.stackTraces = false) {w : XW} {h : AH} {a b : Int} (hn : 0 ≤ h 40 0 10 ∧ h 40 0 10 ≤ 12) : AM l y_R_deliver (wsM y_R_deliver b_R_deliver 3 none []) false (rmV 3 0) w [vO 40 0, vI a, vI b] h (Rout (if a < 1 ∨ 1000 < a ∨ b < 0 ∨ 20000 < b then 1 else if h 40 0 10 = 12 then 2 else 0) (none) (none) h (fun h' => h' = hset (hset (hset (hset (hset h 40 0 0 0) 48 0 (h 40 0 10).toNat a) 49 0 (h 40 0 10).toNat b) 40 0 10 (h 40 0 10 + 1)) 40 0 19 0)) := by
  refine AM.of hl (by decide +kernel) (Nat.le_of_ble_eq_true rfl) fun x hx C _ => ?_
  have join : ∀ v : Int, v = (if a < 1 ∨ 1000 < a ∨ b < 0 ∨ 20000 < b then 1 else if h 40 0 10 = 12 then 2 else 0) → AW x w 3 true 0 0 (AQ x w false 0 0 (Rout (if a < 1 ∨ 1000 < a ∨ b < 0 ∨ 20000 < b then 1 else if h 40 0 10 = 12 then 2 else 0) (none) (none) h (fun h' => h' = hset (hset (hset (hset (hset h 40 0 0 0) 48 0 (h 40 0 10).toNat a) 49 0 (h 40 0 10).toNat b) 40 0 10 (h 40 0 10 + 1)) 40 0 19 0))) 41 (aargs 0 [vO 40 0, vI a, vI b]) [vI v, vO 40 0] h := by
    intro v hv
    refine r_putI C pl_R_85 d_R_deliver_41 rfl ?_
    refine r_aload_n (i0 := 0) C d_R_deliver_44 rfl rfl ?_
    refine r_getI C fl_R_85 d_R_deliver_45 rfl ?_
    rw [hset_same]
    refine r_if_ne (tgt := 86) C d_R_deliver_48 (by decide) (fun q48 => ?_) (fun q48 => ?_)
    · exact r_vret C d_R_deliver_86 ((by first | exact Rout.thr hv (by omega) | exact Rout.ret hv (by simp [hset]))) (by decide) (fun q => nomatch q)
    · have v0 : v = 0 := by omega
      subst v0
      refine r_aload_n (i0 := 0) C d_R_deliver_51 rfl rfl ?_
      refine r_getO C fl_R_31 d_R_deliver_52 rfl rfl (fun hi => hi) ?_
      refine r_aload_n (i0 := 0) C d_R_deliver_55 rfl rfl ?_
      refine r_getI C fl_R_110 d_R_deliver_56 rfl ?_
      refine r_iload_n (i0 := 1) C d_R_deliver_59 rfl rfl ?_
      refine r_iastore (ln := 12) C d_R_deliver_60 rfl (fun _ => rfl) rfl (by simp [hset]; omega) ?_
      refine r_aload_n (i0 := 0) C d_R_deliver_61 rfl rfl ?_
      refine r_getO C fl_R_34 d_R_deliver_62 rfl rfl (fun hi => hi) ?_
      refine r_aload_n (i0 := 0) C d_R_deliver_65 rfl rfl ?_
      refine r_getI C fl_R_110 d_R_deliver_66 rfl ?_
      refine r_iload_n (i0 := 2) C d_R_deliver_69 rfl rfl ?_
      refine r_iastore (ln := 12) C d_R_deliver_70 rfl (fun _ => rfl) rfl (by simp [hset]; omega) ?_
      refine r_aload_n (i0 := 0) C d_R_deliver_71 rfl rfl ?_
      refine r_dup C d_R_deliver_72 rfl ?_
      refine r_getI C fl_R_110 d_R_deliver_73 rfl ?_
      refine r_iconst C d_R_deliver_76 (by decide) ?_
      refine r_iadd C d_R_deliver_77 (by simp [hset]; omega) ?_
      refine r_putI C pl_R_110 d_R_deliver_78 rfl ?_
      refine r_aload_n (i0 := 0) C d_R_deliver_81 rfl rfl ?_
      refine r_iconst C d_R_deliver_82 (by decide) ?_
      refine r_putZ C pl_R_98 d_R_deliver_83 rfl (by omega) ?_
      exact r_vret C d_R_deliver_86 ((by first | exact Rout.thr hv (by omega) | exact Rout.ret hv (by simp [hset]))) (by decide) (fun q => nomatch q)
  refine r_aload_n (i0 := 0) C d_R_deliver_0 rfl rfl ?_
  refine r_iload_n (i0 := 1) C d_R_deliver_1 rfl rfl ?_
  refine r_iconst C d_R_deliver_2 (by decide) ?_
  refine r_sipush C d_R_deliver_3 (by decide) (by decide) ?_
  refine r_callSp C cl_R_94 st_R_within (c_R_within hx) rfl rfl d_R_deliver_6 (by decide) (Nat.le_of_ble_eq_true rfl) ?_
  refine r_if_eq (tgt := 23) C d_R_deliver_9 (by decide) (fun q9 => ?_) (fun q9 => ?_)
  · refine r_iconst C d_R_deliver_23 (by decide) ?_
    refine r_goto (tgt := 41) C d_R_deliver_24 (by decide) ?_
    exact join _ (by (repeat' split) <;> omega)
  · refine r_iload_n (i0 := 2) C d_R_deliver_12 rfl rfl ?_
    refine r_iconst C d_R_deliver_13 (by decide) ?_
    refine r_sipush C d_R_deliver_14 (by decide) (by decide) ?_
    refine r_callSp C cl_R_94 st_R_within (c_R_within hx) rfl rfl d_R_deliver_17 (by decide) (Nat.le_of_ble_eq_true rfl) ?_
    refine r_if_ne (tgt := 27) C d_R_deliver_20 (by decide) (fun q20 => ?_) (fun q20 => ?_)
    · refine r_aload_n (i0 := 0) C d_R_deliver_27 rfl rfl ?_
      refine r_getI C fl_R_110 d_R_deliver_28 rfl ?_
      refine r_bipush C d_R_deliver_31 (by decide) (by decide) ?_
      refine r_icmp_ne (tgt := 40) C d_R_deliver_33 (by decide) (fun q33 => ?_) (fun q33 => ?_)
      · refine r_iconst C d_R_deliver_40 (by decide) ?_
        exact join _ (by (repeat' split) <;> omega)
      · refine r_iconst C d_R_deliver_36 (by decide) ?_
        refine r_goto (tgt := 41) C d_R_deliver_37 (by decide) ?_
        exact join _ (by (repeat' split) <;> omega)
    · refine r_iconst C d_R_deliver_23 (by decide) ?_
      refine r_goto (tgt := 41) C d_R_deliver_24 (by decide) ?_
      exact join _ (by (repeat' split) <;> omega)
set_option maxHeartbeats 1000000 in
theorem c_R_endStock {l : Launch} (hl : l.stackTraces = false) {w : XW} {h : AH} {a : Int} (hn : 0 ≤ h 40 0 10 ∧ h 40 0 10 ≤ 12) (hu : ∀ k : Nat, (k : Int) < h 40 0 10 → 0 ≤ h 48 0 k ∧ h 48 0 k ≤ 1000) : AM l y_R_endStock (wsM y_R_endStock b_R_endStock 2 none []) false (rmV 3 0) w [vO 40 0, vI a] h (Rout (if a < -1 ∨ sumF (h 40 0 10).toNat (h 48 0) < a then 1 else 0) (none) (none) h (fun h' => h' = hset (hset (hset h 40 0 0 0) 40 0 13 a) 40 0 19 0)) := by
  refine AM.of hl (by decide +kernel) (Nat.le_of_ble_eq_true rfl) fun x hx C _ => ?_
  have join : ∀ v : Int, v = (if a < -1 ∨ sumF (h 40 0 10).toNat (h 48 0) < a then 1 else 0) → AW x w 2 true 0 0 (AQ x w false 0 0 (Rout (if a < -1 ∨ sumF (h 40 0 10).toNat (h 48 0) < a then 1 else 0) (none) (none) h (fun h' => h' = hset (hset (hset h 40 0 0 0) 40 0 13 a) 40 0 19 0))) 18 (aargs 0 [vO 40 0, vI a]) [vI v, vO 40 0] h := by
    intro v hv
    refine r_putI C pl_R_85 d_R_endStock_18 rfl ?_
    refine r_aload_n (i0 := 0) C d_R_endStock_21 rfl rfl ?_
    refine r_getI C fl_R_85 d_R_endStock_22 rfl ?_
    rw [hset_same]
    refine r_if_ne (tgt := 38) C d_R_endStock_25 (by decide) (fun q25 => ?_) (fun q25 => ?_)
    · exact r_vret C d_R_endStock_38 ((by first | exact Rout.thr hv (by omega) | exact Rout.ret hv (by simp [hset]))) (by decide) (fun q => nomatch q)
    · have v0 : v = 0 := by omega
      subst v0
      refine r_aload_n (i0 := 0) C d_R_endStock_28 rfl rfl ?_
      refine r_iload_n (i0 := 1) C d_R_endStock_29 rfl rfl ?_
      refine r_putI C pl_R_37 d_R_endStock_30 rfl ?_
      refine r_aload_n (i0 := 0) C d_R_endStock_33 rfl rfl ?_
      refine r_iconst C d_R_endStock_34 (by decide) ?_
      refine r_putZ C pl_R_98 d_R_endStock_35 rfl (by omega) ?_
      exact r_vret C d_R_endStock_38 ((by first | exact Rout.thr hv (by omega) | exact Rout.ret hv (by simp [hset]))) (by decide) (fun q => nomatch q)
  refine r_aload_n (i0 := 0) C d_R_endStock_0 rfl rfl ?_
  refine r_iload_n (i0 := 1) C d_R_endStock_1 rfl rfl ?_
  refine r_iconst C d_R_endStock_2 (by decide) ?_
  refine r_aload_n (i0 := 0) C d_R_endStock_3 rfl rfl ?_
  refine r_callVp C cl_R_113 im_R_allUnits rfl rfl (c_R_allUnits hx hn hu) rfl rfl d_R_endStock_4 (by decide) (Nat.le_of_ble_eq_true rfl) ?_
  refine r_callSp C cl_R_94 st_R_within (c_R_within hx) rfl rfl d_R_endStock_7 (by decide) (Nat.le_of_ble_eq_true rfl) ?_
  refine r_if_eq (tgt := 17) C d_R_endStock_10 (by decide) (fun q10 => ?_) (fun q10 => ?_)
  · refine r_iconst C d_R_endStock_17 (by decide) ?_
    exact join _ (by (repeat' split) <;> omega)
  · refine r_iconst C d_R_endStock_13 (by decide) ?_
    refine r_goto (tgt := 18) C d_R_endStock_14 (by decide) ?_
    exact join _ (by (repeat' split) <;> omega)
set_option maxHeartbeats 1000000 in
theorem c_R_sideCosts {l : Launch} (hl : l.stackTraces = false) {w : XW} {h : AH} {a : Int} : AM l y_R_sideCosts (wsM y_R_sideCosts b_R_sideCosts 2 none []) false (rmV 3 0) w [vO 40 0, vI a] h (Rout (if a < 0 ∨ 20000 < a then 1 else 0) (none) (none) h (fun h' => h' = hset (hset (hset h 40 0 0 0) 40 0 14 a) 40 0 19 0)) := by
  refine AM.of hl (by decide +kernel) (Nat.le_of_ble_eq_true rfl) fun x hx C _ => ?_
  have join : ∀ v : Int, v = (if a < 0 ∨ 20000 < a then 1 else 0) → AW x w 2 true 0 0 (AQ x w false 0 0 (Rout (if a < 0 ∨ 20000 < a then 1 else 0) (none) (none) h (fun h' => h' = hset (hset (hset h 40 0 0 0) 40 0 14 a) 40 0 19 0))) 17 (aargs 0 [vO 40 0, vI a]) [vI v, vO 40 0] h := by
    intro v hv
    refine r_putI C pl_R_85 d_R_sideCosts_17 rfl ?_
    refine r_aload_n (i0 := 0) C d_R_sideCosts_20 rfl rfl ?_
    refine r_getI C fl_R_85 d_R_sideCosts_21 rfl ?_
    rw [hset_same]
    refine r_if_ne (tgt := 37) C d_R_sideCosts_24 (by decide) (fun q24 => ?_) (fun q24 => ?_)
    · exact r_vret C d_R_sideCosts_37 ((by first | exact Rout.thr hv (by omega) | exact Rout.ret hv (by simp [hset]))) (by decide) (fun q => nomatch q)
    · have v0 : v = 0 := by omega
      subst v0
      refine r_aload_n (i0 := 0) C d_R_sideCosts_27 rfl rfl ?_
      refine r_iload_n (i0 := 1) C d_R_sideCosts_28 rfl rfl ?_
      refine r_putI C pl_R_117 d_R_sideCosts_29 rfl ?_
      refine r_aload_n (i0 := 0) C d_R_sideCosts_32 rfl rfl ?_
      refine r_iconst C d_R_sideCosts_33 (by decide) ?_
      refine r_putZ C pl_R_98 d_R_sideCosts_34 rfl (by omega) ?_
      exact r_vret C d_R_sideCosts_37 ((by first | exact Rout.thr hv (by omega) | exact Rout.ret hv (by simp [hset]))) (by decide) (fun q => nomatch q)
  refine r_aload_n (i0 := 0) C d_R_sideCosts_0 rfl rfl ?_
  refine r_iload_n (i0 := 1) C d_R_sideCosts_1 rfl rfl ?_
  refine r_iconst C d_R_sideCosts_2 (by decide) ?_
  refine r_sipush C d_R_sideCosts_3 (by decide) (by decide) ?_
  refine r_callSp C cl_R_94 st_R_within (c_R_within hx) rfl rfl d_R_sideCosts_6 (by decide) (Nat.le_of_ble_eq_true rfl) ?_
  refine r_if_eq (tgt := 16) C d_R_sideCosts_9 (by decide) (fun q9 => ?_) (fun q9 => ?_)
  · refine r_iconst C d_R_sideCosts_16 (by decide) ?_
    exact join _ (by (repeat' split) <;> omega)
  · refine r_iconst C d_R_sideCosts_12 (by decide) ?_
    refine r_goto (tgt := 17) C d_R_sideCosts_13 (by decide) ?_
    exact join _ (by (repeat' split) <;> omega)
set_option maxHeartbeats 1000000 in
theorem c_R_water {l : Launch} (hl : l.stackTraces = false) {w : XW} {h : AH} {a b : Int} : AM l y_R_water (wsM y_R_water b_R_water 3 none []) false (rmV 3 0) w [vO 40 0, vI a, vI b] h (Rout (if a < -1 ∨ 10000000 < a ∨ b < 0 ∨ 100 < b then 1 else 0) (none) (none) h (fun h' => h' = hset (hset (hset (hset h 40 0 0 0) 40 0 15 a) 40 0 16 b) 40 0 19 0)) := by
  refine AM.of hl (by decide +kernel) (Nat.le_of_ble_eq_true rfl) fun x hx C _ => ?_
  have join : ∀ v : Int, v = (if a < -1 ∨ 10000000 < a ∨ b < 0 ∨ 100 < b then 1 else 0) → AW x w 3 true 0 0 (AQ x w false 0 0 (Rout (if a < -1 ∨ 10000000 < a ∨ b < 0 ∨ 100 < b then 1 else 0) (none) (none) h (fun h' => h' = hset (hset (hset (hset h 40 0 0 0) 40 0 15 a) 40 0 16 b) 40 0 19 0))) 26 (aargs 0 [vO 40 0, vI a, vI b]) [vI v, vO 40 0] h := by
    intro v hv
    refine r_putI C pl_R_85 d_R_water_26 rfl ?_
    refine r_aload_n (i0 := 0) C d_R_water_29 rfl rfl ?_
    refine r_getI C fl_R_85 d_R_water_30 rfl ?_
    rw [hset_same]
    refine r_if_ne (tgt := 51) C d_R_water_33 (by decide) (fun q33 => ?_) (fun q33 => ?_)
    · exact r_vret C d_R_water_51 ((by first | exact Rout.thr hv (by omega) | exact Rout.ret hv (by simp [hset]))) (by decide) (fun q => nomatch q)
    · have v0 : v = 0 := by omega
      subst v0
      refine r_aload_n (i0 := 0) C d_R_water_36 rfl rfl ?_
      refine r_iload_n (i0 := 1) C d_R_water_37 rfl rfl ?_
      refine r_putI C pl_R_41 d_R_water_38 rfl ?_
      refine r_aload_n (i0 := 0) C d_R_water_41 rfl rfl ?_
      refine r_iload_n (i0 := 2) C d_R_water_42 rfl rfl ?_
      refine r_putI C pl_R_121 d_R_water_43 rfl ?_
      refine r_aload_n (i0 := 0) C d_R_water_46 rfl rfl ?_
      refine r_iconst C d_R_water_47 (by decide) ?_
      refine r_putZ C pl_R_98 d_R_water_48 rfl (by omega) ?_
      exact r_vret C d_R_water_51 ((by first | exact Rout.thr hv (by omega) | exact Rout.ret hv (by simp [hset]))) (by decide) (fun q => nomatch q)
  refine r_aload_n (i0 := 0) C d_R_water_0 rfl rfl ?_
  refine r_iload_n (i0 := 1) C d_R_water_1 rfl rfl ?_
  refine r_iconst C d_R_water_2 (by decide) ?_
  refine r_ldc C d_R_water_3 k_R_120 (by decide) ?_
  refine r_callSp C cl_R_94 st_R_within (c_R_within hx) rfl rfl d_R_water_5 (by decide) (Nat.le_of_ble_eq_true rfl) ?_
  refine r_if_eq (tgt := 25) C d_R_water_8 (by decide) (fun q8 => ?_) (fun q8 => ?_)
  · refine r_iconst C d_R_water_25 (by decide) ?_
    exact join _ (by (repeat' split) <;> omega)
  · refine r_iload_n (i0 := 2) C d_R_water_11 rfl rfl ?_
    refine r_iconst C d_R_water_12 (by decide) ?_
    refine r_bipush C d_R_water_13 (by decide) (by decide) ?_
    refine r_callSp C cl_R_94 st_R_within (c_R_within hx) rfl rfl d_R_water_15 (by decide) (Nat.le_of_ble_eq_true rfl) ?_
    refine r_if_eq (tgt := 25) C d_R_water_18 (by decide) (fun q18 => ?_) (fun q18 => ?_)
    · refine r_iconst C d_R_water_25 (by decide) ?_
      exact join _ (by (repeat' split) <;> omega)
    · refine r_iconst C d_R_water_21 (by decide) ?_
      refine r_goto (tgt := 26) C d_R_water_22 (by decide) ?_
      exact join _ (by (repeat' split) <;> omega)
set_option maxHeartbeats 1000000 in
theorem c_R_permille {l : Launch} (hl : l.stackTraces = false) {w : XW} {h : AH} {a : Int} : AM l y_R_permille (wsM y_R_permille b_R_permille 2 none []) false (rmV 3 0) w [vO 40 0, vI a] h (Rout (if a < 300 ∨ 700 < a then 1 else 0) (none) (none) h (fun h' => h' = hset (hset (hset h 40 0 0 0) 40 0 17 a) 40 0 19 0)) := by
  refine AM.of hl (by decide +kernel) (Nat.le_of_ble_eq_true rfl) fun x hx C _ => ?_
  have join : ∀ v : Int, v = (if a < 300 ∨ 700 < a then 1 else 0) → AW x w 2 true 0 0 (AQ x w false 0 0 (Rout (if a < 300 ∨ 700 < a then 1 else 0) (none) (none) h (fun h' => h' = hset (hset (hset h 40 0 0 0) 40 0 17 a) 40 0 19 0))) 19 (aargs 0 [vO 40 0, vI a]) [vI v, vO 40 0] h := by
    intro v hv
    refine r_putI C pl_R_85 d_R_permille_19 rfl ?_
    refine r_aload_n (i0 := 0) C d_R_permille_22 rfl rfl ?_
    refine r_getI C fl_R_85 d_R_permille_23 rfl ?_
    rw [hset_same]
    refine r_if_ne (tgt := 39) C d_R_permille_26 (by decide) (fun q26 => ?_) (fun q26 => ?_)
    · exact r_vret C d_R_permille_39 ((by first | exact Rout.thr hv (by omega) | exact Rout.ret hv (by simp [hset]))) (by decide) (fun q => nomatch q)
    · have v0 : v = 0 := by omega
      subst v0
      refine r_aload_n (i0 := 0) C d_R_permille_29 rfl rfl ?_
      refine r_iload_n (i0 := 1) C d_R_permille_30 rfl rfl ?_
      refine r_putI C pl_R_44 d_R_permille_31 rfl ?_
      refine r_aload_n (i0 := 0) C d_R_permille_34 rfl rfl ?_
      refine r_iconst C d_R_permille_35 (by decide) ?_
      refine r_putZ C pl_R_98 d_R_permille_36 rfl (by omega) ?_
      exact r_vret C d_R_permille_39 ((by first | exact Rout.thr hv (by omega) | exact Rout.ret hv (by simp [hset]))) (by decide) (fun q => nomatch q)
  refine r_aload_n (i0 := 0) C d_R_permille_0 rfl rfl ?_
  refine r_iload_n (i0 := 1) C d_R_permille_1 rfl rfl ?_
  refine r_sipush C d_R_permille_2 (by decide) (by decide) ?_
  refine r_sipush C d_R_permille_5 (by decide) (by decide) ?_
  refine r_callSp C cl_R_94 st_R_within (c_R_within hx) rfl rfl d_R_permille_8 (by decide) (Nat.le_of_ble_eq_true rfl) ?_
  refine r_if_eq (tgt := 18) C d_R_permille_11 (by decide) (fun q11 => ?_) (fun q11 => ?_)
  · refine r_iconst C d_R_permille_18 (by decide) ?_
    exact join _ (by (repeat' split) <;> omega)
  · refine r_iconst C d_R_permille_14 (by decide) ?_
    refine r_goto (tgt := 19) C d_R_permille_15 (by decide) ?_
    exact join _ (by (repeat' split) <;> omega)
set_option maxHeartbeats 1000000 in
theorem c_R_degrees {l : Launch} (hl : l.stackTraces = false) {w : XW} {h : AH} {a b : Int} : AM l y_R_degrees (wsM y_R_degrees b_R_degrees 3 none []) false (rmV 3 0) w [vO 40 0, vI a, vI b] h (Rout (if a < 0 ∨ 11 < a then 1 else if b < 0 ∨ 100 < b then 2 else 0) (none) (none) h (fun h' => h' = hset (hset (hset h 40 0 0 0) 50 0 a.toNat b) 40 0 19 0)) := by
  refine AM.of hl (by decide +kernel) (Nat.le_of_ble_eq_true rfl) fun x hx C _ => ?_
  have join : ∀ v : Int, v = (if a < 0 ∨ 11 < a then 1 else if b < 0 ∨ 100 < b then 2 else 0) → AW x w 3 true 0 0 (AQ x w false 0 0 (Rout (if a < 0 ∨ 11 < a then 1 else if b < 0 ∨ 100 < b then 2 else 0) (none) (none) h (fun h' => h' = hset (hset (hset h 40 0 0 0) 50 0 a.toNat b) 40 0 19 0))) 30 (aargs 0 [vO 40 0, vI a, vI b]) [vI v, vO 40 0] h := by
    intro v hv
    refine r_putI C pl_R_85 d_R_degrees_30 rfl ?_
    refine r_aload_n (i0 := 0) C d_R_degrees_33 rfl rfl ?_
    refine r_getI C fl_R_85 d_R_degrees_34 rfl ?_
    rw [hset_same]
    refine r_if_ne (tgt := 52) C d_R_degrees_37 (by decide) (fun q37 => ?_) (fun q37 => ?_)
    · exact r_vret C d_R_degrees_52 ((by first | exact Rout.thr hv (by omega) | exact Rout.ret hv (by simp [hset]))) (by decide) (fun q => nomatch q)
    · have v0 : v = 0 := by omega
      subst v0
      refine r_aload_n (i0 := 0) C d_R_degrees_40 rfl rfl ?_
      refine r_getO C fl_R_47 d_R_degrees_41 rfl rfl (fun hi => hi) ?_
      refine r_iload_n (i0 := 1) C d_R_degrees_44 rfl rfl ?_
      refine r_iload_n (i0 := 2) C d_R_degrees_45 rfl rfl ?_
      refine r_iastore (ln := 12) C d_R_degrees_46 rfl (fun _ => rfl) rfl (by omega) ?_
      refine r_aload_n (i0 := 0) C d_R_degrees_47 rfl rfl ?_
      refine r_iconst C d_R_degrees_48 (by decide) ?_
      refine r_putZ C pl_R_98 d_R_degrees_49 rfl (by omega) ?_
      exact r_vret C d_R_degrees_52 ((by first | exact Rout.thr hv (by omega) | exact Rout.ret hv (by simp [hset]))) (by decide) (fun q => nomatch q)
  refine r_aload_n (i0 := 0) C d_R_degrees_0 rfl rfl ?_
  refine r_iload_n (i0 := 1) C d_R_degrees_1 rfl rfl ?_
  refine r_iconst C d_R_degrees_2 (by decide) ?_
  refine r_bipush C d_R_degrees_3 (by decide) (by decide) ?_
  refine r_callSp C cl_R_94 st_R_within (c_R_within hx) rfl rfl d_R_degrees_5 (by decide) (Nat.le_of_ble_eq_true rfl) ?_
  refine r_if_ne (tgt := 15) C d_R_degrees_8 (by decide) (fun q8 => ?_) (fun q8 => ?_)
  · refine r_iload_n (i0 := 2) C d_R_degrees_15 rfl rfl ?_
    refine r_iconst C d_R_degrees_16 (by decide) ?_
    refine r_bipush C d_R_degrees_17 (by decide) (by decide) ?_
    refine r_callSp C cl_R_94 st_R_within (c_R_within hx) rfl rfl d_R_degrees_19 (by decide) (Nat.le_of_ble_eq_true rfl) ?_
    refine r_if_ne (tgt := 29) C d_R_degrees_22 (by decide) (fun q22 => ?_) (fun q22 => ?_)
    · refine r_iconst C d_R_degrees_29 (by decide) ?_
      exact join _ (by (repeat' split) <;> omega)
    · refine r_iconst C d_R_degrees_25 (by decide) ?_
      refine r_goto (tgt := 30) C d_R_degrees_26 (by decide) ?_
      exact join _ (by (repeat' split) <;> omega)
  · refine r_iconst C d_R_degrees_11 (by decide) ?_
    refine r_goto (tgt := 30) C d_R_degrees_12 (by decide) ?_
    exact join _ (by (repeat' split) <;> omega)
set_option maxHeartbeats 1000000 in
theorem c_R_prepay {l : Launch} (hl : l.stackTraces = false) {w : XW} {h : AH} {a b : Int} (ht : 0 ≤ h 40 0 9 ∧ h 40 0 9 ≤ 20) (hp : ∀ k : Nat, k < 20 → 0 ≤ h 53 0 k ∧ h 53 0 k ≤ 1000000) : AM l y_R_prepay (wsM y_R_prepay b_R_prepay 3 none []) false (rmV 3 0) w [vO 40 0, vI a, vI b] h (Rout (if ¬ (0 ≤ a ∧ a < h 40 0 9) then 1 else if b < 0 ∨ 20000 < b ∨ 1000000 < h 53 0 a.toNat + b then 2 else 0) (none) (none) h (fun h' => h' = hset (hset h 40 0 0 0) 53 0 a.toNat (h 53 0 a.toNat + b))) := by
  refine AM.of hl (by decide +kernel) (Nat.le_of_ble_eq_true rfl) fun x hx C _ => ?_
  have join : ∀ v : Int, v = (if ¬ (0 ≤ a ∧ a < h 40 0 9) then 1 else if b < 0 ∨ 20000 < b ∨ 1000000 < h 53 0 a.toNat + b then 2 else 0) → AW x w 3 true 0 0 (AQ x w false 0 0 (Rout (if ¬ (0 ≤ a ∧ a < h 40 0 9) then 1 else if b < 0 ∨ 20000 < b ∨ 1000000 < h 53 0 a.toNat + b then 2 else 0) (none) (none) h (fun h' => h' = hset (hset h 40 0 0 0) 53 0 a.toNat (h 53 0 a.toNat + b)))) 42 (aargs 0 [vO 40 0, vI a, vI b]) [vI v, vO 40 0] h := by
    intro v hv
    refine r_putI C pl_R_85 d_R_prepay_42 rfl ?_
    refine r_aload_n (i0 := 0) C d_R_prepay_45 rfl rfl ?_
    refine r_getI C fl_R_85 d_R_prepay_46 rfl ?_
    rw [hset_same]
    refine r_if_ne (tgt := 66) C d_R_prepay_49 (by decide) (fun q49 => ?_) (fun q49 => ?_)
    · exact r_vret C d_R_prepay_66 ((by first | exact Rout.thr hv (by omega) | exact Rout.ret hv (by simp [hset]))) (by decide) (fun q => nomatch q)
    · have v0 : v = 0 := by omega
      subst v0
      refine r_aload_n (i0 := 0) C d_R_prepay_52 rfl rfl ?_
      refine r_getO C fl_R_56 d_R_prepay_53 rfl rfl (fun hi => hi) ?_
      refine r_iload_n (i0 := 1) C d_R_prepay_56 rfl rfl ?_
      refine r_aload_n (i0 := 0) C d_R_prepay_57 rfl rfl ?_
      refine r_getO C fl_R_56 d_R_prepay_58 rfl rfl (fun hi => hi) ?_
      refine r_iload_n (i0 := 1) C d_R_prepay_61 rfl rfl ?_
      refine r_iaload (ln := 20) C d_R_prepay_62 rfl (fun _ => rfl) rfl (by omega) ?_
      refine r_iload_n (i0 := 2) C d_R_prepay_63 rfl rfl ?_
      refine r_iadd C d_R_prepay_64 (by have := hp a.toNat (by omega); simp [hset]; omega) ?_
      refine r_iastore (ln := 20) C d_R_prepay_65 rfl (fun _ => rfl) rfl (by omega) ?_
      exact r_vret C d_R_prepay_66 ((by first | exact Rout.thr hv (by omega) | exact Rout.ret hv (by simp [hset]))) (by decide) (fun q => nomatch q)
  refine r_aload_n (i0 := 0) C d_R_prepay_0 rfl rfl ?_
  refine r_aload_n (i0 := 0) C d_R_prepay_1 rfl rfl ?_
  refine r_iload_n (i0 := 1) C d_R_prepay_2 rfl rfl ?_
  refine r_callVp C cl_R_124 im_R_isTenant rfl rfl (c_R_isTenant hx) rfl rfl d_R_prepay_3 (by decide) (Nat.le_of_ble_eq_true rfl) ?_
  refine r_if_ne (tgt := 13) C d_R_prepay_6 (by decide) (fun q6 => ?_) (fun q6 => ?_)
  · refine r_iload_n (i0 := 2) C d_R_prepay_13 rfl rfl ?_
    refine r_iconst C d_R_prepay_14 (by decide) ?_
    refine r_sipush C d_R_prepay_15 (by decide) (by decide) ?_
    refine r_callSp C cl_R_94 st_R_within (c_R_within hx) rfl rfl d_R_prepay_18 (by decide) (Nat.le_of_ble_eq_true rfl) ?_
    refine r_if_eq (tgt := 37) C d_R_prepay_21 (by decide) (fun q21 => ?_) (fun q21 => ?_)
    · refine r_iconst C d_R_prepay_37 (by decide) ?_
      refine r_goto (tgt := 42) C d_R_prepay_38 (by decide) ?_
      exact join _ (by (repeat' split) <;> omega)
    · refine r_aload_n (i0 := 0) C d_R_prepay_24 rfl rfl ?_
      refine r_getO C fl_R_56 d_R_prepay_25 rfl rfl (fun hi => hi) ?_
      refine r_iload_n (i0 := 1) C d_R_prepay_28 rfl rfl ?_
      refine r_iaload (ln := 20) C d_R_prepay_29 rfl (fun _ => rfl) rfl (by omega) ?_
      refine r_iload_n (i0 := 2) C d_R_prepay_30 rfl rfl ?_
      refine r_iadd C d_R_prepay_31 (by have := hp a.toNat (by omega); omega) ?_
      refine r_ldc C d_R_prepay_32 k_R_127 (by decide) ?_
      refine r_icmp_le (tgt := 41) C d_R_prepay_34 (by decide) (fun q34 => ?_) (fun q34 => ?_)
      · refine r_iconst C d_R_prepay_41 (by decide) ?_
        exact join _ (by (repeat' split) <;> omega)
      · refine r_iconst C d_R_prepay_37 (by decide) ?_
        refine r_goto (tgt := 42) C d_R_prepay_38 (by decide) ?_
        exact join _ (by (repeat' split) <;> omega)
  · refine r_iconst C d_R_prepay_9 (by decide) ?_
    refine r_goto (tgt := 42) C d_R_prepay_10 (by decide) ?_
    exact join _ (by (repeat' split) <;> omega)
set_option maxHeartbeats 1000000 in
theorem c_R_paid {l : Launch} (hl : l.stackTraces = false) {w : XW} {h : AH} {a : Int} (ht : 0 ≤ h 40 0 9 ∧ h 40 0 9 ≤ 20) : AM l y_R_paid (wsM y_R_paid b_R_paid 2 (some .int) []) false (rmV 3 0) w [vO 40 0, vI a] h (Rout (if 0 ≤ a ∧ a < h 40 0 9 then 0 else 1) (some (vI 0)) (some (vI (h 53 0 a.toNat))) h (fun h' => h' = hset h 40 0 0 0)) := by
  refine AM.of hl (by decide +kernel) (Nat.le_of_ble_eq_true rfl) fun x hx C _ => ?_
  have join : ∀ v : Int, v = (if 0 ≤ a ∧ a < h 40 0 9 then 0 else 1) → AW x w 2 true 0 0 (AQ x w false 0 0 (Rout (if 0 ≤ a ∧ a < h 40 0 9 then 0 else 1) (some (vI 0)) (some (vI (h 53 0 a.toNat))) h (fun h' => h' = hset h 40 0 0 0))) 14 (aargs 0 [vO 40 0, vI a]) [vI v, vO 40 0] h := by
    intro v hv
    refine r_putI C pl_R_85 d_R_paid_14 rfl ?_
    refine r_aload_n (i0 := 0) C d_R_paid_17 rfl rfl ?_
    refine r_getI C fl_R_85 d_R_paid_18 rfl ?_
    rw [hset_same]
    refine r_if_le (tgt := 28) C d_R_paid_21 (by decide) (fun q21 => ?_) (fun q21 => ?_)
    · have v0 : v = 0 := by omega
      subst v0
      refine r_aload_n (i0 := 0) C d_R_paid_28 rfl rfl ?_
      refine r_getO C fl_R_56 d_R_paid_29 rfl rfl (fun hi => hi) ?_
      refine r_iload_n (i0 := 1) C d_R_paid_32 rfl rfl ?_
      refine r_iaload (ln := 20) C d_R_paid_33 rfl (fun _ => rfl) rfl (by omega) ?_
      exact r_iret C d_R_paid_34 (fun _ => (by first | exact Rout.thr hv (by omega) | exact Rout.ret hv (rfl))) (by decide) (fun q => nomatch q)
    · refine r_iconst C d_R_paid_24 (by decide) ?_
      refine r_goto (tgt := 34) C d_R_paid_25 (by decide) ?_
      exact r_iret C d_R_paid_34 (fun _ => (by first | exact Rout.thr hv (by omega) | exact Rout.ret hv (rfl))) (by decide) (fun q => nomatch q)
  refine r_aload_n (i0 := 0) C d_R_paid_0 rfl rfl ?_
  refine r_aload_n (i0 := 0) C d_R_paid_1 rfl rfl ?_
  refine r_iload_n (i0 := 1) C d_R_paid_2 rfl rfl ?_
  refine r_callVp C cl_R_124 im_R_isTenant rfl rfl (c_R_isTenant hx) rfl rfl d_R_paid_3 (by decide) (Nat.le_of_ble_eq_true rfl) ?_
  refine r_if_eq (tgt := 13) C d_R_paid_6 (by decide) (fun q6 => ?_) (fun q6 => ?_)
  · refine r_iconst C d_R_paid_13 (by decide) ?_
    exact join _ (by (repeat' split) <;> omega)
  · refine r_iconst C d_R_paid_9 (by decide) ?_
    refine r_goto (tgt := 14) C d_R_paid_10 (by decide) ?_
    exact join _ (by (repeat' split) <;> omega)
set_option maxHeartbeats 1000000 in
theorem c_R_known {l : Launch} (hl : l.stackTraces = false) {w : XW} {h : AH} {a : Int} (hc : 0 ≤ h 40 0 1 ∧ h 40 0 1 ≤ 6) : AM l y_R_known (wsM y_R_known b_R_known 2 (some .int) []) false (rmV 3 0) w [vO 40 0, vI a] h (Rout (if 0 ≤ a ∧ a < h 40 0 1 then 0 else 1) (some (vI 0)) (some (vI (h 47 0 a.toNat))) h (fun h' => h' = hset h 40 0 0 0)) := by
  refine AM.of hl (by decide +kernel) (Nat.le_of_ble_eq_true rfl) fun x hx C _ => ?_
  have join : ∀ v : Int, v = (if 0 ≤ a ∧ a < h 40 0 1 then 0 else 1) → AW x w 2 true 0 0 (AQ x w false 0 0 (Rout (if 0 ≤ a ∧ a < h 40 0 1 then 0 else 1) (some (vI 0)) (some (vI (h 47 0 a.toNat))) h (fun h' => h' = hset h 40 0 0 0))) 14 (aargs 0 [vO 40 0, vI a]) [vI v, vO 40 0] h := by
    intro v hv
    refine r_putI C pl_R_85 d_R_known_14 rfl ?_
    refine r_aload_n (i0 := 0) C d_R_known_17 rfl rfl ?_
    refine r_getI C fl_R_85 d_R_known_18 rfl ?_
    rw [hset_same]
    refine r_if_le (tgt := 28) C d_R_known_21 (by decide) (fun q21 => ?_) (fun q21 => ?_)
    · have v0 : v = 0 := by omega
      subst v0
      refine r_aload_n (i0 := 0) C d_R_known_28 rfl rfl ?_
      refine r_getO C fl_R_28 d_R_known_29 rfl rfl (fun hi => hi) ?_
      refine r_iload_n (i0 := 1) C d_R_known_32 rfl rfl ?_
      refine r_iaload (ln := 6) C d_R_known_33 rfl (fun _ => rfl) rfl (by omega) ?_
      exact r_iret C d_R_known_34 (fun _ => (by first | exact Rout.thr hv (by omega) | exact Rout.ret hv (rfl))) (by decide) (fun q => nomatch q)
    · refine r_iconst C d_R_known_24 (by decide) ?_
      refine r_goto (tgt := 34) C d_R_known_25 (by decide) ?_
      exact r_iret C d_R_known_34 (fun _ => (by first | exact Rout.thr hv (by omega) | exact Rout.ret hv (rfl))) (by decide) (fun q => nomatch q)
  refine r_aload_n (i0 := 0) C d_R_known_0 rfl rfl ?_
  refine r_aload_n (i0 := 0) C d_R_known_1 rfl rfl ?_
  refine r_iload_n (i0 := 1) C d_R_known_2 rfl rfl ?_
  refine r_callVp C cl_R_102 im_R_isFlat rfl rfl (c_R_isFlat hx) rfl rfl d_R_known_3 (by decide) (Nat.le_of_ble_eq_true rfl) ?_
  refine r_if_eq (tgt := 13) C d_R_known_6 (by decide) (fun q6 => ?_) (fun q6 => ?_)
  · refine r_iconst C d_R_known_13 (by decide) ?_
    exact join _ (by (repeat' split) <;> omega)
  · refine r_iconst C d_R_known_9 (by decide) ?_
    refine r_goto (tgt := 14) C d_R_known_10 (by decide) ?_
    exact join _ (by (repeat' split) <;> omega)
set_option maxHeartbeats 1000000 in
theorem c_R_part {l : Launch} (hl : l.stackTraces = false) {w : XW} {h : AH} {a : Int} : AM l y_R_part (wsM y_R_part b_R_part 2 (some .int) []) false (rmV 3 0) w [vO 40 0, vI a] h (Rout (if h 40 0 19 = 0 then 1 else if a < 0 ∨ 4 < a then 2 else 0) (some (vI 0)) (some (vI (h 51 0 a.toNat))) h (fun h' => h' = hset h 40 0 0 0)) := by
  refine AM.of hl (by decide +kernel) (Nat.le_of_ble_eq_true rfl) fun x hx C _ => ?_
  have join : ∀ v : Int, v = (if h 40 0 19 = 0 then 1 else if a < 0 ∨ 4 < a then 2 else 0) → AW x w 2 true 0 0 (AQ x w false 0 0 (Rout (if h 40 0 19 = 0 then 1 else if a < 0 ∨ 4 < a then 2 else 0) (some (vI 0)) (some (vI (h 51 0 a.toNat))) h (fun h' => h' = hset h 40 0 0 0))) 26 (aargs 0 [vO 40 0, vI a]) [vI v, vO 40 0] h := by
    intro v hv
    refine r_putI C pl_R_85 d_R_part_26 rfl ?_
    refine r_aload_n (i0 := 0) C d_R_part_29 rfl rfl ?_
    refine r_getI C fl_R_85 d_R_part_30 rfl ?_
    rw [hset_same]
    refine r_if_le (tgt := 40) C d_R_part_33 (by decide) (fun q33 => ?_) (fun q33 => ?_)
    · have v0 : v = 0 := by omega
      subst v0
      refine r_aload_n (i0 := 0) C d_R_part_40 rfl rfl ?_
      refine r_getO C fl_R_50 d_R_part_41 rfl rfl (fun hi => hi) ?_
      refine r_iload_n (i0 := 1) C d_R_part_44 rfl rfl ?_
      refine r_iaload (ln := 5) C d_R_part_45 rfl (fun _ => rfl) rfl (by omega) ?_
      exact r_iret C d_R_part_46 (fun _ => (by first | exact Rout.thr hv (by omega) | exact Rout.ret hv (rfl))) (by decide) (fun q => nomatch q)
    · refine r_iconst C d_R_part_36 (by decide) ?_
      refine r_goto (tgt := 46) C d_R_part_37 (by decide) ?_
      exact r_iret C d_R_part_46 (fun _ => (by first | exact Rout.thr hv (by omega) | exact Rout.ret hv (rfl))) (by decide) (fun q => nomatch q)
  refine r_aload_n (i0 := 0) C d_R_part_0 rfl rfl ?_
  refine r_aload_n (i0 := 0) C d_R_part_1 rfl rfl ?_
  refine r_getI C fl_R_98 d_R_part_2 rfl ?_
  refine r_if_ne (tgt := 12) C d_R_part_5 (by decide) (fun q5 => ?_) (fun q5 => ?_)
  · refine r_iload_n (i0 := 1) C d_R_part_12 rfl rfl ?_
    refine r_iconst C d_R_part_13 (by decide) ?_
    refine r_iconst C d_R_part_14 (by decide) ?_
    refine r_callSp C cl_R_94 st_R_within (c_R_within hx) rfl rfl d_R_part_15 (by decide) (Nat.le_of_ble_eq_true rfl) ?_
    refine r_if_ne (tgt := 25) C d_R_part_18 (by decide) (fun q18 => ?_) (fun q18 => ?_)
    · refine r_iconst C d_R_part_25 (by decide) ?_
      exact join _ (by (repeat' split) <;> omega)
    · refine r_iconst C d_R_part_21 (by decide) ?_
      refine r_goto (tgt := 26) C d_R_part_22 (by decide) ?_
      exact join _ (by (repeat' split) <;> omega)
  · refine r_iconst C d_R_part_8 (by decide) ?_
    refine r_goto (tgt := 26) C d_R_part_9 (by decide) ?_
    exact join _ (by (repeat' split) <;> omega)
set_option maxHeartbeats 1000000 in
theorem c_R_sumOf {l : Launch} (hl : l.stackTraces = false) {w : XW} {h : AH} {a : Int} (hs : ∀ j : Nat, j < 63 → 0 ≤ h 52 0 j ∧ h 52 0 j ≤ 20000000) (ha : 0 ≤ a ∧ a < 21) : AM l y_R_sumOf (wsM y_R_sumOf b_R_sumOf 2 (some .int) []) true (rmV 0 0) w [vO 40 0, vI a] h (Ret (some (vI (h 52 0 (3 * a).toNat + h 52 0 (3 * a + 1).toNat + h 52 0 (3 * a + 2).toNat))) h) := by
  refine AM.of hl (by decide +kernel) (Nat.le_of_ble_eq_true rfl) fun x hx C _ => ?_
  refine r_aload_n (i0 := 0) C d_R_sumOf_0 rfl rfl ?_
  refine r_getO C fl_R_53 d_R_sumOf_1 rfl rfl (fun hi => hi) ?_
  refine r_iconst C d_R_sumOf_4 (by decide) ?_
  refine r_iload_n (i0 := 1) C d_R_sumOf_5 rfl rfl ?_
  refine r_imul C d_R_sumOf_6 (by omega) ?_
  refine r_iaload (ln := 63) C d_R_sumOf_7 rfl (fun _ => rfl) rfl (by omega) ?_
  refine r_aload_n (i0 := 0) C d_R_sumOf_8 rfl rfl ?_
  refine r_getO C fl_R_53 d_R_sumOf_9 rfl rfl (fun hi => hi) ?_
  refine r_iconst C d_R_sumOf_12 (by decide) ?_
  refine r_iload_n (i0 := 1) C d_R_sumOf_13 rfl rfl ?_
  refine r_imul C d_R_sumOf_14 (by omega) ?_
  refine r_iconst C d_R_sumOf_15 (by decide) ?_
  refine r_iadd C d_R_sumOf_16 (by omega) ?_
  refine r_iaload (ln := 63) C d_R_sumOf_17 rfl (fun _ => rfl) rfl (by omega) ?_
  refine r_iadd C d_R_sumOf_18 (by have s0 := hs (3 * a).toNat (by omega); have s1 := hs (3 * a + 1).toNat (by omega); have s2 := hs (3 * a + 2).toNat (by omega); omega) ?_
  refine r_aload_n (i0 := 0) C d_R_sumOf_19 rfl rfl ?_
  refine r_getO C fl_R_53 d_R_sumOf_20 rfl rfl (fun hi => hi) ?_
  refine r_iconst C d_R_sumOf_23 (by decide) ?_
  refine r_iload_n (i0 := 1) C d_R_sumOf_24 rfl rfl ?_
  refine r_imul C d_R_sumOf_25 (by omega) ?_
  refine r_iconst C d_R_sumOf_26 (by decide) ?_
  refine r_iadd C d_R_sumOf_27 (by omega) ?_
  refine r_iaload (ln := 63) C d_R_sumOf_28 rfl (fun _ => rfl) rfl (by omega) ?_
  refine r_iadd C d_R_sumOf_29 (by have s0 := hs (3 * a).toNat (by omega); have s1 := hs (3 * a + 1).toNat (by omega); have s2 := hs (3 * a + 2).toNat (by omega); omega) ?_
  exact r_iret C d_R_sumOf_30 (fun _ => ⟨rfl, rfl⟩) (by decide) (fun _ => ⟨rfl, rfl, rfl⟩)
set_option maxHeartbeats 1000000 in
theorem c_R_changeAt {l : Launch} (hl : l.stackTraces = false) {w : XW} {h : AH} {a b : Int} (ha : 0 ≤ a ∧ a < 6) (hb : 0 ≤ b ∧ b < 12) : AM l y_R_changeAt (wsM y_R_changeAt b_R_changeAt 3 (some .int) []) true (rmV 0 0) w [vO 40 0, vI a, vI b] h (Ret (some (vI (h 45 0 (12 * a + b).toNat))) h) := by
  refine AM.of hl (by decide +kernel) (Nat.le_of_ble_eq_true rfl) fun x hx C _ => ?_
  refine r_aload_n (i0 := 0) C d_R_changeAt_0 rfl rfl ?_
  refine r_getO C fl_R_22 d_R_changeAt_1 rfl rfl (fun hi => hi) ?_
  refine r_bipush C d_R_changeAt_4 (by decide) (by decide) ?_
  refine r_iload_n (i0 := 1) C d_R_changeAt_6 rfl rfl ?_
  refine r_imul C d_R_changeAt_7 (by omega) ?_
  refine r_iload_n (i0 := 2) C d_R_changeAt_8 rfl rfl ?_
  refine r_iadd C d_R_changeAt_9 (by omega) ?_
  refine r_iaload (ln := 72) C d_R_changeAt_10 rfl (fun _ => rfl) rfl (by omega) ?_
  exact r_iret C d_R_changeAt_11 (fun _ => ⟨rfl, rfl⟩) (by decide) (fun _ => ⟨rfl, rfl, rfl⟩)

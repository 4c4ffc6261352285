/-! Contracts: the checks of the class, and what writes little. -/
set_option maxHeartbeats 1000000 in
theorem c_H_needFlat {l : Launch} (hl : l.stackTraces = false) {w : XW} {h : AH} {a : Int} (hc : 0 ≤ h 2 0 1 ∧ h 2 0 1 ≤ 6) : AM l y_H_needFlat (wsM y_H_needFlat b_H_needFlat 2 none []) true (rmV 1 1) w [vO 1 0, vI a] h (Out (if a < 0 ∨ h 2 0 1 ≤ a then some 1 else none) none h (fun h' => h' = h)) := by
  refine AM.of hl (by decide +kernel) (Nat.le_of_ble_eq_true rfl) fun x hx C _ => ?_
  refine r_iload_n (i0 := 1) C d_H_needFlat_0 rfl rfl ?_
  refine r_iconst C d_H_needFlat_1 (by decide) ?_
  refine r_aload_n (i0 := 0) C d_H_needFlat_2 rfl rfl ?_
  refine r_getO C fl_H_12 d_H_needFlat_3 rfl rfl (fun hi => hi) ?_
  refine r_getI C fl_H_86 d_H_needFlat_6 rfl ?_
  refine r_iconst C d_H_needFlat_9 (by decide) ?_
  refine r_isub C d_H_needFlat_10 (by omega) ?_
  refine r_callSp C cl_H_75 st_H_isOutside (c_H_isOutside hx) rfl rfl d_H_needFlat_11 (by decide) (Nat.le_of_ble_eq_true rfl) ?_
  refine r_if_eq (tgt := 27) C d_H_needFlat_14 (by decide) (fun q14 => ?_) (fun q14 => ?_)
  · exact r_vret C d_H_needFlat_27 (Out.ret (by (repeat' split) <;> first | rfl | omega) rfl) (by decide) (fun _ => ⟨rfl, rfl, rfl⟩)
  · exact r_throw C tl_H_needFlat_17 d_H_needFlat_17 d_H_needFlat_20 d_H_needFlat_21 d_H_needFlat_23 d_H_needFlat_26 (by decide) (by decide) (Nat.le_of_ble_eq_true rfl) (Out.thr (by (repeat' split) <;> first | rfl | omega))
set_option maxHeartbeats 1000000 in
theorem c_F_hasChange {l : Launch} (hl : l.stackTraces = false) {w : XW} {h : AH} {f : Nat} {a : Int} (ha : 0 ≤ a ∧ a < 12) : AM l y_F_hasChange (wsM y_F_hasChange b_F_hasChange 2 (some .boolean) []) true (rmV 0 0) w [vO 4 f, vI a] h (Ret (some (vI (if h 6 f a.toNat = -2 then 0 else 1))) h) := by
  refine AM.of hl (by decide +kernel) (Nat.le_of_ble_eq_true rfl) fun x hx C _ => ?_
  refine r_aload_n (i0 := 0) C d_F_hasChange_0 rfl rfl ?_
  refine r_getO C fl_F_31 d_F_hasChange_1 rfl rfl (fun hi => hi) ?_
  refine r_iload_n (i0 := 1) C d_F_hasChange_4 rfl rfl ?_
  refine r_iaload (ln := 12) C d_F_hasChange_5 rfl (fun _ => rfl) rfl (by omega) ?_
  refine r_bipush C d_F_hasChange_6 (by decide) (by decide) ?_
  refine r_icmp_eq (tgt := 15) C d_F_hasChange_8 (by decide) (fun q8 => ?_) (fun q8 => ?_)
  · refine r_iconst C d_F_hasChange_15 (by decide) ?_
    exact r_zret C d_F_hasChange_16 (by omega) (⟨vi_e (by split <;> omega), rfl⟩) (by decide) (fun _ => ⟨rfl, rfl, rfl⟩)
  · refine r_iconst C d_F_hasChange_11 (by decide) ?_
    refine r_goto (tgt := 16) C d_F_hasChange_12 (by decide) ?_
    exact r_zret C d_F_hasChange_16 (by omega) (⟨vi_e (by split <;> omega), rfl⟩) (by decide) (fun _ => ⟨rfl, rfl, rfl⟩)
set_option maxHeartbeats 1000000 in
theorem c_H_needRoomForChange {l : Launch} (hl : l.stackTraces = false) {w : XW} {h : AH} {a b : Int} (hc : 0 ≤ h 2 0 1 ∧ h 2 0 1 ≤ 6) : AM l y_H_needRoomForChange (wsM y_H_needRoomForChange b_H_needRoomForChange 3 none []) true (rmV 2 1) w [vO 1 0, vI a, vI b] h (Out (if a < 0 ∨ h 2 0 1 ≤ a then some 1 else if b < 0 ∨ 11 < b then some 1 else if h 6 a.toNat b.toNat = -2 then none else some 2) none h (fun h' => h' = h)) := by
  refine AM.of hl (by decide +kernel) (Nat.le_of_ble_eq_true rfl) fun x hx C _ => ?_
  refine r_aload_n (i0 := 0) C d_H_needRoomForChange_0 rfl rfl ?_
  refine r_iload_n (i0 := 1) C d_H_needRoomForChange_1 rfl rfl ?_
  refine r_callVt C cl_H_98 im_H_needFlat rfl rfl (c_H_needFlat hx hc) rfl rfl d_H_needRoomForChange_2 (by decide) (Nat.le_of_ble_eq_true rfl) (by decide) (fun k hk => Out.thr (by by_cases z : a < 0 ∨ h 2 0 1 ≤ a <;> simp [z] at hk ⊢; exact hk)) (fun e2 => ?_)
  have e2n : ¬ (a < 0 ∨ h 2 0 1 ≤ a) := fun z => by rw [if_pos z] at e2; cases e2
  refine r_iload_n (i0 := 2) C d_H_needRoomForChange_5 rfl rfl ?_
  refine r_iconst C d_H_needRoomForChange_6 (by decide) ?_
  refine r_bipush C d_H_needRoomForChange_7 (by decide) (by decide) ?_
  refine r_callSp C cl_H_75 st_H_isOutside (c_H_isOutside hx) rfl rfl d_H_needRoomForChange_9 (by decide) (Nat.le_of_ble_eq_true rfl) ?_
  refine r_if_eq (tgt := 25) C d_H_needRoomForChange_12 (by decide) (fun q12 => ?_) (fun q12 => ?_)
  · refine r_aload_n (i0 := 0) C d_H_needRoomForChange_25 rfl rfl ?_
    refine r_getO C fl_H_12 d_H_needRoomForChange_26 rfl rfl (fun hi => hi) ?_
    refine r_getO C fl_H_109 d_H_needRoomForChange_29 rfl rfl (fun hi => hi) ?_
    refine r_iload_n (i0 := 1) C d_H_needRoomForChange_32 rfl rfl ?_
    refine r_aaF C d_H_needRoomForChange_33 (by omega) ?_
    refine r_iload_n (i0 := 2) C d_H_needRoomForChange_34 rfl rfl ?_
    refine r_callVp C cl_H_240 im_F_hasChange rfl rfl (c_F_hasChange hx (by omega)) rfl rfl d_H_needRoomForChange_35 (by decide) (Nat.le_of_ble_eq_true rfl) ?_
    refine r_if_eq (tgt := 51) C d_H_needRoomForChange_38 (by decide) (fun q38 => ?_) (fun q38 => ?_)
    · exact r_vret C d_H_needRoomForChange_51 (Out.ret (by (repeat' split) <;> first | rfl | omega) rfl) (by decide) (fun _ => ⟨rfl, rfl, rfl⟩)
    · exact r_throw C tl_H_needRoomForChange_41 d_H_needRoomForChange_41 d_H_needRoomForChange_44 d_H_needRoomForChange_45 d_H_needRoomForChange_47 d_H_needRoomForChange_50 (by decide) (by decide) (Nat.le_of_ble_eq_true rfl) (Out.thr (by (repeat' split) <;> first | rfl | omega))
  · exact r_throw C tl_H_needRoomForChange_15 d_H_needRoomForChange_15 d_H_needRoomForChange_18 d_H_needRoomForChange_19 d_H_needRoomForChange_21 d_H_needRoomForChange_24 (by decide) (by decide) (Nat.le_of_ble_eq_true rfl) (Out.thr (by (repeat' split) <;> first | rfl | omega))
set_option maxHeartbeats 1000000 in
theorem c_H_needTenant {l : Launch} (hl : l.stackTraces = false) {w : XW} {h : AH} {a : Int} (ht : 0 ≤ h 23 0 4 ∧ h 23 0 4 ≤ 20) : AM l y_H_needTenant (wsM y_H_needTenant b_H_needTenant 2 none []) true (rmV 1 1) w [vO 1 0, vI a] h (Out (if a < 0 ∨ h 23 0 4 ≤ a then some 1 else none) none h (fun h' => h' = h)) := by
  refine AM.of hl (by decide +kernel) (Nat.le_of_ble_eq_true rfl) fun x hx C _ => ?_
  refine r_iload_n (i0 := 1) C d_H_needTenant_0 rfl rfl ?_
  refine r_iconst C d_H_needTenant_1 (by decide) ?_
  refine r_aload_n (i0 := 0) C d_H_needTenant_2 rfl rfl ?_
  refine r_getO C fl_H_47 d_H_needTenant_3 rfl rfl (fun hi => hi) ?_
  refine r_getI C fl_H_122 d_H_needTenant_6 rfl ?_
  refine r_iconst C d_H_needTenant_9 (by decide) ?_
  refine r_isub C d_H_needTenant_10 (by omega) ?_
  refine r_callSp C cl_H_75 st_H_isOutside (c_H_isOutside hx) rfl rfl d_H_needTenant_11 (by decide) (Nat.le_of_ble_eq_true rfl) ?_
  refine r_if_eq (tgt := 27) C d_H_needTenant_14 (by decide) (fun q14 => ?_) (fun q14 => ?_)
  · exact r_vret C d_H_needTenant_27 (Out.ret (by (repeat' split) <;> first | rfl | omega) rfl) (by decide) (fun _ => ⟨rfl, rfl, rfl⟩)
  · exact r_throw C tl_H_needTenant_17 d_H_needTenant_17 d_H_needTenant_20 d_H_needTenant_21 d_H_needTenant_23 d_H_needTenant_26 (by decide) (by decide) (Nat.le_of_ble_eq_true rfl) (Out.thr (by (repeat' split) <;> first | rfl | omega))
set_option maxHeartbeats 1000000 in
theorem c_H_needTenantOrLandlord {l : Launch} (hl : l.stackTraces = false) {w : XW} {h : AH} {a : Int} (ht : 0 ≤ h 23 0 4 ∧ h 23 0 4 ≤ 20) : AM l y_H_needTenantOrLandlord (wsM y_H_needTenantOrLandlord b_H_needTenantOrLandlord 2 none []) true (rmV 1 1) w [vO 1 0, vI a] h (Out (if a < -1 ∨ h 23 0 4 ≤ a then some 1 else none) none h (fun h' => h' = h)) := by
  refine AM.of hl (by decide +kernel) (Nat.le_of_ble_eq_true rfl) fun x hx C _ => ?_
  refine r_iload_n (i0 := 1) C d_H_needTenantOrLandlord_0 rfl rfl ?_
  refine r_iconst C d_H_needTenantOrLandlord_1 (by decide) ?_
  refine r_aload_n (i0 := 0) C d_H_needTenantOrLandlord_2 rfl rfl ?_
  refine r_getO C fl_H_47 d_H_needTenantOrLandlord_3 rfl rfl (fun hi => hi) ?_
  refine r_getI C fl_H_122 d_H_needTenantOrLandlord_6 rfl ?_
  refine r_iconst C d_H_needTenantOrLandlord_9 (by decide) ?_
  refine r_isub C d_H_needTenantOrLandlord_10 (by omega) ?_
  refine r_callSp C cl_H_75 st_H_isOutside (c_H_isOutside hx) rfl rfl d_H_needTenantOrLandlord_11 (by decide) (Nat.le_of_ble_eq_true rfl) ?_
  refine r_if_eq (tgt := 27) C d_H_needTenantOrLandlord_14 (by decide) (fun q14 => ?_) (fun q14 => ?_)
  · exact r_vret C d_H_needTenantOrLandlord_27 (Out.ret (by (repeat' split) <;> first | rfl | omega) rfl) (by decide) (fun _ => ⟨rfl, rfl, rfl⟩)
  · exact r_throw C tl_H_needTenantOrLandlord_17 d_H_needTenantOrLandlord_17 d_H_needTenantOrLandlord_20 d_H_needTenantOrLandlord_21 d_H_needTenantOrLandlord_23 d_H_needTenantOrLandlord_26 (by decide) (by decide) (Nat.le_of_ble_eq_true rfl) (Out.thr (by (repeat' split) <;> first | rfl | omega))
set_option maxHeartbeats 1000000 in
theorem c_H_needBill {l : Launch} (hl : l.stackTraces = false) {w : XW} {h : AH}  : AM l y_H_needBill (wsM y_H_needBill b_H_needBill 1 none []) true (rmV 1 1) w [vO 1 0] h (Out (if h 1 0 12 = 0 then some 2 else none) none h (fun h' => h' = h)) := by
  refine AM.of hl (by decide +kernel) (Nat.le_of_ble_eq_true rfl) fun x hx C _ => ?_
  refine r_aload_n (i0 := 0) C d_H_needBill_0 rfl rfl ?_
  refine r_getI C fl_H_71 d_H_needBill_1 rfl ?_
  refine r_if_ne (tgt := 17) C d_H_needBill_4 (by decide) (fun q4 => ?_) (fun q4 => ?_)
  · exact r_vret C d_H_needBill_17 (Out.ret (by (repeat' split) <;> first | rfl | omega) rfl) (by decide) (fun _ => ⟨rfl, rfl, rfl⟩)
  · exact r_throw C tl_H_needBill_7 d_H_needBill_7 d_H_needBill_10 d_H_needBill_11 d_H_needBill_13 d_H_needBill_16 (by decide) (by decide) (Nat.le_of_ble_eq_true rfl) (Out.thr (by (repeat' split) <;> first | rfl | omega))

/-! Contracts: calls of the class that write little. -/
set_option maxHeartbeats 1000000 in
theorem c_O_addFlat {l : Launch} (hl : l.stackTraces = false) {w : XW} {h : AH} {a b c : Int} (hc : 0 ≤ h 2 0 1 ∧ h 2 0 1 < 6) : AM l y_O_addFlat (wsM y_O_addFlat b_O_addFlat 6 (some .int) []) false (rmV 0 0) w [vO 2 0, vI a, vI b, vI c] h (RetP (some (vI (h 2 0 1))) (fun h' => h' = hset (hset (hset (hset h 4 (h 2 0 1).toNat 0 a) 4 (h 2 0 1).toNat 1 b) 4 (h 2 0 1).toNat 2 c) 2 0 1 (h 2 0 1 + 1))) := by
  refine AM.of hl (by decide +kernel) (Nat.le_of_ble_eq_true rfl) fun x hx C _ => ?_
  refine r_aload_n (i0 := 0) C d_O_addFlat_0 rfl rfl ?_
  refine r_getI C fl_O_17 d_O_addFlat_1 rfl ?_
  refine r_istore C d_O_addFlat_4 (by decide) ?_
  refine r_aload_n (i0 := 0) C d_O_addFlat_6 rfl rfl ?_
  refine r_getO C fl_O_11 d_O_addFlat_7 rfl rfl (fun hi => hi) ?_
  refine r_iload C d_O_addFlat_10 rfl ?_
  refine r_aaF C d_O_addFlat_12 (by omega) ?_
  refine r_astore C d_O_addFlat_13 (by decide) ?_
  refine r_aload C d_O_addFlat_15 rfl ?_
  refine r_iload_n (i0 := 1) C d_O_addFlat_17 rfl rfl ?_
  refine r_putI C pl_O_22 d_O_addFlat_18 rfl ?_
  refine r_aload C d_O_addFlat_21 rfl ?_
  refine r_iload_n (i0 := 2) C d_O_addFlat_23 rfl rfl ?_
  refine r_putI C pl_O_25 d_O_addFlat_24 rfl ?_
  refine r_aload C d_O_addFlat_27 rfl ?_
  refine r_iload_n (i0 := 3) C d_O_addFlat_29 rfl rfl ?_
  refine r_putI C pl_O_28 d_O_addFlat_30 rfl ?_
  refine r_aload_n (i0 := 0) C d_O_addFlat_33 rfl rfl ?_
  refine r_dup C d_O_addFlat_34 rfl ?_
  refine r_getI C fl_O_17 d_O_addFlat_35 rfl ?_
  refine r_iconst C d_O_addFlat_38 (by decide) ?_
  refine r_iadd C d_O_addFlat_39 (by simp [hset]; omega) ?_
  refine r_putI C pl_O_17 d_O_addFlat_40 rfl ?_
  refine r_iload C d_O_addFlat_43 rfl ?_
  exact r_iret C d_O_addFlat_45 (fun _ => ⟨rfl, by simp [hset]⟩) (by decide) (fun q => nomatch q)
set_option maxHeartbeats 1000000 in
theorem c_A_addTenant {l : Launch} (hl : l.stackTraces = false) {w : XW} {h : AH} (ht : 0 ≤ h 23 0 4 ∧ h 23 0 4 ≤ 20) : AM l y_A_addTenant (wsM y_A_addTenant b_A_addTenant 2 (some .int) []) false (rmV 0 0) w [vO 23 0] h (RetP (some (vI (h 23 0 4))) (fun h' => h' = hset h 23 0 4 (h 23 0 4 + 1))) := by
  refine AM.of hl (by decide +kernel) (Nat.le_of_ble_eq_true rfl) fun x hx C _ => ?_
  refine r_aload_n (i0 := 0) C d_A_addTenant_0 rfl rfl ?_
  refine r_getI C fl_A_26 d_A_addTenant_1 rfl ?_
  refine r_istore_n (i0 := 1) C d_A_addTenant_4 rfl (by decide) ?_
  refine r_aload_n (i0 := 0) C d_A_addTenant_5 rfl rfl ?_
  refine r_dup C d_A_addTenant_6 rfl ?_
  refine r_getI C fl_A_26 d_A_addTenant_7 rfl ?_
  refine r_iconst C d_A_addTenant_10 (by decide) ?_
  refine r_iadd C d_A_addTenant_11 (by omega) ?_
  refine r_putI C pl_A_26 d_A_addTenant_12 rfl ?_
  refine r_iload_n (i0 := 1) C d_A_addTenant_15 rfl rfl ?_
  exact r_iret C d_A_addTenant_16 (fun _ => ⟨rfl, rfl⟩) (by decide) (fun q => nomatch q)
set_option maxHeartbeats 1000000 in
theorem c_U_addLayer {l : Launch} (hl : l.stackTraces = false) {w : XW} {h : AH} {a b : Int} (hn : 0 ≤ h 7 0 2 ∧ h 7 0 2 < 12) : AM l y_U_addLayer (wsM y_U_addLayer b_U_addLayer 3 none []) false (rmV 0 0) w [vO 7 0, vI a, vI b] h (RetP none (fun h' => h' = hset (hset (hset h 8 0 (h 7 0 2).toNat a) 9 0 (h 7 0 2).toNat b) 7 0 2 (h 7 0 2 + 1))) := by
  refine AM.of hl (by decide +kernel) (Nat.le_of_ble_eq_true rfl) fun x hx C _ => ?_
  refine r_aload_n (i0 := 0) C d_U_addLayer_0 rfl rfl ?_
  refine r_getO C fl_U_9 d_U_addLayer_1 rfl rfl (fun hi => hi) ?_
  refine r_aload_n (i0 := 0) C d_U_addLayer_4 rfl rfl ?_
  refine r_getI C fl_U_18 d_U_addLayer_5 rfl ?_
  refine r_iload_n (i0 := 1) C d_U_addLayer_8 rfl rfl ?_
  refine r_iastore (ln := 12) C d_U_addLayer_9 rfl (fun _ => rfl) rfl (by omega) ?_
  refine r_aload_n (i0 := 0) C d_U_addLayer_10 rfl rfl ?_
  refine r_getO C fl_U_15 d_U_addLayer_11 rfl rfl (fun hi => hi) ?_
  refine r_aload_n (i0 := 0) C d_U_addLayer_14 rfl rfl ?_
  refine r_getI C fl_U_18 d_U_addLayer_15 rfl ?_
  refine r_iload_n (i0 := 2) C d_U_addLayer_18 rfl rfl ?_
  refine r_iastore (ln := 12) C d_U_addLayer_19 rfl (fun _ => rfl) rfl (by simp [hset]; omega) ?_
  refine r_aload_n (i0 := 0) C d_U_addLayer_20 rfl rfl ?_
  refine r_dup C d_U_addLayer_21 rfl ?_
  refine r_getI C fl_U_18 d_U_addLayer_22 rfl ?_
  refine r_iconst C d_U_addLayer_25 (by decide) ?_
  refine r_iadd C d_U_addLayer_26 (by simp [hset]; omega) ?_
  refine r_putI C pl_U_18 d_U_addLayer_27 rfl ?_
  exact r_vret C d_U_addLayer_30 (⟨rfl, by simp [hset]⟩) (by decide) (fun q => nomatch q)
set_option maxHeartbeats 1000000 in
theorem c_A_owedInAll {l : Launch} (hl : l.stackTraces = false) {w : XW} {h : AH} {a : Int} (ho : ∀ i j : Nat, i < 3 → j < 21 → 0 ≤ h 25 i j ∧ h 25 i j ≤ 20000000) (ha : -1 ≤ a ∧ a < 20) : AM l y_A_owedInAll (wsM y_A_owedInAll b_A_owedInAll 3 (some .int) []) true (rmV 0 0) w [vO 23 0, vI a] h (Ret (some (vI (h 25 0 (a + 1).toNat + h 25 1 (a + 1).toNat + h 25 2 (a + 1).toNat))) h) := by
  refine AM.of hl (by decide +kernel) (Nat.le_of_ble_eq_true rfl) fun x hx C _ => ?_
  refine r_iload_n (i0 := 1) C d_A_owedInAll_0 rfl rfl ?_
  refine r_iconst C d_A_owedInAll_1 (by decide) ?_
  refine r_iadd C d_A_owedInAll_2 (by omega) ?_
  refine r_istore_n (i0 := 2) C d_A_owedInAll_3 rfl (by decide) ?_
  refine r_aload_n (i0 := 0) C d_A_owedInAll_4 rfl rfl ?_
  refine r_getO C fl_A_11 d_A_owedInAll_5 rfl rfl (fun hi => hi) ?_
  refine r_iconst C d_A_owedInAll_8 (by decide) ?_
  refine r_aaW C d_A_owedInAll_9 (by omega) ?_
  refine r_iload_n (i0 := 2) C d_A_owedInAll_10 rfl rfl ?_
  refine r_iaload (ln := 21) C d_A_owedInAll_11 rfl (fun _ => rfl) rfl (by omega) ?_
  refine r_aload_n (i0 := 0) C d_A_owedInAll_12 rfl rfl ?_
  refine r_getO C fl_A_11 d_A_owedInAll_13 rfl rfl (fun hi => hi) ?_
  refine r_iconst C d_A_owedInAll_16 (by decide) ?_
  refine r_aaW C d_A_owedInAll_17 (by omega) ?_
  refine r_iload_n (i0 := 2) C d_A_owedInAll_18 rfl rfl ?_
  refine r_iaload (ln := 21) C d_A_owedInAll_19 rfl (fun _ => rfl) rfl (by omega) ?_
  refine r_iadd C d_A_owedInAll_20 (by have o0 := ho 0 (a + 1).toNat (by omega) (by omega); have o1 := ho 1 (a + 1).toNat (by omega) (by omega); have o2 := ho 2 (a + 1).toNat (by omega) (by omega); simp only [Int.toNat_zero, Int.toNat_one, show (2 : Int).toNat = 2 from rfl]; omega) ?_
  refine r_aload_n (i0 := 0) C d_A_owedInAll_21 rfl rfl ?_
  refine r_getO C fl_A_11 d_A_owedInAll_22 rfl rfl (fun hi => hi) ?_
  refine r_iconst C d_A_owedInAll_25 (by decide) ?_
  refine r_aaW C d_A_owedInAll_26 (by omega) ?_
  refine r_iload_n (i0 := 2) C d_A_owedInAll_27 rfl rfl ?_
  refine r_iaload (ln := 21) C d_A_owedInAll_28 rfl (fun _ => rfl) rfl (by omega) ?_
  refine r_iadd C d_A_owedInAll_29 (by have o0 := ho 0 (a + 1).toNat (by omega) (by omega); have o1 := ho 1 (a + 1).toNat (by omega) (by omega); have o2 := ho 2 (a + 1).toNat (by omega) (by omega); simp only [Int.toNat_zero, Int.toNat_one, show (2 : Int).toNat = 2 from rfl]; omega) ?_
  exact r_iret C d_A_owedInAll_30 (fun _ => ⟨rfl, rfl⟩) (by decide) (fun _ => ⟨rfl, rfl, rfl⟩)
set_option maxHeartbeats 1000000 in
theorem c_H_flat {l : Launch} (hl : l.stackTraces = false) {w : XW} {h : AH} {a b c : Int} (hc : 0 ≤ h 2 0 1 ∧ h 2 0 1 ≤ 6) : AM l y_H_flat (wsM y_H_flat b_H_flat 4 (some .int) []) false (rmV 3 1) w [vO 1 0, vI a, vI b, vI c] h (Out (if a < 1 ∨ 50 < a ∨ b < 0 ∨ 50 < b ∨ c < 1 ∨ 2 < c then some 0 else if h 2 0 1 = 6 then some 3 else none) (some (vI (h 2 0 1))) h (fun h' => h' = hset (hset (hset (hset (hset h 1 0 12 0) 4 (h 2 0 1).toNat 0 a) 4 (h 2 0 1).toNat 1 b) 4 (h 2 0 1).toNat 2 c) 2 0 1 (h 2 0 1 + 1))) := by
  refine AM.of hl (by decide +kernel) (Nat.le_of_ble_eq_true rfl) fun x hx C _ => ?_
  refine r_iload_n (i0 := 1) C d_H_flat_0 rfl rfl ?_
  refine r_iconst C d_H_flat_1 (by decide) ?_
  refine r_bipush C d_H_flat_2 (by decide) (by decide) ?_
  refine r_callSp C cl_H_75 st_H_isOutside (c_H_isOutside hx) rfl rfl d_H_flat_4 (by decide) (Nat.le_of_ble_eq_true rfl) ?_
  refine r_if_ne (tgt := 29) C d_H_flat_7 (by decide) (fun q7 => ?_) (fun q7 => ?_)
  · exact r_throw C tl_H_flat_29 d_H_flat_29 d_H_flat_32 d_H_flat_33 d_H_flat_35 d_H_flat_38 (by decide) (by decide) (Nat.le_of_ble_eq_true rfl) (Out.thr (by (repeat' split) <;> first | rfl | omega))
  · refine r_iload_n (i0 := 2) C d_H_flat_10 rfl rfl ?_
    refine r_iconst C d_H_flat_11 (by decide) ?_
    refine r_bipush C d_H_flat_12 (by decide) (by decide) ?_
    refine r_callSp C cl_H_75 st_H_isOutside (c_H_isOutside hx) rfl rfl d_H_flat_14 (by decide) (Nat.le_of_ble_eq_true rfl) ?_
    refine r_if_ne (tgt := 29) C d_H_flat_17 (by decide) (fun q17 => ?_) (fun q17 => ?_)
    · exact r_throw C tl_H_flat_29 d_H_flat_29 d_H_flat_32 d_H_flat_33 d_H_flat_35 d_H_flat_38 (by decide) (by decide) (Nat.le_of_ble_eq_true rfl) (Out.thr (by (repeat' split) <;> first | rfl | omega))
    · refine r_iload_n (i0 := 3) C d_H_flat_20 rfl rfl ?_
      refine r_iconst C d_H_flat_21 (by decide) ?_
      refine r_iconst C d_H_flat_22 (by decide) ?_
      refine r_callSp C cl_H_75 st_H_isOutside (c_H_isOutside hx) rfl rfl d_H_flat_23 (by decide) (Nat.le_of_ble_eq_true rfl) ?_
      refine r_if_eq (tgt := 39) C d_H_flat_26 (by decide) (fun q26 => ?_) (fun q26 => ?_)
      · refine r_aload_n (i0 := 0) C d_H_flat_39 rfl rfl ?_
        refine r_getO C fl_H_12 d_H_flat_40 rfl rfl (fun hi => hi) ?_
        refine r_getI C fl_H_86 d_H_flat_43 rfl ?_
        refine r_bipush C d_H_flat_46 (by decide) (by decide) ?_
        refine r_icmp_lt (tgt := 61) C d_H_flat_48 (by decide) (fun q48 => ?_) (fun q48 => ?_)
        · refine r_aload_n (i0 := 0) C d_H_flat_61 rfl rfl ?_
          refine r_iconst C d_H_flat_62 (by decide) ?_
          refine r_putZ C pl_H_71 d_H_flat_63 rfl (by omega) ?_
          refine r_aload_n (i0 := 0) C d_H_flat_66 rfl rfl ?_
          refine r_getO C fl_H_12 d_H_flat_67 rfl rfl (fun hi => hi) ?_
          refine r_iload_n (i0 := 1) C d_H_flat_70 rfl rfl ?_
          refine r_iload_n (i0 := 2) C d_H_flat_71 rfl rfl ?_
          refine r_iload_n (i0 := 3) C d_H_flat_72 rfl rfl ?_
          refine r_callVw C cl_H_94 im_O_addFlat rfl rfl (c_O_addFlat hx (by simp [hset]; omega)) rfl rfl d_H_flat_73 (by decide) (by decide) (Nat.le_of_ble_eq_true rfl) (fun h73 p73 => ?_)
          subst p73
          exact r_iret C d_H_flat_76 (fun _ => Out.ret (by (repeat' split) <;> first | rfl | omega) (by simp [hset])) (by decide) (fun q => nomatch q)
        · exact r_throw C tl_H_flat_51 d_H_flat_51 d_H_flat_54 d_H_flat_55 d_H_flat_57 d_H_flat_60 (by decide) (by decide) (Nat.le_of_ble_eq_true rfl) (Out.thr (by (repeat' split) <;> first | rfl | omega))
      · exact r_throw C tl_H_flat_29 d_H_flat_29 d_H_flat_32 d_H_flat_33 d_H_flat_35 d_H_flat_38 (by decide) (by decide) (Nat.le_of_ble_eq_true rfl) (Out.thr (by (repeat' split) <;> first | rfl | omega))
set_option maxHeartbeats 1000000 in
theorem c_H_reading {l : Launch} (hl : l.stackTraces = false) {w : XW} {h : AH} {a b c : Int} (hc : 0 ≤ h 2 0 1 ∧ h 2 0 1 ≤ 6) : AM l y_H_reading (wsM y_H_reading b_H_reading 4 none []) false (rmV 3 1) w [vO 1 0, vI a, vI b, vI c] h (Out (if a < 0 ∨ h 2 0 1 ≤ a then some 1 else if b < 0 ∨ 12 < b then some 1 else if c < -1 ∨ 99 < c then some 0 else none) (none) h (fun h' => h' = hset (hset h 1 0 12 0) 5 a.toNat b.toNat c)) := by
  refine AM.of hl (by decide +kernel) (Nat.le_of_ble_eq_true rfl) fun x hx C _ => ?_
  refine r_aload_n (i0 := 0) C d_H_reading_0 rfl rfl ?_
  refine r_iload_n (i0 := 1) C d_H_reading_1 rfl rfl ?_
  refine r_callVt C cl_H_98 im_H_needFlat rfl rfl (c_H_needFlat hx hc) rfl rfl d_H_reading_2 (by decide) (Nat.le_of_ble_eq_true rfl) (by decide) (fun k hk => Out.thr (by by_cases z : a < 0 ∨ h 2 0 1 ≤ a <;> simp [z] at hk ⊢; exact hk)) (fun e2 => ?_)
  have en : ¬ (a < 0 ∨ h 2 0 1 ≤ a) := fun z => by rw [if_pos z] at e2; cases e2
  refine r_iload_n (i0 := 2) C d_H_reading_5 rfl rfl ?_
  refine r_iconst C d_H_reading_6 (by decide) ?_
  refine r_bipush C d_H_reading_7 (by decide) (by decide) ?_
  refine r_callSp C cl_H_75 st_H_isOutside (c_H_isOutside hx) rfl rfl d_H_reading_9 (by decide) (Nat.le_of_ble_eq_true rfl) ?_
  refine r_if_eq (tgt := 25) C d_H_reading_12 (by decide) (fun q12 => ?_) (fun q12 => ?_)
  · refine r_iload_n (i0 := 3) C d_H_reading_25 rfl rfl ?_
    refine r_iconst C d_H_reading_26 (by decide) ?_
    refine r_bipush C d_H_reading_27 (by decide) (by decide) ?_
    refine r_callSp C cl_H_75 st_H_isOutside (c_H_isOutside hx) rfl rfl d_H_reading_29 (by decide) (Nat.le_of_ble_eq_true rfl) ?_
    refine r_if_eq (tgt := 45) C d_H_reading_32 (by decide) (fun q32 => ?_) (fun q32 => ?_)
    · refine r_aload_n (i0 := 0) C d_H_reading_45 rfl rfl ?_
      refine r_iconst C d_H_reading_46 (by decide) ?_
      refine r_putZ C pl_H_71 d_H_reading_47 rfl (by omega) ?_
      refine r_aload_n (i0 := 0) C d_H_reading_50 rfl rfl ?_
      refine r_getO C fl_H_12 d_H_reading_51 rfl rfl (fun hi => hi) ?_
      refine r_getO C fl_H_109 d_H_reading_54 rfl rfl (fun hi => hi) ?_
      refine r_iload_n (i0 := 1) C d_H_reading_57 rfl rfl ?_
      refine r_aaF C d_H_reading_58 (by omega) ?_
      refine r_getO C fl_H_113 d_H_reading_59 rfl rfl (fun hi => hi) ?_
      refine r_iload_n (i0 := 2) C d_H_reading_62 rfl rfl ?_
      refine r_iload_n (i0 := 3) C d_H_reading_63 rfl rfl ?_
      refine r_iastore (ln := 13) C d_H_reading_64 rfl (fun _ => rfl) rfl (by omega) ?_
      exact r_vret C d_H_reading_65 (Out.ret (by (repeat' split) <;> first | rfl | omega) rfl) (by decide) (fun q => nomatch q)
    · exact r_throw C tl_H_reading_35 d_H_reading_35 d_H_reading_38 d_H_reading_39 d_H_reading_41 d_H_reading_44 (by decide) (by decide) (Nat.le_of_ble_eq_true rfl) (Out.thr (by (repeat' split) <;> first | rfl | omega))
  · exact r_throw C tl_H_reading_15 d_H_reading_15 d_H_reading_18 d_H_reading_19 d_H_reading_21 d_H_reading_24 (by decide) (by decide) (Nat.le_of_ble_eq_true rfl) (Out.thr (by (repeat' split) <;> first | rfl | omega))
set_option maxHeartbeats 1000000 in
theorem c_H_enter {l : Launch} (hl : l.stackTraces = false) {w : XW} {h : AH} {a b : Int} (hc : 0 ≤ h 2 0 1 ∧ h 2 0 1 ≤ 6) (ht : 0 ≤ h 23 0 4 ∧ h 23 0 4 ≤ 20) : AM l y_H_enter (wsM y_H_enter b_H_enter 4 (some .int) []) false (rmV 3 1) w [vO 1 0, vI a, vI b] h (Out (if a < 0 ∨ h 2 0 1 ≤ a then some 1 else if b < 0 ∨ 11 < b then some 1 else if h 6 a.toNat b.toNat = -2 then (if h 23 0 4 = 20 then some 3 else none) else some 2) (some (vI (h 23 0 4))) h (fun h' => h' = hset (hset (hset h 1 0 12 0) 23 0 4 (h 23 0 4 + 1)) 6 a.toNat b.toNat (h 23 0 4))) := by
  refine AM.of hl (by decide +kernel) (Nat.le_of_ble_eq_true rfl) fun x hx C _ => ?_
  refine r_aload_n (i0 := 0) C d_H_enter_0 rfl rfl ?_
  refine r_iload_n (i0 := 1) C d_H_enter_1 rfl rfl ?_
  refine r_iload_n (i0 := 2) C d_H_enter_2 rfl rfl ?_
  refine r_callVt C cl_H_118 im_H_needRoomForChange rfl rfl (c_H_needRoomForChange hx hc) rfl rfl d_H_enter_3 (by decide) (Nat.le_of_ble_eq_true rfl) (by decide) (fun k hk => Out.thr (by by_cases z : a < 0 ∨ h 2 0 1 ≤ a <;> by_cases z1 : b < 0 ∨ 11 < b <;> by_cases z2 : h 6 a.toNat b.toNat = -2 <;> simp [z, z1, z2] at hk ⊢ <;> exact hk)) (fun e3 => ?_)
  have en : ¬ (a < 0 ∨ h 2 0 1 ≤ a) := fun z => by rw [if_pos z] at e3; cases e3
  have en1 : ¬ (b < 0 ∨ 11 < b) := fun z => by rw [if_neg en, if_pos z] at e3; cases e3
  have en2 : h 6 a.toNat b.toNat = -2 := Classical.byContradiction fun z => by rw [if_neg en, if_neg en1, if_neg z] at e3; cases e3
  refine r_aload_n (i0 := 0) C d_H_enter_6 rfl rfl ?_
  refine r_getO C fl_H_47 d_H_enter_7 rfl rfl (fun hi => hi) ?_
  refine r_getI C fl_H_122 d_H_enter_10 rfl ?_
  refine r_bipush C d_H_enter_13 (by decide) (by decide) ?_
  refine r_icmp_lt (tgt := 28) C d_H_enter_15 (by decide) (fun q15 => ?_) (fun q15 => ?_)
  · refine r_aload_n (i0 := 0) C d_H_enter_28 rfl rfl ?_
    refine r_iconst C d_H_enter_29 (by decide) ?_
    refine r_putZ C pl_H_71 d_H_enter_30 rfl (by omega) ?_
    refine r_aload_n (i0 := 0) C d_H_enter_33 rfl rfl ?_
    refine r_getO C fl_H_47 d_H_enter_34 rfl rfl (fun hi => hi) ?_
    refine r_callVw C cl_H_127 im_A_addTenant rfl rfl (c_A_addTenant hx (by simp [hset]; omega)) rfl rfl d_H_enter_37 (by decide) (by decide) (Nat.le_of_ble_eq_true rfl) (fun h37 p37 => ?_)
    subst p37
    refine r_istore_n (i0 := 3) C d_H_enter_40 rfl (by decide) ?_
    refine r_aload_n (i0 := 0) C d_H_enter_41 rfl rfl ?_
    refine r_getO C fl_H_12 d_H_enter_42 rfl rfl (fun hi => hi) ?_
    refine r_getO C fl_H_109 d_H_enter_45 rfl rfl (fun hi => hi) ?_
    refine r_iload_n (i0 := 1) C d_H_enter_48 rfl rfl ?_
    refine r_aaF C d_H_enter_49 (by omega) ?_
    refine r_getO C fl_H_131 d_H_enter_50 rfl rfl (fun hi => hi) ?_
    refine r_iload_n (i0 := 2) C d_H_enter_53 rfl rfl ?_
    refine r_iload_n (i0 := 3) C d_H_enter_54 rfl rfl ?_
    refine r_iastore (ln := 12) C d_H_enter_55 rfl (fun _ => rfl) rfl (by omega) ?_
    refine r_iload_n (i0 := 3) C d_H_enter_56 rfl rfl ?_
    exact r_iret C d_H_enter_57 (fun _ => Out.ret (by (repeat' split) <;> first | rfl | omega) (by simp [hset])) (by decide) (fun q => nomatch q)
  · exact r_throw C tl_H_enter_18 d_H_enter_18 d_H_enter_21 d_H_enter_22 d_H_enter_24 d_H_enter_27 (by decide) (by decide) (Nat.le_of_ble_eq_true rfl) (Out.thr (by (repeat' split) <;> first | rfl | omega))
set_option maxHeartbeats 1000000 in
theorem c_H_leave {l : Launch} (hl : l.stackTraces = false) {w : XW} {h : AH} {a b : Int} (hc : 0 ≤ h 2 0 1 ∧ h 2 0 1 ≤ 6) : AM l y_H_leave (wsM y_H_leave b_H_leave 3 none []) false (rmV 3 1) w [vO 1 0, vI a, vI b] h (Out (if a < 0 ∨ h 2 0 1 ≤ a then some 1 else if b < 0 ∨ 11 < b then some 1 else if h 6 a.toNat b.toNat = -2 then none else some 2) (none) h (fun h' => h' = hset (hset h 1 0 12 0) 6 a.toNat b.toNat (-1))) := by
  refine AM.of hl (by decide +kernel) (Nat.le_of_ble_eq_true rfl) fun x hx C _ => ?_
  refine r_aload_n (i0 := 0) C d_H_leave_0 rfl rfl ?_
  refine r_iload_n (i0 := 1) C d_H_leave_1 rfl rfl ?_
  refine r_iload_n (i0 := 2) C d_H_leave_2 rfl rfl ?_
  refine r_callVt C cl_H_118 im_H_needRoomForChange rfl rfl (c_H_needRoomForChange hx hc) rfl rfl d_H_leave_3 (by decide) (Nat.le_of_ble_eq_true rfl) (by decide) (fun k hk => Out.thr (by by_cases z : a < 0 ∨ h 2 0 1 ≤ a <;> by_cases z1 : b < 0 ∨ 11 < b <;> by_cases z2 : h 6 a.toNat b.toNat = -2 <;> simp [z, z1, z2] at hk ⊢ <;> exact hk)) (fun e3 => ?_)
  have en : ¬ (a < 0 ∨ h 2 0 1 ≤ a) := fun z => by rw [if_pos z] at e3; cases e3
  have en1 : ¬ (b < 0 ∨ 11 < b) := fun z => by rw [if_neg en, if_pos z] at e3; cases e3
  have en2 : h 6 a.toNat b.toNat = -2 := Classical.byContradiction fun z => by rw [if_neg en, if_neg en1, if_neg z] at e3; cases e3
  refine r_aload_n (i0 := 0) C d_H_leave_6 rfl rfl ?_
  refine r_iconst C d_H_leave_7 (by decide) ?_
  refine r_putZ C pl_H_71 d_H_leave_8 rfl (by omega) ?_
  refine r_aload_n (i0 := 0) C d_H_leave_11 rfl rfl ?_
  refine r_getO C fl_H_12 d_H_leave_12 rfl rfl (fun hi => hi) ?_
  refine r_getO C fl_H_109 d_H_leave_15 rfl rfl (fun hi => hi) ?_
  refine r_iload_n (i0 := 1) C d_H_leave_18 rfl rfl ?_
  refine r_aaF C d_H_leave_19 (by omega) ?_
  refine r_getO C fl_H_131 d_H_leave_20 rfl rfl (fun hi => hi) ?_
  refine r_iload_n (i0 := 2) C d_H_leave_23 rfl rfl ?_
  refine r_iconst C d_H_leave_24 (by decide) ?_
  refine r_iastore (ln := 12) C d_H_leave_25 rfl (fun _ => rfl) rfl (by omega) ?_
  exact r_vret C d_H_leave_26 (Out.ret (by (repeat' split) <;> first | rfl | omega) rfl) (by decide) (fun q => nomatch q)
set_option maxHeartbeats 1000000 in
theorem c_H_deliver {l : Launch} (hl : l.stackTraces = false) {w : XW} {h : AH} {a b : Int} (hn : 0 ≤ h 7 0 2 ∧ h 7 0 2 ≤ 12) : AM l y_H_deliver (wsM y_H_deliver b_H_deliver 3 none []) false (rmV 3 1) w [vO 1 0, vI a, vI b] h (Out (if a < 1 ∨ 1000 < a ∨ b < 0 ∨ 20000 < b then some 0 else if h 7 0 2 = 12 then some 3 else none) (none) h (fun h' => h' = hset (hset (hset (hset h 1 0 12 0) 8 0 (h 7 0 2).toNat a) 9 0 (h 7 0 2).toNat b) 7 0 2 (h 7 0 2 + 1))) := by
  refine AM.of hl (by decide +kernel) (Nat.le_of_ble_eq_true rfl) fun x hx C _ => ?_
  refine r_iload_n (i0 := 1) C d_H_deliver_0 rfl rfl ?_
  refine r_iconst C d_H_deliver_1 (by decide) ?_
  refine r_sipush C d_H_deliver_2 (by decide) (by decide) ?_
  refine r_callSp C cl_H_75 st_H_isOutside (c_H_isOutside hx) rfl rfl d_H_deliver_5 (by decide) (Nat.le_of_ble_eq_true rfl) ?_
  refine r_if_ne (tgt := 22) C d_H_deliver_8 (by decide) (fun q8 => ?_) (fun q8 => ?_)
  · exact r_throw C tl_H_deliver_22 d_H_deliver_22 d_H_deliver_25 d_H_deliver_26 d_H_deliver_28 d_H_deliver_31 (by decide) (by decide) (Nat.le_of_ble_eq_true rfl) (Out.thr (by (repeat' split) <;> first | rfl | omega))
  · refine r_iload_n (i0 := 2) C d_H_deliver_11 rfl rfl ?_
    refine r_iconst C d_H_deliver_12 (by decide) ?_
    refine r_sipush C d_H_deliver_13 (by decide) (by decide) ?_
    refine r_callSp C cl_H_75 st_H_isOutside (c_H_isOutside hx) rfl rfl d_H_deliver_16 (by decide) (Nat.le_of_ble_eq_true rfl) ?_
    refine r_if_eq (tgt := 32) C d_H_deliver_19 (by decide) (fun q19 => ?_) (fun q19 => ?_)
    · refine r_aload_n (i0 := 0) C d_H_deliver_32 rfl rfl ?_
      refine r_getO C fl_H_19 d_H_deliver_33 rfl rfl (fun hi => hi) ?_
      refine r_getI C fl_H_136 d_H_deliver_36 rfl ?_
      refine r_bipush C d_H_deliver_39 (by decide) (by decide) ?_
      refine r_icmp_lt (tgt := 54) C d_H_deliver_41 (by decide) (fun q41 => ?_) (fun q41 => ?_)
      · refine r_aload_n (i0 := 0) C d_H_deliver_54 rfl rfl ?_
        refine r_iconst C d_H_deliver_55 (by decide) ?_
        refine r_putZ C pl_H_71 d_H_deliver_56 rfl (by omega) ?_
        refine r_aload_n (i0 := 0) C d_H_deliver_59 rfl rfl ?_
        refine r_getO C fl_H_19 d_H_deliver_60 rfl rfl (fun hi => hi) ?_
        refine r_iload_n (i0 := 1) C d_H_deliver_63 rfl rfl ?_
        refine r_iload_n (i0 := 2) C d_H_deliver_64 rfl rfl ?_
        refine r_callVw C cl_H_141 im_U_addLayer rfl rfl (c_U_addLayer hx (by simp [hset]; omega)) rfl rfl d_H_deliver_65 (by decide) (by decide) (Nat.le_of_ble_eq_true rfl) (fun h65 p65 => ?_)
        subst p65
        exact r_vret C d_H_deliver_68 (Out.ret (by (repeat' split) <;> first | rfl | omega) (by simp [hset])) (by decide) (fun q => nomatch q)
      · exact r_throw C tl_H_deliver_44 d_H_deliver_44 d_H_deliver_47 d_H_deliver_48 d_H_deliver_50 d_H_deliver_53 (by decide) (by decide) (Nat.le_of_ble_eq_true rfl) (Out.thr (by (repeat' split) <;> first | rfl | omega))
    · exact r_throw C tl_H_deliver_22 d_H_deliver_22 d_H_deliver_25 d_H_deliver_26 d_H_deliver_28 d_H_deliver_31 (by decide) (by decide) (Nat.le_of_ble_eq_true rfl) (Out.thr (by (repeat' split) <;> first | rfl | omega))
set_option maxHeartbeats 1000000 in
theorem c_H_endStock {l : Launch} (hl : l.stackTraces = false) {w : XW} {h : AH} {a : Int} (hn : 0 ≤ h 7 0 2 ∧ h 7 0 2 ≤ 12) (hu : ∀ k : Nat, (k : Int) < h 7 0 2 → 0 ≤ h 8 0 k ∧ h 8 0 k ≤ 1000) : AM l y_H_endStock (wsM y_H_endStock b_H_endStock 2 none []) false (rmV 3 1) w [vO 1 0, vI a] h (Out (if a < -1 ∨ sumF (h 7 0 2).toNat (h 8 0) < a then some 0 else none) (none) h (fun h' => h' = hset (hset h 1 0 12 0) 7 0 3 a)) := by
  refine AM.of hl (by decide +kernel) (Nat.le_of_ble_eq_true rfl) fun x hx C _ => ?_
  refine r_iload_n (i0 := 1) C d_H_endStock_0 rfl rfl ?_
  refine r_iconst C d_H_endStock_1 (by decide) ?_
  refine r_aload_n (i0 := 0) C d_H_endStock_2 rfl rfl ?_
  refine r_getO C fl_H_19 d_H_endStock_3 rfl rfl (fun hi => hi) ?_
  refine r_callVp C cl_H_144 im_U_allUnits rfl rfl (c_U_allUnits hx hn hu) rfl rfl d_H_endStock_6 (by decide) (Nat.le_of_ble_eq_true rfl) ?_
  refine r_callSp C cl_H_75 st_H_isOutside (c_H_isOutside hx) rfl rfl d_H_endStock_9 (by decide) (Nat.le_of_ble_eq_true rfl) ?_
  refine r_if_eq (tgt := 25) C d_H_endStock_12 (by decide) (fun q12 => ?_) (fun q12 => ?_)
  · refine r_aload_n (i0 := 0) C d_H_endStock_25 rfl rfl ?_
    refine r_iconst C d_H_endStock_26 (by decide) ?_
    refine r_putZ C pl_H_71 d_H_endStock_27 rfl (by omega) ?_
    refine r_aload_n (i0 := 0) C d_H_endStock_30 rfl rfl ?_
    refine r_getO C fl_H_19 d_H_endStock_31 rfl rfl (fun hi => hi) ?_
    refine r_iload_n (i0 := 1) C d_H_endStock_34 rfl rfl ?_
    refine r_putI C pl_H_149 d_H_endStock_35 rfl ?_
    exact r_vret C d_H_endStock_38 (Out.ret (by (repeat' split) <;> first | rfl | omega) rfl) (by decide) (fun q => nomatch q)
  · exact r_throw C tl_H_endStock_15 d_H_endStock_15 d_H_endStock_18 d_H_endStock_19 d_H_endStock_21 d_H_endStock_24 (by decide) (by decide) (Nat.le_of_ble_eq_true rfl) (Out.thr (by (repeat' split) <;> first | rfl | omega))
set_option maxHeartbeats 1000000 in
theorem c_H_sideCosts {l : Launch} (hl : l.stackTraces = false) {w : XW} {h : AH} {a : Int} : AM l y_H_sideCosts (wsM y_H_sideCosts b_H_sideCosts 2 none []) false (rmV 3 1) w [vO 1 0, vI a] h (Out (if a < 0 ∨ 20000 < a then some 0 else none) (none) h (fun h' => h' = hset (hset h 1 0 12 0) 1 0 8 a)) := by
  refine AM.of hl (by decide +kernel) (Nat.le_of_ble_eq_true rfl) fun x hx C _ => ?_
  refine r_iload_n (i0 := 1) C d_H_sideCosts_0 rfl rfl ?_
  refine r_iconst C d_H_sideCosts_1 (by decide) ?_
  refine r_sipush C d_H_sideCosts_2 (by decide) (by decide) ?_
  refine r_callSp C cl_H_75 st_H_isOutside (c_H_isOutside hx) rfl rfl d_H_sideCosts_5 (by decide) (Nat.le_of_ble_eq_true rfl) ?_
  refine r_if_eq (tgt := 21) C d_H_sideCosts_8 (by decide) (fun q8 => ?_) (fun q8 => ?_)
  · refine r_aload_n (i0 := 0) C d_H_sideCosts_21 rfl rfl ?_
    refine r_iconst C d_H_sideCosts_22 (by decide) ?_
    refine r_putZ C pl_H_71 d_H_sideCosts_23 rfl (by omega) ?_
    refine r_aload_n (i0 := 0) C d_H_sideCosts_26 rfl rfl ?_
    refine r_iload_n (i0 := 1) C d_H_sideCosts_27 rfl rfl ?_
    refine r_putI C pl_H_58 d_H_sideCosts_28 rfl ?_
    exact r_vret C d_H_sideCosts_31 (Out.ret (by (repeat' split) <;> first | rfl | omega) rfl) (by decide) (fun q => nomatch q)
  · exact r_throw C tl_H_sideCosts_11 d_H_sideCosts_11 d_H_sideCosts_14 d_H_sideCosts_15 d_H_sideCosts_17 d_H_sideCosts_20 (by decide) (by decide) (Nat.le_of_ble_eq_true rfl) (Out.thr (by (repeat' split) <;> first | rfl | omega))
set_option maxHeartbeats 1000000 in
theorem c_H_water {l : Launch} (hl : l.stackTraces = false) {w : XW} {h : AH} {a b : Int} : AM l y_H_water (wsM y_H_water b_H_water 3 none []) false (rmV 3 1) w [vO 1 0, vI a, vI b] h (Out (if a < -1 ∨ 10000000 < a ∨ b < 0 ∨ 100 < b then some 0 else none) (none) h (fun h' => h' = hset (hset (hset h 1 0 12 0) 1 0 9 a) 1 0 10 b)) := by
  refine AM.of hl (by decide +kernel) (Nat.le_of_ble_eq_true rfl) fun x hx C _ => ?_
  refine r_iload_n (i0 := 1) C d_H_water_0 rfl rfl ?_
  refine r_iconst C d_H_water_1 (by decide) ?_
  refine r_ldc C d_H_water_2 k_H_154 (by decide) ?_
  refine r_callSp C cl_H_75 st_H_isOutside (c_H_isOutside hx) rfl rfl d_H_water_4 (by decide) (Nat.le_of_ble_eq_true rfl) ?_
  refine r_if_ne (tgt := 20) C d_H_water_7 (by decide) (fun q7 => ?_) (fun q7 => ?_)
  · exact r_throw C tl_H_water_20 d_H_water_20 d_H_water_23 d_H_water_24 d_H_water_26 d_H_water_29 (by decide) (by decide) (Nat.le_of_ble_eq_true rfl) (Out.thr (by (repeat' split) <;> first | rfl | omega))
  · refine r_iload_n (i0 := 2) C d_H_water_10 rfl rfl ?_
    refine r_iconst C d_H_water_11 (by decide) ?_
    refine r_bipush C d_H_water_12 (by decide) (by decide) ?_
    refine r_callSp C cl_H_75 st_H_isOutside (c_H_isOutside hx) rfl rfl d_H_water_14 (by decide) (Nat.le_of_ble_eq_true rfl) ?_
    refine r_if_eq (tgt := 30) C d_H_water_17 (by decide) (fun q17 => ?_) (fun q17 => ?_)
    · refine r_aload_n (i0 := 0) C d_H_water_30 rfl rfl ?_
      refine r_iconst C d_H_water_31 (by decide) ?_
      refine r_putZ C pl_H_71 d_H_water_32 rfl (by omega) ?_
      refine r_aload_n (i0 := 0) C d_H_water_35 rfl rfl ?_
      refine r_iload_n (i0 := 1) C d_H_water_36 rfl rfl ?_
      refine r_putI C pl_H_62 d_H_water_37 rfl ?_
      refine r_aload_n (i0 := 0) C d_H_water_40 rfl rfl ?_
      refine r_iload_n (i0 := 2) C d_H_water_41 rfl rfl ?_
      refine r_putI C pl_H_65 d_H_water_42 rfl ?_
      exact r_vret C d_H_water_45 (Out.ret (by (repeat' split) <;> first | rfl | omega) rfl) (by decide) (fun q => nomatch q)
    · exact r_throw C tl_H_water_20 d_H_water_20 d_H_water_23 d_H_water_24 d_H_water_26 d_H_water_29 (by decide) (by decide) (Nat.le_of_ble_eq_true rfl) (Out.thr (by (repeat' split) <;> first | rfl | omega))
set_option maxHeartbeats 1000000 in
theorem c_H_permille {l : Launch} (hl : l.stackTraces = false) {w : XW} {h : AH} {a : Int} : AM l y_H_permille (wsM y_H_permille b_H_permille 2 none []) false (rmV 3 1) w [vO 1 0, vI a] h (Out (if a < 300 ∨ 700 < a then some 0 else none) (none) h (fun h' => h' = hset (hset h 1 0 12 0) 1 0 11 a)) := by
  refine AM.of hl (by decide +kernel) (Nat.le_of_ble_eq_true rfl) fun x hx C _ => ?_
  refine r_iload_n (i0 := 1) C d_H_permille_0 rfl rfl ?_
  refine r_sipush C d_H_permille_1 (by decide) (by decide) ?_
  refine r_sipush C d_H_permille_4 (by decide) (by decide) ?_
  refine r_callSp C cl_H_75 st_H_isOutside (c_H_isOutside hx) rfl rfl d_H_permille_7 (by decide) (Nat.le_of_ble_eq_true rfl) ?_
  refine r_if_eq (tgt := 23) C d_H_permille_10 (by decide) (fun q10 => ?_) (fun q10 => ?_)
  · refine r_aload_n (i0 := 0) C d_H_permille_23 rfl rfl ?_
    refine r_iconst C d_H_permille_24 (by decide) ?_
    refine r_putZ C pl_H_71 d_H_permille_25 rfl (by omega) ?_
    refine r_aload_n (i0 := 0) C d_H_permille_28 rfl rfl ?_
    refine r_iload_n (i0 := 1) C d_H_permille_29 rfl rfl ?_
    refine r_putI C pl_H_68 d_H_permille_30 rfl ?_
    exact r_vret C d_H_permille_33 (Out.ret (by (repeat' split) <;> first | rfl | omega) rfl) (by decide) (fun q => nomatch q)
  · exact r_throw C tl_H_permille_13 d_H_permille_13 d_H_permille_16 d_H_permille_17 d_H_permille_19 d_H_permille_22 (by decide) (by decide) (Nat.le_of_ble_eq_true rfl) (Out.thr (by (repeat' split) <;> first | rfl | omega))
set_option maxHeartbeats 1000000 in
theorem c_H_degrees {l : Launch} (hl : l.stackTraces = false) {w : XW} {h : AH} {a b : Int} : AM l y_H_degrees (wsM y_H_degrees b_H_degrees 3 none []) false (rmV 3 1) w [vO 1 0, vI a, vI b] h (Out (if a < 0 ∨ 11 < a then some 1 else if b < 0 ∨ 100 < b then some 0 else none) (none) h (fun h' => h' = hset (hset h 1 0 12 0) 29 0 a.toNat b)) := by
  refine AM.of hl (by decide +kernel) (Nat.le_of_ble_eq_true rfl) fun x hx C _ => ?_
  refine r_iload_n (i0 := 1) C d_H_degrees_0 rfl rfl ?_
  refine r_iconst C d_H_degrees_1 (by decide) ?_
  refine r_bipush C d_H_degrees_2 (by decide) (by decide) ?_
  refine r_callSp C cl_H_75 st_H_isOutside (c_H_isOutside hx) rfl rfl d_H_degrees_4 (by decide) (Nat.le_of_ble_eq_true rfl) ?_
  refine r_if_eq (tgt := 20) C d_H_degrees_7 (by decide) (fun q7 => ?_) (fun q7 => ?_)
  · refine r_iload_n (i0 := 2) C d_H_degrees_20 rfl rfl ?_
    refine r_iconst C d_H_degrees_21 (by decide) ?_
    refine r_bipush C d_H_degrees_22 (by decide) (by decide) ?_
    refine r_callSp C cl_H_75 st_H_isOutside (c_H_isOutside hx) rfl rfl d_H_degrees_24 (by decide) (Nat.le_of_ble_eq_true rfl) ?_
    refine r_if_eq (tgt := 40) C d_H_degrees_27 (by decide) (fun q27 => ?_) (fun q27 => ?_)
    · refine r_aload_n (i0 := 0) C d_H_degrees_40 rfl rfl ?_
      refine r_iconst C d_H_degrees_41 (by decide) ?_
      refine r_putZ C pl_H_71 d_H_degrees_42 rfl (by omega) ?_
      refine r_aload_n (i0 := 0) C d_H_degrees_45 rfl rfl ?_
      refine r_getO C fl_H_51 d_H_degrees_46 rfl rfl (fun hi => hi) ?_
      refine r_iload_n (i0 := 1) C d_H_degrees_49 rfl rfl ?_
      refine r_iload_n (i0 := 2) C d_H_degrees_50 rfl rfl ?_
      refine r_iastore (ln := 12) C d_H_degrees_51 rfl (fun _ => rfl) rfl (by omega) ?_
      exact r_vret C d_H_degrees_52 (Out.ret (by (repeat' split) <;> first | rfl | omega) rfl) (by decide) (fun q => nomatch q)
    · exact r_throw C tl_H_degrees_30 d_H_degrees_30 d_H_degrees_33 d_H_degrees_34 d_H_degrees_36 d_H_degrees_39 (by decide) (by decide) (Nat.le_of_ble_eq_true rfl) (Out.thr (by (repeat' split) <;> first | rfl | omega))
  · exact r_throw C tl_H_degrees_10 d_H_degrees_10 d_H_degrees_13 d_H_degrees_14 d_H_degrees_16 d_H_degrees_19 (by decide) (by decide) (Nat.le_of_ble_eq_true rfl) (Out.thr (by (repeat' split) <;> first | rfl | omega))
set_option maxHeartbeats 1000000 in
theorem c_H_prepay {l : Launch} (hl : l.stackTraces = false) {w : XW} {h : AH} {a b : Int} (ht : 0 ≤ h 23 0 4 ∧ h 23 0 4 ≤ 20) (hp : ∀ k : Nat, k < 20 → 0 ≤ h 27 0 k ∧ h 27 0 k ≤ 1000000) : AM l y_H_prepay (wsM y_H_prepay b_H_prepay 3 none []) false (rmV 3 1) w [vO 1 0, vI a, vI b] h (Out (if a < 0 ∨ h 23 0 4 ≤ a then some 1 else if b < 0 ∨ 20000 < b ∨ 1000000 < h 27 0 a.toNat + b then some 0 else none) (none) h (fun h' => h' = hset h 27 0 a.toNat (h 27 0 a.toNat + b))) := by
  refine AM.of hl (by decide +kernel) (Nat.le_of_ble_eq_true rfl) fun x hx C _ => ?_
  refine r_aload_n (i0 := 0) C d_H_prepay_0 rfl rfl ?_
  refine r_iload_n (i0 := 1) C d_H_prepay_1 rfl rfl ?_
  refine r_callVt C cl_H_163 im_H_needTenant rfl rfl (c_H_needTenant hx ht) rfl rfl d_H_prepay_2 (by decide) (Nat.le_of_ble_eq_true rfl) (by decide) (fun k hk => Out.thr (by by_cases z : a < 0 ∨ h 23 0 4 ≤ a <;> simp [z] at hk ⊢; exact hk)) (fun e2 => ?_)
  have en : ¬ (a < 0 ∨ h 23 0 4 ≤ a) := fun z => by rw [if_pos z] at e2; cases e2
  refine r_iload_n (i0 := 2) C d_H_prepay_5 rfl rfl ?_
  refine r_iconst C d_H_prepay_6 (by decide) ?_
  refine r_sipush C d_H_prepay_7 (by decide) (by decide) ?_
  refine r_callSp C cl_H_75 st_H_isOutside (c_H_isOutside hx) rfl rfl d_H_prepay_10 (by decide) (Nat.le_of_ble_eq_true rfl) ?_
  refine r_if_ne (tgt := 32) C d_H_prepay_13 (by decide) (fun q13 => ?_) (fun q13 => ?_)
  · exact r_throw C tl_H_prepay_32 d_H_prepay_32 d_H_prepay_35 d_H_prepay_36 d_H_prepay_38 d_H_prepay_41 (by decide) (by decide) (Nat.le_of_ble_eq_true rfl) (Out.thr (by (repeat' split) <;> first | rfl | omega))
  · refine r_aload_n (i0 := 0) C d_H_prepay_16 rfl rfl ?_
    refine r_getO C fl_H_47 d_H_prepay_17 rfl rfl (fun hi => hi) ?_
    refine r_getO C fl_H_166 d_H_prepay_20 rfl rfl (fun hi => hi) ?_
    refine r_iload_n (i0 := 1) C d_H_prepay_23 rfl rfl ?_
    refine r_iaload (ln := 20) C d_H_prepay_24 rfl (fun _ => rfl) rfl (by omega) ?_
    refine r_iload_n (i0 := 2) C d_H_prepay_25 rfl rfl ?_
    refine r_iadd C d_H_prepay_26 (by have := hp a.toNat (by omega); omega) ?_
    refine r_ldc C d_H_prepay_27 k_H_169 (by decide) ?_
    refine r_icmp_le (tgt := 42) C d_H_prepay_29 (by decide) (fun q29 => ?_) (fun q29 => ?_)
    · refine r_aload_n (i0 := 0) C d_H_prepay_42 rfl rfl ?_
      refine r_getO C fl_H_47 d_H_prepay_43 rfl rfl (fun hi => hi) ?_
      refine r_getO C fl_H_166 d_H_prepay_46 rfl rfl (fun hi => hi) ?_
      refine r_iload_n (i0 := 1) C d_H_prepay_49 rfl rfl ?_
      refine r_dup2 C d_H_prepay_50 rfl rfl ?_
      refine r_iaload (ln := 20) C d_H_prepay_51 rfl (fun _ => rfl) rfl (by omega) ?_
      refine r_iload_n (i0 := 2) C d_H_prepay_52 rfl rfl ?_
      refine r_iadd C d_H_prepay_53 (by have := hp a.toNat (by omega); omega) ?_
      refine r_iastore (ln := 20) C d_H_prepay_54 rfl (fun _ => rfl) rfl (by omega) ?_
      exact r_vret C d_H_prepay_55 (Out.ret (by (repeat' split) <;> first | rfl | omega) rfl) (by decide) (fun q => nomatch q)
    · exact r_throw C tl_H_prepay_32 d_H_prepay_32 d_H_prepay_35 d_H_prepay_36 d_H_prepay_38 d_H_prepay_41 (by decide) (by decide) (Nat.le_of_ble_eq_true rfl) (Out.thr (by (repeat' split) <;> first | rfl | omega))
theorem Out.retv {e : Option Nat} {v v' : Option AV} {h h' : AH} {P : AH → Prop} (he : e = none) (hv : v' = v) (hp : P h') : Out e v h P (.inl v') h' := Or.inr ⟨he, by rw [hv], hp⟩
set_option maxHeartbeats 1000000 in
theorem c_H_amount {l : Launch} (hl : l.stackTraces = false) {w : XW} {h : AH} {a b : Int} (ht : 0 ≤ h 23 0 4 ∧ h 23 0 4 ≤ 20) (ho : ∀ i j : Nat, i < 3 → j < 21 → 0 ≤ h 25 i j ∧ h 25 i j ≤ 20000000) : AM l y_H_amount (wsM y_H_amount b_H_amount 3 (some .int) []) true (rmV 3 1) w [vO 1 0, vI a, vI b] h (Out (if h 1 0 12 = 0 then some 2 else if a < -1 ∨ h 23 0 4 ≤ a then some 1 else if b < 0 ∨ 3 < b then some 1 else none) (some (if b = 3 then vI (h 25 0 (a + 1).toNat + h 25 1 (a + 1).toNat + h 25 2 (a + 1).toNat) else vI (h 25 b.toNat (a + 1).toNat))) h (fun h' => h' = h)) := by
  refine AM.of hl (by decide +kernel) (Nat.le_of_ble_eq_true rfl) fun x hx C _ => ?_
  refine r_aload_n (i0 := 0) C d_H_amount_0 rfl rfl ?_
  refine r_callVt C cl_H_199 im_H_needBill rfl rfl (c_H_needBill hx) rfl rfl d_H_amount_1 (by decide) (Nat.le_of_ble_eq_true rfl) (by decide) (fun k hk => Out.thr (by by_cases z : h 1 0 12 = 0 <;> simp [z] at hk ⊢; exact hk)) (fun e1 => ?_)
  have eb : ¬ h 1 0 12 = 0 := fun z => by rw [if_pos z] at e1; cases e1
  refine r_aload_n (i0 := 0) C d_H_amount_4 rfl rfl ?_
  refine r_iload_n (i0 := 1) C d_H_amount_5 rfl rfl ?_
  refine r_callVt C cl_H_202 im_H_needTenantOrLandlord rfl rfl (c_H_needTenantOrLandlord hx ht) rfl rfl d_H_amount_6 (by decide) (Nat.le_of_ble_eq_true rfl) (by decide) (fun k hk => Out.thr (by by_cases z0 : h 1 0 12 = 0 <;> by_cases z : a < -1 ∨ h 23 0 4 ≤ a <;> simp [z0, z] at hk e1 ⊢; exact hk)) (fun e6 => ?_)
  have en : ¬ (a < -1 ∨ h 23 0 4 ≤ a) := fun z => by rw [if_pos z] at e6; cases e6
  refine r_iload_n (i0 := 2) C d_H_amount_9 rfl rfl ?_
  refine r_iconst C d_H_amount_10 (by decide) ?_
  refine r_iconst C d_H_amount_11 (by decide) ?_
  refine r_callSp C cl_H_75 st_H_isOutside (c_H_isOutside hx) rfl rfl d_H_amount_12 (by decide) (Nat.le_of_ble_eq_true rfl) ?_
  refine r_if_eq (tgt := 28) C d_H_amount_15 (by decide) (fun q15 => ?_) (fun q15 => ?_)
  · refine r_iload_n (i0 := 2) C d_H_amount_28 rfl rfl ?_
    refine r_iconst C d_H_amount_29 (by decide) ?_
    refine r_icmp_ne (tgt := 42) C d_H_amount_30 (by decide) (fun q30 => ?_) (fun q30 => ?_)
    · refine r_aload_n (i0 := 0) C d_H_amount_42 rfl rfl ?_
      refine r_getO C fl_H_47 d_H_amount_43 rfl rfl (fun hi => hi) ?_
      refine r_getO C fl_H_211 d_H_amount_46 rfl rfl (fun hi => hi) ?_
      refine r_iload_n (i0 := 2) C d_H_amount_49 rfl rfl ?_
      refine r_aaW C d_H_amount_50 (by omega) ?_
      refine r_iload_n (i0 := 1) C d_H_amount_51 rfl rfl ?_
      refine r_iconst C d_H_amount_52 (by decide) ?_
      refine r_iadd C d_H_amount_53 (by omega) ?_
      refine r_iaload (ln := 21) C d_H_amount_54 rfl (fun _ => rfl) rfl (by omega) ?_
      exact r_iret C d_H_amount_55 (fun _ => Out.retv (by simp [eb, en]; omega) (by rw [if_neg (by omega)]) rfl) (by decide) (fun _ => ⟨rfl, rfl, rfl⟩)
    · refine r_aload_n (i0 := 0) C d_H_amount_33 rfl rfl ?_
      refine r_getO C fl_H_47 d_H_amount_34 rfl rfl (fun hi => hi) ?_
      refine r_iload_n (i0 := 1) C d_H_amount_37 rfl rfl ?_
      refine r_callVp C cl_H_207 im_A_owedInAll rfl rfl (c_A_owedInAll hx ho (by omega)) rfl rfl d_H_amount_38 (by decide) (Nat.le_of_ble_eq_true rfl) ?_
      exact r_iret C d_H_amount_41 (fun _ => Out.retv (by simp [eb, en]; omega) (by rw [if_pos (by omega)]) rfl) (by decide) (fun _ => ⟨rfl, rfl, rfl⟩)
  · exact r_throw C tl_H_amount_18 d_H_amount_18 d_H_amount_21 d_H_amount_22 d_H_amount_24 d_H_amount_27 (by decide) (by decide) (Nat.le_of_ble_eq_true rfl) (Out.thr (by (repeat' split) <;> first | rfl | omega))
set_option maxHeartbeats 1000000 in
theorem c_H_paid {l : Launch} (hl : l.stackTraces = false) {w : XW} {h : AH} {a : Int} (ht : 0 ≤ h 23 0 4 ∧ h 23 0 4 ≤ 20) : AM l y_H_paid (wsM y_H_paid b_H_paid 2 (some .int) []) true (rmV 3 1) w [vO 1 0, vI a] h (Out (if a < 0 ∨ h 23 0 4 ≤ a then some 1 else none) (some (vI (h 27 0 a.toNat))) h (fun h' => h' = h)) := by
  refine AM.of hl (by decide +kernel) (Nat.le_of_ble_eq_true rfl) fun x hx C _ => ?_
  refine r_aload_n (i0 := 0) C d_H_paid_0 rfl rfl ?_
  refine r_iload_n (i0 := 1) C d_H_paid_1 rfl rfl ?_
  refine r_callVt C cl_H_163 im_H_needTenant rfl rfl (c_H_needTenant hx ht) rfl rfl d_H_paid_2 (by decide) (Nat.le_of_ble_eq_true rfl) (by decide) (fun k hk => Out.thr (by by_cases z : a < 0 ∨ h 23 0 4 ≤ a <;> simp [z] at hk ⊢; exact hk)) (fun e2 => ?_)
  have en : ¬ (a < 0 ∨ h 23 0 4 ≤ a) := fun z => by rw [if_pos z] at e2; cases e2
  refine r_aload_n (i0 := 0) C d_H_paid_5 rfl rfl ?_
  refine r_getO C fl_H_47 d_H_paid_6 rfl rfl (fun hi => hi) ?_
  refine r_getO C fl_H_166 d_H_paid_9 rfl rfl (fun hi => hi) ?_
  refine r_iload_n (i0 := 1) C d_H_paid_12 rfl rfl ?_
  refine r_iaload (ln := 20) C d_H_paid_13 rfl (fun _ => rfl) rfl (by omega) ?_
  exact r_iret C d_H_paid_14 (fun _ => Out.ret (by (repeat' split) <;> first | rfl | omega) rfl) (by decide) (fun _ => ⟨rfl, rfl, rfl⟩)
set_option maxHeartbeats 1000000 in
theorem c_H_part {l : Launch} (hl : l.stackTraces = false) {w : XW} {h : AH} {a : Int} : AM l y_H_part (wsM y_H_part b_H_part 2 (some .int) []) true (rmV 3 1) w [vO 1 0, vI a] h (Out (if h 1 0 12 = 0 then some 2 else if a < 0 ∨ 4 < a then some 1 else none) (some (vI (h 30 0 a.toNat))) h (fun h' => h' = h)) := by
  refine AM.of hl (by decide +kernel) (Nat.le_of_ble_eq_true rfl) fun x hx C _ => ?_
  refine r_aload_n (i0 := 0) C d_H_part_0 rfl rfl ?_
  refine r_callVt C cl_H_199 im_H_needBill rfl rfl (c_H_needBill hx) rfl rfl d_H_part_1 (by decide) (Nat.le_of_ble_eq_true rfl) (by decide) (fun k hk => Out.thr (by by_cases z : h 1 0 12 = 0 <;> simp [z] at hk ⊢; exact hk)) (fun e1 => ?_)
  have eb : ¬ h 1 0 12 = 0 := fun z => by rw [if_pos z] at e1; cases e1
  refine r_iload_n (i0 := 1) C d_H_part_4 rfl rfl ?_
  refine r_iconst C d_H_part_5 (by decide) ?_
  refine r_iconst C d_H_part_6 (by decide) ?_
  refine r_callSp C cl_H_75 st_H_isOutside (c_H_isOutside hx) rfl rfl d_H_part_7 (by decide) (Nat.le_of_ble_eq_true rfl) ?_
  refine r_if_eq (tgt := 23) C d_H_part_10 (by decide) (fun q10 => ?_) (fun q10 => ?_)
  · refine r_aload_n (i0 := 0) C d_H_part_23 rfl rfl ?_
    refine r_getO C fl_H_55 d_H_part_24 rfl rfl (fun hi => hi) ?_
    refine r_iload_n (i0 := 1) C d_H_part_27 rfl rfl ?_
    refine r_iaload (ln := 5) C d_H_part_28 rfl (fun _ => rfl) rfl (by omega) ?_
    exact r_iret C d_H_part_29 (fun _ => Out.ret (by (repeat' split) <;> first | rfl | omega) rfl) (by decide) (fun _ => ⟨rfl, rfl, rfl⟩)
  · exact r_throw C tl_H_part_13 d_H_part_13 d_H_part_16 d_H_part_17 d_H_part_19 d_H_part_22 (by decide) (by decide) (Nat.le_of_ble_eq_true rfl) (Out.thr (by (repeat' split) <;> first | rfl | omega))
set_option maxHeartbeats 1000000 in
theorem c_H_sent {l : Launch} (hl : l.stackTraces = false) {w : XW} {h : AH} {a : Int} (ht : 0 ≤ h 23 0 4 ∧ h 23 0 4 ≤ 20) : AM l y_H_sent (wsM y_H_sent b_H_sent 2 (some .int) []) true (rmV 3 1) w [vO 1 0, vI a] h (Out (if a < -1 ∨ h 23 0 4 ≤ a then some 1 else none) (some (vI (h 26 0 (a + 1).toNat))) h (fun h' => h' = h)) := by
  refine AM.of hl (by decide +kernel) (Nat.le_of_ble_eq_true rfl) fun x hx C _ => ?_
  refine r_aload_n (i0 := 0) C d_H_sent_0 rfl rfl ?_
  refine r_iload_n (i0 := 1) C d_H_sent_1 rfl rfl ?_
  refine r_callVt C cl_H_202 im_H_needTenantOrLandlord rfl rfl (c_H_needTenantOrLandlord hx ht) rfl rfl d_H_sent_2 (by decide) (Nat.le_of_ble_eq_true rfl) (by decide) (fun k hk => Out.thr (by by_cases z : a < -1 ∨ h 23 0 4 ≤ a <;> simp [z] at hk ⊢; exact hk)) (fun e2 => ?_)
  have en : ¬ (a < -1 ∨ h 23 0 4 ≤ a) := fun z => by rw [if_pos z] at e2; cases e2
  refine r_aload_n (i0 := 0) C d_H_sent_5 rfl rfl ?_
  refine r_getO C fl_H_47 d_H_sent_6 rfl rfl (fun hi => hi) ?_
  refine r_getO C fl_H_221 d_H_sent_9 rfl rfl (fun hi => hi) ?_
  refine r_iload_n (i0 := 1) C d_H_sent_12 rfl rfl ?_
  refine r_iconst C d_H_sent_13 (by decide) ?_
  refine r_iadd C d_H_sent_14 (by omega) ?_
  refine r_iaload (ln := 21) C d_H_sent_15 rfl (fun _ => rfl) rfl (by omega) ?_
  exact r_iret C d_H_sent_16 (fun _ => Out.ret (by (repeat' split) <;> first | rfl | omega) rfl) (by decide) (fun _ => ⟨rfl, rfl, rfl⟩)
set_option maxHeartbeats 1000000 in
theorem c_H_known {l : Launch} (hl : l.stackTraces = false) {w : XW} {h : AH} {a : Int} (hc : 0 ≤ h 2 0 1 ∧ h 2 0 1 ≤ 6) : AM l y_H_known (wsM y_H_known b_H_known 2 (some .int) []) true (rmV 3 1) w [vO 1 0, vI a] h (Out (if a < 0 ∨ h 2 0 1 ≤ a then some 1 else none) (some (vI (h 4 a.toNat 4))) h (fun h' => h' = h)) := by
  refine AM.of hl (by decide +kernel) (Nat.le_of_ble_eq_true rfl) fun x hx C _ => ?_
  refine r_aload_n (i0 := 0) C d_H_known_0 rfl rfl ?_
  refine r_iload_n (i0 := 1) C d_H_known_1 rfl rfl ?_
  refine r_callVt C cl_H_98 im_H_needFlat rfl rfl (c_H_needFlat hx hc) rfl rfl d_H_known_2 (by decide) (Nat.le_of_ble_eq_true rfl) (by decide) (fun k hk => Out.thr (by by_cases z : a < 0 ∨ h 2 0 1 ≤ a <;> simp [z] at hk ⊢; exact hk)) (fun e2 => ?_)
  have en : ¬ (a < 0 ∨ h 2 0 1 ≤ a) := fun z => by rw [if_pos z] at e2; cases e2
  refine r_aload_n (i0 := 0) C d_H_known_5 rfl rfl ?_
  refine r_getO C fl_H_12 d_H_known_6 rfl rfl (fun hi => hi) ?_
  refine r_getO C fl_H_109 d_H_known_9 rfl rfl (fun hi => hi) ?_
  refine r_iload_n (i0 := 1) C d_H_known_12 rfl rfl ?_
  refine r_aaF C d_H_known_13 (by omega) ?_
  refine r_getI C fl_H_235 d_H_known_14 rfl ?_
  exact r_iret C d_H_known_17 (fun _ => Out.ret (by (repeat' split) <;> first | rfl | omega) rfl) (by decide) (fun _ => ⟨rfl, rfl, rfl⟩)

/-! The law's helpers: a call of the class, with what it throws made a number. -/
theorem ck_13 : Cond.classLink R_L 13 (exN 0) ∈ GW := gwT 449 (by decide +kernel) (by decide +kernel)
theorem ck_15 : Cond.classLink R_L 15 (exN 3) ∈ GW := gwT 450 (by decide +kernel) (by decide +kernel)
theorem ck_21 : Cond.classLink R_L 21 (exN 1) ∈ GW := gwT 550 (by decide +kernel) (by decide +kernel)
theorem ck_27 : Cond.classLink R_L 27 (exN 2) ∈ GW := gwT 580 (by decide +kernel) (by decide +kernel)
set_option maxHeartbeats 1000000 in
theorem c_L_flat {l : Launch} (hl : l.stackTraces = false) {w : XW} {h : AH} {a b c : Int} (hc : 0 ≤ h 2 0 1 ∧ h 2 0 1 ≤ 6) : AM l y_L_flat (wsM y_L_flat b_L_flat 6 (some .int) [(0, 12, 15, 13), (0, 12, 19, 15)]) false (rmV 4 1) w [vO 1 0, vI a, vI b, vI c, vO 70 0] h (LO (if a < 1 ∨ 50 < a ∨ b < 0 ∨ 50 < b ∨ c < 1 ∨ 2 < c then some 0 else if h 2 0 1 = 6 then some 3 else none) (fun k => if k = 0 then 1 else if k = 3 then 2 else 0) h (fun h' => h' = hset (hset (hset (hset (hset (hset h 1 0 12 0) 4 (h 2 0 1).toNat 0 a) 4 (h 2 0 1).toNat 1 b) 4 (h 2 0 1).toNat 2 c) 2 0 1 (h 2 0 1 + 1)) 70 0 0 (h 2 0 1))) := by
  refine AM.of hl (by decide +kernel) (Nat.le_of_ble_eq_true rfl) fun x hx C _ => ?_
  have hek : ∀ k, (if a < 1 ∨ 50 < a ∨ b < 0 ∨ 50 < b ∨ c < 1 ∨ 2 < c then some 0 else if h 2 0 1 = 6 then some 3 else none) = some k → k = 0 ∨ k = 3 := by
    intro k hk
    revert hk
    (repeat' split) <;> intro hk <;> first | cases hk | skip
    all_goals first | decide | omega | simp
  refine r_aload C d_L_flat_0 rfl ?_
  refine r_iconst C d_L_flat_2 (by decide) ?_
  refine r_aload_n (i0 := 0) C d_L_flat_3 rfl rfl ?_
  refine r_iload_n (i0 := 1) C d_L_flat_4 rfl rfl ?_
  refine r_iload_n (i0 := 2) C d_L_flat_5 rfl rfl ?_
  refine r_iload_n (i0 := 3) C d_L_flat_6 rfl rfl ?_
  refine r_callVc C cl_L_7 im_H_flat rfl rfl (c_H_flat hx hc) rfl rfl d_L_flat_7 (by decide) (Nat.le_of_ble_eq_true rfl) (ct := [(⟨0, 12, 15, 13⟩, 0), (⟨0, 12, 19, 15⟩, 3)]) rfl ⟨⟨by decide, by decide, by decide, ck_13⟩, ⟨by decide, by decide, by decide, ck_15⟩, trivial⟩ (fun k hk => ?_) (fun he h' hP => ?_)
  · rcases hek k hk with rfl | rfl
    · refine ⟨by decide, 15, rfl, fun a => ?_⟩
      refine r_astoreX C d_L_flat_15 (by decide) ?_
      refine r_iconst C d_L_flat_17 (by decide) ?_
      exact r_iret C d_L_flat_18 (fun _ => LO.thr hk (by decide)) (by decide) (fun q => nomatch q)
    · refine ⟨by decide, 19, rfl, fun a => ?_⟩
      refine r_astoreX C d_L_flat_19 (by decide) ?_
      refine r_iconst C d_L_flat_21 (by decide) ?_
      exact r_iret C d_L_flat_22 (fun _ => LO.thr hk (by decide)) (by decide) (fun q => nomatch q)
  · refine r_i2l C d_L_flat_10 ?_
    refine r_lastore (ln := 1) C d_L_flat_11 rfl (fun _ => rfl) rfl (by omega) ?_
    refine r_goto (tgt := 23) C d_L_flat_12 (by decide) ?_
    refine r_iconst C d_L_flat_23 (by decide) ?_
    exact r_iret C d_L_flat_24 (fun _ => LO.ret he (by rw [hP]; rfl)) (by decide) (fun q => nomatch q)
set_option maxHeartbeats 1000000 in
theorem c_L_reading {l : Launch} (hl : l.stackTraces = false) {w : XW} {h : AH} {a b c : Int} (hc : 0 ≤ h 2 0 1 ∧ h 2 0 1 ≤ 6) : AM l y_L_reading (wsM y_L_reading b_L_reading 5 (some .int) [(0, 7, 10, 21), (0, 7, 14, 13)]) false (rmV 4 1) w [vO 1 0, vI a, vI b, vI c] h (LO (if a < 0 ∨ h 2 0 1 ≤ a then some 1 else if b < 0 ∨ 12 < b then some 1 else if c < -1 ∨ 99 < c then some 0 else none) (fun k => if k = 1 then 1 else if k = 0 then 2 else 0) h (fun h' => h' = hset (hset h 1 0 12 0) 5 a.toNat b.toNat c)) := by
  refine AM.of hl (by decide +kernel) (Nat.le_of_ble_eq_true rfl) fun x hx C _ => ?_
  have hek : ∀ k, (if a < 0 ∨ h 2 0 1 ≤ a then some 1 else if b < 0 ∨ 12 < b then some 1 else if c < -1 ∨ 99 < c then some 0 else none) = some k → k = 1 ∨ k = 0 := by
    intro k hk
    revert hk
    (repeat' split) <;> intro hk <;> first | cases hk | skip
    all_goals first | decide | omega | simp
  refine r_aload_n (i0 := 0) C d_L_reading_0 rfl rfl ?_
  refine r_iload_n (i0 := 1) C d_L_reading_1 rfl rfl ?_
  refine r_iload_n (i0 := 2) C d_L_reading_2 rfl rfl ?_
  refine r_iload_n (i0 := 3) C d_L_reading_3 rfl rfl ?_
  refine r_callVc C cl_L_17 im_H_reading rfl rfl (c_H_reading hx hc) rfl rfl d_L_reading_4 (by decide) (Nat.le_of_ble_eq_true rfl) (ct := [(⟨0, 7, 10, 21⟩, 1), (⟨0, 7, 14, 13⟩, 0)]) rfl ⟨⟨by decide, by decide, by decide, ck_21⟩, ⟨by decide, by decide, by decide, ck_13⟩, trivial⟩ (fun k hk => ?_) (fun he h' hP => ?_)
  · rcases hek k hk with rfl | rfl
    · refine ⟨by decide, 10, rfl, fun a => ?_⟩
      refine r_astoreX C d_L_reading_10 (by decide) ?_
      refine r_iconst C d_L_reading_12 (by decide) ?_
      exact r_iret C d_L_reading_13 (fun _ => LO.thr hk (by decide)) (by decide) (fun q => nomatch q)
    · refine ⟨by decide, 14, rfl, fun a => ?_⟩
      refine r_astoreX C d_L_reading_14 (by decide) ?_
      refine r_iconst C d_L_reading_16 (by decide) ?_
      exact r_iret C d_L_reading_17 (fun _ => LO.thr hk (by decide)) (by decide) (fun q => nomatch q)
  · refine r_goto (tgt := 18) C d_L_reading_7 (by decide) ?_
    refine r_iconst C d_L_reading_18 (by decide) ?_
    exact r_iret C d_L_reading_19 (fun _ => LO.ret he hP) (by decide) (fun q => nomatch q)
set_option maxHeartbeats 1000000 in
theorem c_L_enter {l : Launch} (hl : l.stackTraces = false) {w : XW} {h : AH} {a b : Int} (hc : 0 ≤ h 2 0 1 ∧ h 2 0 1 ≤ 6) (ht : 0 ≤ h 23 0 4 ∧ h 23 0 4 ≤ 20) : AM l y_L_enter (wsM y_L_enter b_L_enter 5 (some .int) [(0, 10, 13, 21), (0, 10, 17, 27), (0, 10, 21, 15)]) false (rmV 4 1) w [vO 1 0, vI a, vI b, vO 70 0] h (LO (if a < 0 ∨ h 2 0 1 ≤ a then some 1 else if b < 0 ∨ 11 < b then some 1 else if h 6 a.toNat b.toNat = -2 then (if h 23 0 4 = 20 then some 3 else none) else some 2) (fun k => if k = 1 then 1 else if k = 2 then 2 else if k = 3 then 3 else 0) h (fun h' => h' = hset (hset (hset (hset h 1 0 12 0) 23 0 4 (h 23 0 4 + 1)) 6 a.toNat b.toNat (h 23 0 4)) 70 0 0 (h 23 0 4))) := by
  refine AM.of hl (by decide +kernel) (Nat.le_of_ble_eq_true rfl) fun x hx C _ => ?_
  have hek : ∀ k, (if a < 0 ∨ h 2 0 1 ≤ a then some 1 else if b < 0 ∨ 11 < b then some 1 else if h 6 a.toNat b.toNat = -2 then (if h 23 0 4 = 20 then some 3 else none) else some 2) = some k → k = 1 ∨ k = 2 ∨ k = 3 := by
    intro k hk
    revert hk
    (repeat' split) <;> intro hk <;> first | cases hk | skip
    all_goals first | decide | omega | simp
  refine r_aload_n (i0 := 3) C d_L_enter_0 rfl rfl ?_
  refine r_iconst C d_L_enter_1 (by decide) ?_
  refine r_aload_n (i0 := 0) C d_L_enter_2 rfl rfl ?_
  refine r_iload_n (i0 := 1) C d_L_enter_3 rfl rfl ?_
  refine r_iload_n (i0 := 2) C d_L_enter_4 rfl rfl ?_
  refine r_callVc C cl_L_23 im_H_enter rfl rfl (c_H_enter hx hc ht) rfl rfl d_L_enter_5 (by decide) (Nat.le_of_ble_eq_true rfl) (ct := [(⟨0, 10, 13, 21⟩, 1), (⟨0, 10, 17, 27⟩, 2), (⟨0, 10, 21, 15⟩, 3)]) rfl ⟨⟨by decide, by decide, by decide, ck_21⟩, ⟨by decide, by decide, by decide, ck_27⟩, ⟨by decide, by decide, by decide, ck_15⟩, trivial⟩ (fun k hk => ?_) (fun he h' hP => ?_)
  · rcases hek k hk with rfl | rfl | rfl
    · refine ⟨by decide, 13, rfl, fun a => ?_⟩
      refine r_astoreX C d_L_enter_13 (by decide) ?_
      refine r_iconst C d_L_enter_15 (by decide) ?_
      exact r_iret C d_L_enter_16 (fun _ => LO.thr hk (by decide)) (by decide) (fun q => nomatch q)
    · refine ⟨by decide, 17, rfl, fun a => ?_⟩
      refine r_astoreX C d_L_enter_17 (by decide) ?_
      refine r_iconst C d_L_enter_19 (by decide) ?_
      exact r_iret C d_L_enter_20 (fun _ => LO.thr hk (by decide)) (by decide) (fun q => nomatch q)
    · refine ⟨by decide, 21, rfl, fun a => ?_⟩
      refine r_astoreX C d_L_enter_21 (by decide) ?_
      refine r_iconst C d_L_enter_23 (by decide) ?_
      exact r_iret C d_L_enter_24 (fun _ => LO.thr hk (by decide)) (by decide) (fun q => nomatch q)
  · refine r_i2l C d_L_enter_8 ?_
    refine r_lastore (ln := 1) C d_L_enter_9 rfl (fun _ => rfl) rfl (by omega) ?_
    refine r_goto (tgt := 25) C d_L_enter_10 (by decide) ?_
    refine r_iconst C d_L_enter_25 (by decide) ?_
    exact r_iret C d_L_enter_26 (fun _ => LO.ret he (by rw [hP]; rfl)) (by decide) (fun q => nomatch q)
set_option maxHeartbeats 1000000 in
theorem c_L_leave {l : Launch} (hl : l.stackTraces = false) {w : XW} {h : AH} {a b : Int} (hc : 0 ≤ h 2 0 1 ∧ h 2 0 1 ≤ 6) : AM l y_L_leave (wsM y_L_leave b_L_leave 4 (some .int) [(0, 6, 9, 21), (0, 6, 12, 27)]) false (rmV 4 1) w [vO 1 0, vI a, vI b] h (LO (if a < 0 ∨ h 2 0 1 ≤ a then some 1 else if b < 0 ∨ 11 < b then some 1 else if h 6 a.toNat b.toNat = -2 then none else some 2) (fun k => if k = 1 then 1 else if k = 2 then 2 else 0) h (fun h' => h' = hset (hset h 1 0 12 0) 6 a.toNat b.toNat (-1))) := by
  refine AM.of hl (by decide +kernel) (Nat.le_of_ble_eq_true rfl) fun x hx C _ => ?_
  have hek : ∀ k, (if a < 0 ∨ h 2 0 1 ≤ a then some 1 else if b < 0 ∨ 11 < b then some 1 else if h 6 a.toNat b.toNat = -2 then none else some 2) = some k → k = 1 ∨ k = 2 := by
    intro k hk
    revert hk
    (repeat' split) <;> intro hk <;> first | cases hk | skip
    all_goals first | decide | omega | simp
  refine r_aload_n (i0 := 0) C d_L_leave_0 rfl rfl ?_
  refine r_iload_n (i0 := 1) C d_L_leave_1 rfl rfl ?_
  refine r_iload_n (i0 := 2) C d_L_leave_2 rfl rfl ?_
  refine r_callVc C cl_L_29 im_H_leave rfl rfl (c_H_leave hx hc) rfl rfl d_L_leave_3 (by decide) (Nat.le_of_ble_eq_true rfl) (ct := [(⟨0, 6, 9, 21⟩, 1), (⟨0, 6, 12, 27⟩, 2)]) rfl ⟨⟨by decide, by decide, by decide, ck_21⟩, ⟨by decide, by decide, by decide, ck_27⟩, trivial⟩ (fun k hk => ?_) (fun he h' hP => ?_)
  · rcases hek k hk with rfl | rfl
    · refine ⟨by decide, 9, rfl, fun a => ?_⟩
      refine r_astore_nX (i0 := 3) C d_L_leave_9 rfl (by decide) ?_
      refine r_iconst C d_L_leave_10 (by decide) ?_
      exact r_iret C d_L_leave_11 (fun _ => LO.thr hk (by decide)) (by decide) (fun q => nomatch q)
    · refine ⟨by decide, 12, rfl, fun a => ?_⟩
      refine r_astore_nX (i0 := 3) C d_L_leave_12 rfl (by decide) ?_
      refine r_iconst C d_L_leave_13 (by decide) ?_
      exact r_iret C d_L_leave_14 (fun _ => LO.thr hk (by decide)) (by decide) (fun q => nomatch q)
  · refine r_goto (tgt := 15) C d_L_leave_6 (by decide) ?_
    refine r_iconst C d_L_leave_15 (by decide) ?_
    exact r_iret C d_L_leave_16 (fun _ => LO.ret he hP) (by decide) (fun q => nomatch q)
set_option maxHeartbeats 1000000 in
theorem c_L_deliver {l : Launch} (hl : l.stackTraces = false) {w : XW} {h : AH} {a b : Int} (hn : 0 ≤ h 7 0 2 ∧ h 7 0 2 ≤ 12) : AM l y_L_deliver (wsM y_L_deliver b_L_deliver 4 (some .int) [(0, 6, 9, 13), (0, 6, 12, 15)]) false (rmV 4 1) w [vO 1 0, vI a, vI b] h (LO (if a < 1 ∨ 1000 < a ∨ b < 0 ∨ 20000 < b then some 0 else if h 7 0 2 = 12 then some 3 else none) (fun k => if k = 0 then 1 else if k = 3 then 2 else 0) h (fun h' => h' = hset (hset (hset (hset h 1 0 12 0) 8 0 (h 7 0 2).toNat a) 9 0 (h 7 0 2).toNat b) 7 0 2 (h 7 0 2 + 1))) := by
  refine AM.of hl (by decide +kernel) (Nat.le_of_ble_eq_true rfl) fun x hx C _ => ?_
  have hek : ∀ k, (if a < 1 ∨ 1000 < a ∨ b < 0 ∨ 20000 < b then some 0 else if h 7 0 2 = 12 then some 3 else none) = some k → k = 0 ∨ k = 3 := by
    intro k hk
    revert hk
    (repeat' split) <;> intro hk <;> first | cases hk | skip
    all_goals first | decide | omega | simp
  refine r_aload_n (i0 := 0) C d_L_deliver_0 rfl rfl ?_
  refine r_iload_n (i0 := 1) C d_L_deliver_1 rfl rfl ?_
  refine r_iload_n (i0 := 2) C d_L_deliver_2 rfl rfl ?_
  refine r_callVc C cl_L_33 im_H_deliver rfl rfl (c_H_deliver hx hn) rfl rfl d_L_deliver_3 (by decide) (Nat.le_of_ble_eq_true rfl) (ct := [(⟨0, 6, 9, 13⟩, 0), (⟨0, 6, 12, 15⟩, 3)]) rfl ⟨⟨by decide, by decide, by decide, ck_13⟩, ⟨by decide, by decide, by decide, ck_15⟩, trivial⟩ (fun k hk => ?_) (fun he h' hP => ?_)
  · rcases hek k hk with rfl | rfl
    · refine ⟨by decide, 9, rfl, fun a => ?_⟩
      refine r_astore_nX (i0 := 3) C d_L_deliver_9 rfl (by decide) ?_
      refine r_iconst C d_L_deliver_10 (by decide) ?_
      exact r_iret C d_L_deliver_11 (fun _ => LO.thr hk (by decide)) (by decide) (fun q => nomatch q)
    · refine ⟨by decide, 12, rfl, fun a => ?_⟩
      refine r_astore_nX (i0 := 3) C d_L_deliver_12 rfl (by decide) ?_
      refine r_iconst C d_L_deliver_13 (by decide) ?_
      exact r_iret C d_L_deliver_14 (fun _ => LO.thr hk (by decide)) (by decide) (fun q => nomatch q)
  · refine r_goto (tgt := 15) C d_L_deliver_6 (by decide) ?_
    refine r_iconst C d_L_deliver_15 (by decide) ?_
    exact r_iret C d_L_deliver_16 (fun _ => LO.ret he hP) (by decide) (fun q => nomatch q)
set_option maxHeartbeats 1000000 in
theorem c_L_endStock {l : Launch} (hl : l.stackTraces = false) {w : XW} {h : AH} {a : Int} (hn : 0 ≤ h 7 0 2 ∧ h 7 0 2 ≤ 12) (hu : ∀ k : Nat, (k : Int) < h 7 0 2 → 0 ≤ h 8 0 k ∧ h 8 0 k ≤ 1000) : AM l y_L_endStock (wsM y_L_endStock b_L_endStock 3 (some .int) [(0, 5, 8, 13)]) false (rmV 4 1) w [vO 1 0, vI a] h (LO (if a < -1 ∨ sumF (h 7 0 2).toNat (h 8 0) < a then some 0 else none) (fun k => if k = 0 then 1 else 0) h (fun h' => h' = hset (hset h 1 0 12 0) 7 0 3 a)) := by
  refine AM.of hl (by decide +kernel) (Nat.le_of_ble_eq_true rfl) fun x hx C _ => ?_
  have hek : ∀ k, (if a < -1 ∨ sumF (h 7 0 2).toNat (h 8 0) < a then some 0 else none) = some k → k = 0 := by
    intro k hk
    revert hk
    (repeat' split) <;> intro hk <;> first | cases hk | skip
    all_goals first | decide | omega | simp
  refine r_aload_n (i0 := 0) C d_L_endStock_0 rfl rfl ?_
  refine r_iload_n (i0 := 1) C d_L_endStock_1 rfl rfl ?_
  refine r_callVc C cl_L_36 im_H_endStock rfl rfl (c_H_endStock hx hn hu) rfl rfl d_L_endStock_2 (by decide) (Nat.le_of_ble_eq_true rfl) (ct := [(⟨0, 5, 8, 13⟩, 0)]) rfl ⟨⟨by decide, by decide, by decide, ck_13⟩, trivial⟩ (fun k hk => ?_) (fun he h' hP => ?_)
  · cases hek k hk
    refine ⟨by decide, 8, rfl, fun a => ?_⟩
    refine r_astore_nX (i0 := 2) C d_L_endStock_8 rfl (by decide) ?_
    refine r_iconst C d_L_endStock_9 (by decide) ?_
    exact r_iret C d_L_endStock_10 (fun _ => LO.thr hk (by decide)) (by decide) (fun q => nomatch q)
  · refine r_goto (tgt := 11) C d_L_endStock_5 (by decide) ?_
    refine r_iconst C d_L_endStock_11 (by decide) ?_
    exact r_iret C d_L_endStock_12 (fun _ => LO.ret he hP) (by decide) (fun q => nomatch q)
set_option maxHeartbeats 1000000 in
theorem c_L_sideCosts {l : Launch} (hl : l.stackTraces = false) {w : XW} {h : AH} {a : Int} : AM l y_L_sideCosts (wsM y_L_sideCosts b_L_sideCosts 3 (some .int) [(0, 5, 8, 13)]) false (rmV 4 1) w [vO 1 0, vI a] h (LO (if a < 0 ∨ 20000 < a then some 0 else none) (fun k => if k = 0 then 1 else 0) h (fun h' => h' = hset (hset h 1 0 12 0) 1 0 8 a)) := by
  refine AM.of hl (by decide +kernel) (Nat.le_of_ble_eq_true rfl) fun x hx C _ => ?_
  have hek : ∀ k, (if a < 0 ∨ 20000 < a then some 0 else none) = some k → k = 0 := by
    intro k hk
    revert hk
    (repeat' split) <;> intro hk <;> first | cases hk | skip
    all_goals first | decide | omega | simp
  refine r_aload_n (i0 := 0) C d_L_sideCosts_0 rfl rfl ?_
  refine r_iload_n (i0 := 1) C d_L_sideCosts_1 rfl rfl ?_
  refine r_callVc C cl_L_40 im_H_sideCosts rfl rfl (c_H_sideCosts hx ) rfl rfl d_L_sideCosts_2 (by decide) (Nat.le_of_ble_eq_true rfl) (ct := [(⟨0, 5, 8, 13⟩, 0)]) rfl ⟨⟨by decide, by decide, by decide, ck_13⟩, trivial⟩ (fun k hk => ?_) (fun he h' hP => ?_)
  · cases hek k hk
    refine ⟨by decide, 8, rfl, fun a => ?_⟩
    refine r_astore_nX (i0 := 2) C d_L_sideCosts_8 rfl (by decide) ?_
    refine r_iconst C d_L_sideCosts_9 (by decide) ?_
    exact r_iret C d_L_sideCosts_10 (fun _ => LO.thr hk (by decide)) (by decide) (fun q => nomatch q)
  · refine r_goto (tgt := 11) C d_L_sideCosts_5 (by decide) ?_
    refine r_iconst C d_L_sideCosts_11 (by decide) ?_
    exact r_iret C d_L_sideCosts_12 (fun _ => LO.ret he hP) (by decide) (fun q => nomatch q)
set_option maxHeartbeats 1000000 in
theorem c_L_water {l : Launch} (hl : l.stackTraces = false) {w : XW} {h : AH} {a b : Int} : AM l y_L_water (wsM y_L_water b_L_water 4 (some .int) [(0, 6, 9, 13)]) false (rmV 4 1) w [vO 1 0, vI a, vI b] h (LO (if a < -1 ∨ 10000000 < a ∨ b < 0 ∨ 100 < b then some 0 else none) (fun k => if k = 0 then 1 else 0) h (fun h' => h' = hset (hset (hset h 1 0 12 0) 1 0 9 a) 1 0 10 b)) := by
  refine AM.of hl (by decide +kernel) (Nat.le_of_ble_eq_true rfl) fun x hx C _ => ?_
  have hek : ∀ k, (if a < -1 ∨ 10000000 < a ∨ b < 0 ∨ 100 < b then some 0 else none) = some k → k = 0 := by
    intro k hk
    revert hk
    (repeat' split) <;> intro hk <;> first | cases hk | skip
    all_goals first | decide | omega | simp
  refine r_aload_n (i0 := 0) C d_L_water_0 rfl rfl ?_
  refine r_iload_n (i0 := 1) C d_L_water_1 rfl rfl ?_
  refine r_iload_n (i0 := 2) C d_L_water_2 rfl rfl ?_
  refine r_callVc C cl_L_43 im_H_water rfl rfl (c_H_water hx ) rfl rfl d_L_water_3 (by decide) (Nat.le_of_ble_eq_true rfl) (ct := [(⟨0, 6, 9, 13⟩, 0)]) rfl ⟨⟨by decide, by decide, by decide, ck_13⟩, trivial⟩ (fun k hk => ?_) (fun he h' hP => ?_)
  · cases hek k hk
    refine ⟨by decide, 9, rfl, fun a => ?_⟩
    refine r_astore_nX (i0 := 3) C d_L_water_9 rfl (by decide) ?_
    refine r_iconst C d_L_water_10 (by decide) ?_
    exact r_iret C d_L_water_11 (fun _ => LO.thr hk (by decide)) (by decide) (fun q => nomatch q)
  · refine r_goto (tgt := 12) C d_L_water_6 (by decide) ?_
    refine r_iconst C d_L_water_12 (by decide) ?_
    exact r_iret C d_L_water_13 (fun _ => LO.ret he hP) (by decide) (fun q => nomatch q)
set_option maxHeartbeats 1000000 in
theorem c_L_permille {l : Launch} (hl : l.stackTraces = false) {w : XW} {h : AH} {a : Int} : AM l y_L_permille (wsM y_L_permille b_L_permille 3 (some .int) [(0, 5, 8, 13)]) false (rmV 4 1) w [vO 1 0, vI a] h (LO (if a < 300 ∨ 700 < a then some 0 else none) (fun k => if k = 0 then 1 else 0) h (fun h' => h' = hset (hset h 1 0 12 0) 1 0 11 a)) := by
  refine AM.of hl (by decide +kernel) (Nat.le_of_ble_eq_true rfl) fun x hx C _ => ?_
  have hek : ∀ k, (if a < 300 ∨ 700 < a then some 0 else none) = some k → k = 0 := by
    intro k hk
    revert hk
    (repeat' split) <;> intro hk <;> first | cases hk | skip
    all_goals first | decide | omega | simp
  refine r_aload_n (i0 := 0) C d_L_permille_0 rfl rfl ?_
  refine r_iload_n (i0 := 1) C d_L_permille_1 rfl rfl ?_
  refine r_callVc C cl_L_46 im_H_permille rfl rfl (c_H_permille hx ) rfl rfl d_L_permille_2 (by decide) (Nat.le_of_ble_eq_true rfl) (ct := [(⟨0, 5, 8, 13⟩, 0)]) rfl ⟨⟨by decide, by decide, by decide, ck_13⟩, trivial⟩ (fun k hk => ?_) (fun he h' hP => ?_)
  · cases hek k hk
    refine ⟨by decide, 8, rfl, fun a => ?_⟩
    refine r_astore_nX (i0 := 2) C d_L_permille_8 rfl (by decide) ?_
    refine r_iconst C d_L_permille_9 (by decide) ?_
    exact r_iret C d_L_permille_10 (fun _ => LO.thr hk (by decide)) (by decide) (fun q => nomatch q)
  · refine r_goto (tgt := 11) C d_L_permille_5 (by decide) ?_
    refine r_iconst C d_L_permille_11 (by decide) ?_
    exact r_iret C d_L_permille_12 (fun _ => LO.ret he hP) (by decide) (fun q => nomatch q)
set_option maxHeartbeats 1000000 in
theorem c_L_degrees {l : Launch} (hl : l.stackTraces = false) {w : XW} {h : AH} {a b : Int} : AM l y_L_degrees (wsM y_L_degrees b_L_degrees 4 (some .int) [(0, 6, 9, 21), (0, 6, 12, 13)]) false (rmV 4 1) w [vO 1 0, vI a, vI b] h (LO (if a < 0 ∨ 11 < a then some 1 else if b < 0 ∨ 100 < b then some 0 else none) (fun k => if k = 1 then 1 else if k = 0 then 2 else 0) h (fun h' => h' = hset (hset h 1 0 12 0) 29 0 a.toNat b)) := by
  refine AM.of hl (by decide +kernel) (Nat.le_of_ble_eq_true rfl) fun x hx C _ => ?_
  have hek : ∀ k, (if a < 0 ∨ 11 < a then some 1 else if b < 0 ∨ 100 < b then some 0 else none) = some k → k = 1 ∨ k = 0 := by
    intro k hk
    revert hk
    (repeat' split) <;> intro hk <;> first | cases hk | skip
    all_goals first | decide | omega | simp
  refine r_aload_n (i0 := 0) C d_L_degrees_0 rfl rfl ?_
  refine r_iload_n (i0 := 1) C d_L_degrees_1 rfl rfl ?_
  refine r_iload_n (i0 := 2) C d_L_degrees_2 rfl rfl ?_
  refine r_callVc C cl_L_49 im_H_degrees rfl rfl (c_H_degrees hx ) rfl rfl d_L_degrees_3 (by decide) (Nat.le_of_ble_eq_true rfl) (ct := [(⟨0, 6, 9, 21⟩, 1), (⟨0, 6, 12, 13⟩, 0)]) rfl ⟨⟨by decide, by decide, by decide, ck_21⟩, ⟨by decide, by decide, by decide, ck_13⟩, trivial⟩ (fun k hk => ?_) (fun he h' hP => ?_)
  · rcases hek k hk with rfl | rfl
    · refine ⟨by decide, 9, rfl, fun a => ?_⟩
      refine r_astore_nX (i0 := 3) C d_L_degrees_9 rfl (by decide) ?_
      refine r_iconst C d_L_degrees_10 (by decide) ?_
      exact r_iret C d_L_degrees_11 (fun _ => LO.thr hk (by decide)) (by decide) (fun q => nomatch q)
    · refine ⟨by decide, 12, rfl, fun a => ?_⟩
      refine r_astore_nX (i0 := 3) C d_L_degrees_12 rfl (by decide) ?_
      refine r_iconst C d_L_degrees_13 (by decide) ?_
      exact r_iret C d_L_degrees_14 (fun _ => LO.thr hk (by decide)) (by decide) (fun q => nomatch q)
  · refine r_goto (tgt := 15) C d_L_degrees_6 (by decide) ?_
    refine r_iconst C d_L_degrees_15 (by decide) ?_
    exact r_iret C d_L_degrees_16 (fun _ => LO.ret he hP) (by decide) (fun q => nomatch q)
set_option maxHeartbeats 1000000 in
theorem c_L_prepay {l : Launch} (hl : l.stackTraces = false) {w : XW} {h : AH} {a b : Int} (ht : 0 ≤ h 23 0 4 ∧ h 23 0 4 ≤ 20) (hp : ∀ k : Nat, k < 20 → 0 ≤ h 27 0 k ∧ h 27 0 k ≤ 1000000) : AM l y_L_prepay (wsM y_L_prepay b_L_prepay 4 (some .int) [(0, 6, 9, 21), (0, 6, 12, 13)]) false (rmV 4 1) w [vO 1 0, vI a, vI b] h (LO (if a < 0 ∨ h 23 0 4 ≤ a then some 1 else if b < 0 ∨ 20000 < b ∨ 1000000 < h 27 0 a.toNat + b then some 0 else none) (fun k => if k = 1 then 1 else if k = 0 then 2 else 0) h (fun h' => h' = hset h 27 0 a.toNat (h 27 0 a.toNat + b))) := by
  refine AM.of hl (by decide +kernel) (Nat.le_of_ble_eq_true rfl) fun x hx C _ => ?_
  have hek : ∀ k, (if a < 0 ∨ h 23 0 4 ≤ a then some 1 else if b < 0 ∨ 20000 < b ∨ 1000000 < h 27 0 a.toNat + b then some 0 else none) = some k → k = 1 ∨ k = 0 := by
    intro k hk
    revert hk
    (repeat' split) <;> intro hk <;> first | cases hk | skip
    all_goals first | decide | omega | simp
  refine r_aload_n (i0 := 0) C d_L_prepay_0 rfl rfl ?_
  refine r_iload_n (i0 := 1) C d_L_prepay_1 rfl rfl ?_
  refine r_iload_n (i0 := 2) C d_L_prepay_2 rfl rfl ?_
  refine r_callVc C cl_L_52 im_H_prepay rfl rfl (c_H_prepay hx ht hp) rfl rfl d_L_prepay_3 (by decide) (Nat.le_of_ble_eq_true rfl) (ct := [(⟨0, 6, 9, 21⟩, 1), (⟨0, 6, 12, 13⟩, 0)]) rfl ⟨⟨by decide, by decide, by decide, ck_21⟩, ⟨by decide, by decide, by decide, ck_13⟩, trivial⟩ (fun k hk => ?_) (fun he h' hP => ?_)
  · rcases hek k hk with rfl | rfl
    · refine ⟨by decide, 9, rfl, fun a => ?_⟩
      refine r_astore_nX (i0 := 3) C d_L_prepay_9 rfl (by decide) ?_
      refine r_iconst C d_L_prepay_10 (by decide) ?_
      exact r_iret C d_L_prepay_11 (fun _ => LO.thr hk (by decide)) (by decide) (fun q => nomatch q)
    · refine ⟨by decide, 12, rfl, fun a => ?_⟩
      refine r_astore_nX (i0 := 3) C d_L_prepay_12 rfl (by decide) ?_
      refine r_iconst C d_L_prepay_13 (by decide) ?_
      exact r_iret C d_L_prepay_14 (fun _ => LO.thr hk (by decide)) (by decide) (fun q => nomatch q)
  · refine r_goto (tgt := 15) C d_L_prepay_6 (by decide) ?_
    refine r_iconst C d_L_prepay_15 (by decide) ?_
    exact r_iret C d_L_prepay_16 (fun _ => LO.ret he hP) (by decide) (fun q => nomatch q)
set_option maxHeartbeats 1000000 in
theorem c_L_amount {l : Launch} (hl : l.stackTraces = false) {w : XW} {h : AH} {a b : Int} (ht : 0 ≤ h 23 0 4 ∧ h 23 0 4 ≤ 20) (ho : ∀ i j : Nat, i < 3 → j < 21 → 0 ≤ h 25 i j ∧ h 25 i j ≤ 20000000) : AM l y_L_amount (wsM y_L_amount b_L_amount 5 (some .int) [(0, 10, 13, 27), (0, 10, 17, 21)]) false (rmV 4 1) w [vO 1 0, vI a, vI b, vO 70 0] h (LO (if h 1 0 12 = 0 then some 2 else if a < -1 ∨ h 23 0 4 ≤ a then some 1 else if b < 0 ∨ 3 < b then some 1 else none) (fun k => if k = 2 then 1 else if k = 1 then 2 else 0) h (fun h' => h' = hset h 70 0 0 (if b = 3 then (h 25 0 (a + 1).toNat + h 25 1 (a + 1).toNat + h 25 2 (a + 1).toNat) else (h 25 b.toNat (a + 1).toNat)))) := by
  refine AM.of hl (by decide +kernel) (Nat.le_of_ble_eq_true rfl) fun x hx C _ => ?_
  have hek : ∀ k, (if h 1 0 12 = 0 then some 2 else if a < -1 ∨ h 23 0 4 ≤ a then some 1 else if b < 0 ∨ 3 < b then some 1 else none) = some k → k = 2 ∨ k = 1 := by
    intro k hk
    revert hk
    (repeat' split) <;> intro hk <;> first | cases hk | skip
    all_goals first | decide | omega | simp
  refine r_aload_n (i0 := 3) C d_L_amount_0 rfl rfl ?_
  refine r_iconst C d_L_amount_1 (by decide) ?_
  refine r_aload_n (i0 := 0) C d_L_amount_2 rfl rfl ?_
  refine r_iload_n (i0 := 1) C d_L_amount_3 rfl rfl ?_
  refine r_iload_n (i0 := 2) C d_L_amount_4 rfl rfl ?_
  refine r_callVc C cl_L_55 im_H_amount rfl rfl (c_H_amount hx ht ho) rfl rfl d_L_amount_5 (by decide) (Nat.le_of_ble_eq_true rfl) (ct := [(⟨0, 10, 13, 27⟩, 2), (⟨0, 10, 17, 21⟩, 1)]) rfl ⟨⟨by decide, by decide, by decide, ck_27⟩, ⟨by decide, by decide, by decide, ck_21⟩, trivial⟩ (fun k hk => ?_) (fun he h' hP => ?_)
  · rcases hek k hk with rfl | rfl
    · refine ⟨by decide, 13, rfl, fun a => ?_⟩
      refine r_astoreX C d_L_amount_13 (by decide) ?_
      refine r_iconst C d_L_amount_15 (by decide) ?_
      exact r_iret C d_L_amount_16 (fun _ => LO.thr hk (by decide)) (by decide) (fun q => nomatch q)
    · refine ⟨by decide, 17, rfl, fun a => ?_⟩
      refine r_astoreX C d_L_amount_17 (by decide) ?_
      refine r_iconst C d_L_amount_19 (by decide) ?_
      exact r_iret C d_L_amount_20 (fun _ => LO.thr hk (by decide)) (by decide) (fun q => nomatch q)
  · have ev : (if b = 3 then vI (h 25 0 (a + 1).toNat + h 25 1 (a + 1).toNat + h 25 2 (a + 1).toNat) else vI (h 25 b.toNat (a + 1).toNat)) = vI (if b = 3 then (h 25 0 (a + 1).toNat + h 25 1 (a + 1).toNat + h 25 2 (a + 1).toNat) else (h 25 b.toNat (a + 1).toNat)) := by split <;> rfl
    rw [ev]
    refine r_i2l C d_L_amount_8 ?_
    refine r_lastore (ln := 1) C d_L_amount_9 rfl (fun _ => rfl) rfl (by omega) ?_
    refine r_goto (tgt := 21) C d_L_amount_10 (by decide) ?_
    refine r_iconst C d_L_amount_21 (by decide) ?_
    exact r_iret C d_L_amount_22 (fun _ => LO.ret he (by rw [hP]; rfl)) (by decide) (fun q => nomatch q)
set_option maxHeartbeats 1000000 in
theorem c_L_paid {l : Launch} (hl : l.stackTraces = false) {w : XW} {h : AH} {a : Int} (ht : 0 ≤ h 23 0 4 ∧ h 23 0 4 ≤ 20) : AM l y_L_paid (wsM y_L_paid b_L_paid 4 (some .int) [(0, 9, 12, 21)]) false (rmV 4 1) w [vO 1 0, vI a, vO 70 0] h (LO (if a < 0 ∨ h 23 0 4 ≤ a then some 1 else none) (fun k => if k = 1 then 1 else 0) h (fun h' => h' = hset h 70 0 0 (h 27 0 a.toNat))) := by
  refine AM.of hl (by decide +kernel) (Nat.le_of_ble_eq_true rfl) fun x hx C _ => ?_
  have hek : ∀ k, (if a < 0 ∨ h 23 0 4 ≤ a then some 1 else none) = some k → k = 1 := by
    intro k hk
    revert hk
    (repeat' split) <;> intro hk <;> first | cases hk | skip
    all_goals first | decide | omega | simp
  refine r_aload_n (i0 := 2) C d_L_paid_0 rfl rfl ?_
  refine r_iconst C d_L_paid_1 (by decide) ?_
  refine r_aload_n (i0 := 0) C d_L_paid_2 rfl rfl ?_
  refine r_iload_n (i0 := 1) C d_L_paid_3 rfl rfl ?_
  refine r_callVc C cl_L_58 im_H_paid rfl rfl (c_H_paid hx ht) rfl rfl d_L_paid_4 (by decide) (Nat.le_of_ble_eq_true rfl) (ct := [(⟨0, 9, 12, 21⟩, 1)]) rfl ⟨⟨by decide, by decide, by decide, ck_21⟩, trivial⟩ (fun k hk => ?_) (fun he h' hP => ?_)
  · cases hek k hk
    refine ⟨by decide, 12, rfl, fun a => ?_⟩
    refine r_astore_nX (i0 := 3) C d_L_paid_12 rfl (by decide) ?_
    refine r_iconst C d_L_paid_13 (by decide) ?_
    exact r_iret C d_L_paid_14 (fun _ => LO.thr hk (by decide)) (by decide) (fun q => nomatch q)
  · refine r_i2l C d_L_paid_7 ?_
    refine r_lastore (ln := 1) C d_L_paid_8 rfl (fun _ => rfl) rfl (by omega) ?_
    refine r_goto (tgt := 15) C d_L_paid_9 (by decide) ?_
    refine r_iconst C d_L_paid_15 (by decide) ?_
    exact r_iret C d_L_paid_16 (fun _ => LO.ret he (by rw [hP]; rfl)) (by decide) (fun q => nomatch q)
set_option maxHeartbeats 1000000 in
theorem c_L_part {l : Launch} (hl : l.stackTraces = false) {w : XW} {h : AH} {a : Int} : AM l y_L_part (wsM y_L_part b_L_part 4 (some .int) [(0, 9, 12, 27), (0, 9, 15, 21)]) false (rmV 4 1) w [vO 1 0, vI a, vO 70 0] h (LO (if h 1 0 12 = 0 then some 2 else if a < 0 ∨ 4 < a then some 1 else none) (fun k => if k = 2 then 1 else if k = 1 then 2 else 0) h (fun h' => h' = hset h 70 0 0 (h 30 0 a.toNat))) := by
  refine AM.of hl (by decide +kernel) (Nat.le_of_ble_eq_true rfl) fun x hx C _ => ?_
  have hek : ∀ k, (if h 1 0 12 = 0 then some 2 else if a < 0 ∨ 4 < a then some 1 else none) = some k → k = 2 ∨ k = 1 := by
    intro k hk
    revert hk
    (repeat' split) <;> intro hk <;> first | cases hk | skip
    all_goals first | decide | omega | simp
  refine r_aload_n (i0 := 2) C d_L_part_0 rfl rfl ?_
  refine r_iconst C d_L_part_1 (by decide) ?_
  refine r_aload_n (i0 := 0) C d_L_part_2 rfl rfl ?_
  refine r_iload_n (i0 := 1) C d_L_part_3 rfl rfl ?_
  refine r_callVc C cl_L_62 im_H_part rfl rfl (c_H_part hx ) rfl rfl d_L_part_4 (by decide) (Nat.le_of_ble_eq_true rfl) (ct := [(⟨0, 9, 12, 27⟩, 2), (⟨0, 9, 15, 21⟩, 1)]) rfl ⟨⟨by decide, by decide, by decide, ck_27⟩, ⟨by decide, by decide, by decide, ck_21⟩, trivial⟩ (fun k hk => ?_) (fun he h' hP => ?_)
  · rcases hek k hk with rfl | rfl
    · refine ⟨by decide, 12, rfl, fun a => ?_⟩
      refine r_astore_nX (i0 := 3) C d_L_part_12 rfl (by decide) ?_
      refine r_iconst C d_L_part_13 (by decide) ?_
      exact r_iret C d_L_part_14 (fun _ => LO.thr hk (by decide)) (by decide) (fun q => nomatch q)
    · refine ⟨by decide, 15, rfl, fun a => ?_⟩
      refine r_astore_nX (i0 := 3) C d_L_part_15 rfl (by decide) ?_
      refine r_iconst C d_L_part_16 (by decide) ?_
      exact r_iret C d_L_part_17 (fun _ => LO.thr hk (by decide)) (by decide) (fun q => nomatch q)
  · refine r_i2l C d_L_part_7 ?_
    refine r_lastore (ln := 1) C d_L_part_8 rfl (fun _ => rfl) rfl (by omega) ?_
    refine r_goto (tgt := 18) C d_L_part_9 (by decide) ?_
    refine r_iconst C d_L_part_18 (by decide) ?_
    exact r_iret C d_L_part_19 (fun _ => LO.ret he (by rw [hP]; rfl)) (by decide) (fun q => nomatch q)
set_option maxHeartbeats 1000000 in
theorem c_L_replaced {l : Launch} (hl : l.stackTraces = false) {w : XW} {h : AH} {a : Int} (hc : 0 ≤ h 2 0 1 ∧ h 2 0 1 ≤ 6) (hF : FIc h) : AM l y_L_replaced (wsM y_L_replaced b_L_replaced 4 (some .int) [(0, 9, 12, 21)]) false (rmV 5 1) w [vO 1 0, vI a, vO 70 0] h (LO (if a < 0 ∨ h 2 0 1 ≤ a then some 1 else none) (fun k => if k = 1 then 1 else 0) h (fun h' => h' = hset (lC h) 70 0 0 (kC h a.toNat))) := by
  refine AM.of hl (by decide +kernel) (Nat.le_of_ble_eq_true rfl) fun x hx C _ => ?_
  have hek : ∀ k, (if a < 0 ∨ h 2 0 1 ≤ a then some 1 else none) = some k → k = 1 := by
    intro k hk
    revert hk
    (repeat' split) <;> intro hk <;> first | cases hk | skip
    all_goals first | decide | omega | simp
  refine r_aload_n (i0 := 2) C d_L_replaced_0 rfl rfl ?_
  refine r_iconst C d_L_replaced_1 (by decide) ?_
  refine r_aload_n (i0 := 0) C d_L_replaced_2 rfl rfl ?_
  refine r_iload_n (i0 := 1) C d_L_replaced_3 rfl rfl ?_
  refine r_callVc C cl_L_65 im_H_replaced rfl rfl (c_H_replaced hx hc hF) rfl rfl d_L_replaced_4 (by decide) (Nat.le_of_ble_eq_true rfl) (ct := [(⟨0, 9, 12, 21⟩, 1)]) rfl ⟨⟨by decide, by decide, by decide, ck_21⟩, trivial⟩ (fun k hk => ?_) (fun he h' hP => ?_)
  · cases hek k hk
    refine ⟨by decide, 12, rfl, fun a => ?_⟩
    refine r_astore_nX (i0 := 3) C d_L_replaced_12 rfl (by decide) ?_
    refine r_iconst C d_L_replaced_13 (by decide) ?_
    exact r_iret C d_L_replaced_14 (fun _ => LO.thr hk (by decide)) (by decide) (fun q => nomatch q)
  · refine r_i2l C d_L_replaced_7 ?_
    refine r_lastore (ln := 1) C d_L_replaced_8 rfl (fun _ => rfl) rfl (by omega) ?_
    refine r_goto (tgt := 15) C d_L_replaced_9 (by decide) ?_
    refine r_iconst C d_L_replaced_15 (by decide) ?_
    exact r_iret C d_L_replaced_16 (fun _ => LO.ret he (by rw [hP]; rfl)) (by decide) (fun q => nomatch q)
set_option maxHeartbeats 1000000 in
theorem c_L_send {l : Launch} (hl : l.stackTraces = false) {w : XW} {h : AH} (hp : POk h) : AM l y_L_send (wsM y_L_send b_L_send 3 (some .int) [(0, 8, 11, 27)]) false (rmV 5 1) w [vO 1 0, vO 70 0] h (LO (if h 1 0 12 = 0 then some 2 else none) (fun k => if k = 2 then 1 else 0) h (fun h' => h' = hset (PO h ((h 23 0 4) + 1).toNat) 70 0 0 (sumF ((h 23 0 4) + 1).toNat (dfC h)))) := by
  refine AM.of hl (by decide +kernel) (Nat.le_of_ble_eq_true rfl) fun x hx C _ => ?_
  have hek : ∀ k, (if h 1 0 12 = 0 then some 2 else none) = some k → k = 2 := by
    intro k hk
    revert hk
    (repeat' split) <;> intro hk <;> first | cases hk | skip
    all_goals first | decide | omega | simp
  refine r_aload_n (i0 := 1) C d_L_send_0 rfl rfl ?_
  refine r_iconst C d_L_send_1 (by decide) ?_
  refine r_aload_n (i0 := 0) C d_L_send_2 rfl rfl ?_
  refine r_callVc C cl_L_68 im_H_send rfl rfl (c_H_send hx hp) rfl rfl d_L_send_3 (by decide) (Nat.le_of_ble_eq_true rfl) (ct := [(⟨0, 8, 11, 27⟩, 2)]) rfl ⟨⟨by decide, by decide, by decide, ck_27⟩, trivial⟩ (fun k hk => ?_) (fun he h' hP => ?_)
  · cases hek k hk
    refine ⟨by decide, 11, rfl, fun a => ?_⟩
    refine r_astore_nX (i0 := 2) C d_L_send_11 rfl (by decide) ?_
    refine r_iconst C d_L_send_12 (by decide) ?_
    exact r_iret C d_L_send_13 (fun _ => LO.thr hk (by decide)) (by decide) (fun q => nomatch q)
  · refine r_i2l C d_L_send_6 ?_
    refine r_lastore (ln := 1) C d_L_send_7 rfl (fun _ => rfl) rfl (by omega) ?_
    refine r_goto (tgt := 14) C d_L_send_8 (by decide) ?_
    refine r_iconst C d_L_send_14 (by decide) ?_
    exact r_iret C d_L_send_15 (fun _ => LO.ret he (by rw [hP]; rfl)) (by decide) (fun q => nomatch q)
set_option maxHeartbeats 1000000 in
theorem c_L_sent {l : Launch} (hl : l.stackTraces = false) {w : XW} {h : AH} {a : Int} (ht : 0 ≤ h 23 0 4 ∧ h 23 0 4 ≤ 20) : AM l y_L_sent (wsM y_L_sent b_L_sent 4 (some .int) [(0, 9, 12, 21)]) false (rmV 4 1) w [vO 1 0, vI a, vO 70 0] h (LO (if a < -1 ∨ h 23 0 4 ≤ a then some 1 else none) (fun k => if k = 1 then 1 else 0) h (fun h' => h' = hset h 70 0 0 (h 26 0 (a + 1).toNat))) := by
  refine AM.of hl (by decide +kernel) (Nat.le_of_ble_eq_true rfl) fun x hx C _ => ?_
  have hek : ∀ k, (if a < -1 ∨ h 23 0 4 ≤ a then some 1 else none) = some k → k = 1 := by
    intro k hk
    revert hk
    (repeat' split) <;> intro hk <;> first | cases hk | skip
    all_goals first | decide | omega | simp
  refine r_aload_n (i0 := 2) C d_L_sent_0 rfl rfl ?_
  refine r_iconst C d_L_sent_1 (by decide) ?_
  refine r_aload_n (i0 := 0) C d_L_sent_2 rfl rfl ?_
  refine r_iload_n (i0 := 1) C d_L_sent_3 rfl rfl ?_
  refine r_callVc C cl_L_72 im_H_sent rfl rfl (c_H_sent hx ht) rfl rfl d_L_sent_4 (by decide) (Nat.le_of_ble_eq_true rfl) (ct := [(⟨0, 9, 12, 21⟩, 1)]) rfl ⟨⟨by decide, by decide, by decide, ck_21⟩, trivial⟩ (fun k hk => ?_) (fun he h' hP => ?_)
  · cases hek k hk
    refine ⟨by decide, 12, rfl, fun a => ?_⟩
    refine r_astore_nX (i0 := 3) C d_L_sent_12 rfl (by decide) ?_
    refine r_iconst C d_L_sent_13 (by decide) ?_
    exact r_iret C d_L_sent_14 (fun _ => LO.thr hk (by decide)) (by decide) (fun q => nomatch q)
  · refine r_i2l C d_L_sent_7 ?_
    refine r_lastore (ln := 1) C d_L_sent_8 rfl (fun _ => rfl) rfl (by omega) ?_
    refine r_goto (tgt := 15) C d_L_sent_9 (by decide) ?_
    refine r_iconst C d_L_sent_15 (by decide) ?_
    exact r_iret C d_L_sent_16 (fun _ => LO.ret he (by rw [hP]; rfl)) (by decide) (fun q => nomatch q)
set_option maxHeartbeats 1000000 in
theorem c_L_closeYear {l : Launch} (hl : l.stackTraces = false) {w : XW} {h : AH} (hc : 0 ≤ h 2 0 1 ∧ h 2 0 1 ≤ 6) (hF : FIc h) (hp : POk h) (hL : 0 ≤ h 7 0 2) (hU : FUv (h 7 0 2).toNat (h 8 0) (h 9 0)) (hs : -1 ≤ h 7 0 3 ∧ h 7 0 3 ≤ 12000) : AM l y_L_closeYear (wsM y_L_closeYear b_L_closeYear 3 (some .int) [(0, 8, 11, 27)]) false (rmV 6 1) w [vO 1 0, vO 70 0] h (LO (if h 1 0 12 = 0 then some 2 else none) (fun k => if k = 2 then 1 else 0) h (fun h' => h' = hset (cyH h) 70 0 0 (sumF (nuC h) (krow (vK h) (vK h) (h 8 0) (h 7 0 2).toNat)))) := by
  refine AM.of hl (by decide +kernel) (Nat.le_of_ble_eq_true rfl) fun x hx C _ => ?_
  have hek : ∀ k, (if h 1 0 12 = 0 then some 2 else none) = some k → k = 2 := by
    intro k hk
    revert hk
    (repeat' split) <;> intro hk <;> first | cases hk | skip
    all_goals first | decide | omega | simp
  refine r_aload_n (i0 := 1) C d_L_closeYear_0 rfl rfl ?_
  refine r_iconst C d_L_closeYear_1 (by decide) ?_
  refine r_aload_n (i0 := 0) C d_L_closeYear_2 rfl rfl ?_
  refine r_callVc C cl_L_75 im_H_closeYear rfl rfl (c_H_closeYear hx hc hF hp hL hU hs) rfl rfl d_L_closeYear_3 (by decide) (Nat.le_of_ble_eq_true rfl) (ct := [(⟨0, 8, 11, 27⟩, 2)]) rfl ⟨⟨by decide, by decide, by decide, ck_27⟩, trivial⟩ (fun k hk => ?_) (fun he h' hP => ?_)
  · cases hek k hk
    refine ⟨by decide, 11, rfl, fun a => ?_⟩
    refine r_astore_nX (i0 := 2) C d_L_closeYear_11 rfl (by decide) ?_
    refine r_iconst C d_L_closeYear_12 (by decide) ?_
    exact r_iret C d_L_closeYear_13 (fun _ => LO.thr hk (by decide)) (by decide) (fun q => nomatch q)
  · refine r_i2l C d_L_closeYear_6 ?_
    refine r_lastore (ln := 1) C d_L_closeYear_7 rfl (fun _ => rfl) rfl (by omega) ?_
    refine r_goto (tgt := 14) C d_L_closeYear_8 (by decide) ?_
    refine r_iconst C d_L_closeYear_14 (by decide) ?_
    exact r_iret C d_L_closeYear_15 (fun _ => LO.ret he (by rw [hP]; rfl)) (by decide) (fun q => nomatch q)
set_option maxHeartbeats 1000000 in
theorem c_L_known {l : Launch} (hl : l.stackTraces = false) {w : XW} {h : AH} {a : Int} (hc : 0 ≤ h 2 0 1 ∧ h 2 0 1 ≤ 6) : AM l y_L_known (wsM y_L_known b_L_known 4 (some .int) [(0, 9, 12, 21)]) false (rmV 4 1) w [vO 1 0, vI a, vO 70 0] h (LO (if a < 0 ∨ h 2 0 1 ≤ a then some 1 else none) (fun k => if k = 1 then 1 else 0) h (fun h' => h' = hset h 70 0 0 (h 4 a.toNat 4))) := by
  refine AM.of hl (by decide +kernel) (Nat.le_of_ble_eq_true rfl) fun x hx C _ => ?_
  have hek : ∀ k, (if a < 0 ∨ h 2 0 1 ≤ a then some 1 else none) = some k → k = 1 := by
    intro k hk
    revert hk
    (repeat' split) <;> intro hk <;> first | cases hk | skip
    all_goals first | decide | omega | simp
  refine r_aload_n (i0 := 2) C d_L_known_0 rfl rfl ?_
  refine r_iconst C d_L_known_1 (by decide) ?_
  refine r_aload_n (i0 := 0) C d_L_known_2 rfl rfl ?_
  refine r_iload_n (i0 := 1) C d_L_known_3 rfl rfl ?_
  refine r_callVc C cl_L_78 im_H_known rfl rfl (c_H_known hx hc) rfl rfl d_L_known_4 (by decide) (Nat.le_of_ble_eq_true rfl) (ct := [(⟨0, 9, 12, 21⟩, 1)]) rfl ⟨⟨by decide, by decide, by decide, ck_21⟩, trivial⟩ (fun k hk => ?_) (fun he h' hP => ?_)
  · cases hek k hk
    refine ⟨by decide, 12, rfl, fun a => ?_⟩
    refine r_astore_nX (i0 := 3) C d_L_known_12 rfl (by decide) ?_
    refine r_iconst C d_L_known_13 (by decide) ?_
    exact r_iret C d_L_known_14 (fun _ => LO.thr hk (by decide)) (by decide) (fun q => nomatch q)
  · refine r_i2l C d_L_known_7 ?_
    refine r_lastore (ln := 1) C d_L_known_8 rfl (fun _ => rfl) rfl (by omega) ?_
    refine r_goto (tgt := 15) C d_L_known_9 (by decide) ?_
    refine r_iconst C d_L_known_15 (by decide) ?_
    exact r_iret C d_L_known_16 (fun _ => LO.ret he (by rw [hP]; rfl)) (by decide) (fun q => nomatch q)

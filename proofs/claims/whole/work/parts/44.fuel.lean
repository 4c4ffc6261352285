/-! Contracts: fuel. -/
set_option maxHeartbeats 1000000 in
theorem c_U_stockUnits {l : Launch} (hl : l.stackTraces = false) {w : XW} {h : AH} {a : Int} (hL : 0 ≤ h 7 0 2) (hU : FUv (h 7 0 2).toNat (h 8 0) (h 9 0)) (hs : -1 ≤ h 7 0 3 ∧ h 7 0 3 ≤ 12000) (ha : 0 ≤ a ∧ a < h 7 0 2) : AM l y_U_stockUnits (wsM y_U_stockUnits b_U_stockUnits 4 (some .int) []) true (rmV 1 0) w [vO 7 0, vI a] h (Ret (some (vI (inV (h 7 0 2).toNat (h 8 0) (h 7 0 3) a.toNat))) h) := by
  refine AM.of hl (by decide +kernel) (Nat.le_of_ble_eq_true rfl) fun x hx C _ => ?_
  have loop : ∀ (m : Nat) (j l : Int), a ≤ j → j < h 7 0 2 → (j - a).toNat = m → l = h 7 0 3 - (sumF (h 7 0 2).toNat (h 8 0) - sumF (j + 1).toNat (h 8 0)) → AW x w 4 true 0 0 (AQ x w true 0 0 (Ret (some (vI (inV (h 7 0 2).toNat (h 8 0) (h 7 0 3) a.toNat))) h)) 12 [(3, vI j), (2, vI l), (0, vO 7 0), (1, vI a)] [] h := by
    intro m
    induction m using Nat.strongRecOn with
    | _ m ih =>
    intro j l hj0 hj1 hm hl2
    refine r_iload_n (i0 := 3) C d_U_stockUnits_12 rfl rfl ?_
    refine r_iload_n (i0 := 1) C d_U_stockUnits_13 rfl rfl ?_
    refine r_icmp_le (tgt := 32) C d_U_stockUnits_14 (by decide) (fun q14 => ?_) (fun q14 => ?_)
    · have e : lfV (h 7 0 2).toNat (h 8 0) (h 7 0 3) a.toNat = l := by
        unfold lfV
        rw [hl2]
        have e1 : (j + 1).toNat = a.toNat + 1 := by omega
        rw [e1]
      have hua := (hU.2 a.toNat (by omega)).1
      refine r_iconst C d_U_stockUnits_32 (by decide) ?_
      refine r_aload_n (i0 := 0) C d_U_stockUnits_33 rfl rfl ?_
      refine r_getO C fl_U_9 d_U_stockUnits_34 rfl rfl (fun hi => hi) ?_
      refine r_iload_n (i0 := 1) C d_U_stockUnits_37 rfl rfl ?_
      refine r_iaload (ln := 12) C d_U_stockUnits_38 rfl (fun _ => rfl) rfl (by have := hU.1; omega) ?_
      refine r_iload_n (i0 := 2) C d_U_stockUnits_39 rfl rfl ?_
      refine r_callSp C cl_U_36 st_J_minI (c_J_minI hx) rfl rfl d_U_stockUnits_40 (by decide) (Nat.le_of_ble_eq_true rfl) ?_
      refine r_callSp C cl_U_42 st_J_maxI (c_J_maxI hx) rfl rfl d_U_stockUnits_43 (by decide) (Nat.le_of_ble_eq_true rfl) ?_
      exact r_iret C d_U_stockUnits_46 (fun _ => ⟨vi_e (by unfold inV inS; rw [e]; (repeat' split) <;> omega), rfl⟩) (by decide) (fun _ => ⟨rfl, rfl, rfl⟩)
    · refine r_iload_n (i0 := 2) C d_U_stockUnits_17 rfl rfl ?_
      refine r_aload_n (i0 := 0) C d_U_stockUnits_18 rfl rfl ?_
      refine r_getO C fl_U_9 d_U_stockUnits_19 rfl rfl (fun hi => hi) ?_
      refine r_iload_n (i0 := 3) C d_U_stockUnits_22 rfl rfl ?_
      refine r_iaload (ln := 12) C d_U_stockUnits_23 rfl (fun _ => rfl) rfl (by have := hU.1; omega) ?_
      refine r_isub C d_U_stockUnits_24 (by have hU1 := hU.1; have s1 := su_bd hU (n := (h 7 0 2).toNat) (by omega); have s2 := su_bd hU (n := (j + 1).toNat) (by omega); have s3 := (hU.2 j.toNat (by omega)).1; omega) ?_
      refine r_istore_n (i0 := 2) C d_U_stockUnits_25 rfl (by decide) ?_
      refine r_iinc C d_U_stockUnits_26 rfl (by decide) (by have := hU.1; omega) ?_
      refine r_goto (tgt := 12) C d_U_stockUnits_29 (by decide) ?_
      exact ih (m - 1) (by omega) (j + -1) _ (by omega) (by omega) (by omega) (by rw [hl2, sumF_int (g := (h 8 0)) (show 0 ≤ j by omega)]; have e : (j + -1 + 1).toNat = j.toNat := (by omega); rw [e]; omega)
  refine r_aload_n (i0 := 0) C d_U_stockUnits_0 rfl rfl ?_
  refine r_getI C fl_U_22 d_U_stockUnits_1 rfl ?_
  refine r_istore_n (i0 := 2) C d_U_stockUnits_4 rfl (by decide) ?_
  refine r_aload_n (i0 := 0) C d_U_stockUnits_5 rfl rfl ?_
  refine r_getI C fl_U_18 d_U_stockUnits_6 rfl ?_
  refine r_iconst C d_U_stockUnits_9 (by decide) ?_
  refine r_isub C d_U_stockUnits_10 (by have := hU.1; omega) ?_
  refine r_istore_n (i0 := 3) C d_U_stockUnits_11 rfl (by decide) ?_
  exact loop _ (h 7 0 2 - 1) _ (by omega) (by omega) rfl (by have e : (h 7 0 2 - 1 + 1).toNat = (h 7 0 2).toNat := (by omega); rw [e]; omega)
set_option maxHeartbeats 1000000 in
theorem c_R_inStock {l : Launch} (hl : l.stackTraces = false) {w : XW} {h : AH} {a : Int} (hL : 0 ≤ h 40 0 10) (hU : FUv (h 40 0 10).toNat (h 48 0) (h 49 0)) (hs : -1 ≤ h 40 0 13 ∧ h 40 0 13 ≤ 12000) (ha : 0 ≤ a ∧ a < h 40 0 10) : AM l y_R_inStock (wsM y_R_inStock b_R_inStock 4 (some .int) []) true (rmV 1 0) w [vO 40 0, vI a] h (Ret (some (vI (inV (h 40 0 10).toNat (h 48 0) (h 40 0 13) a.toNat))) h) := by
  refine AM.of hl (by decide +kernel) (Nat.le_of_ble_eq_true rfl) fun x hx C _ => ?_
  have loop : ∀ (m : Nat) (j l : Int), a ≤ j → j < h 40 0 10 → (j - a).toNat = m → l = h 40 0 13 - (sumF (h 40 0 10).toNat (h 48 0) - sumF (j + 1).toNat (h 48 0)) → AW x w 4 true 0 0 (AQ x w true 0 0 (Ret (some (vI (inV (h 40 0 10).toNat (h 48 0) (h 40 0 13) a.toNat))) h)) 12 [(3, vI j), (2, vI l), (0, vO 40 0), (1, vI a)] [] h := by
    intro m
    induction m using Nat.strongRecOn with
    | _ m ih =>
    intro j l hj0 hj1 hm hl2
    refine r_iload_n (i0 := 3) C d_R_inStock_12 rfl rfl ?_
    refine r_iload_n (i0 := 1) C d_R_inStock_13 rfl rfl ?_
    refine r_icmp_le (tgt := 32) C d_R_inStock_14 (by decide) (fun q14 => ?_) (fun q14 => ?_)
    · have e : lfV (h 40 0 10).toNat (h 48 0) (h 40 0 13) a.toNat = l := by
        unfold lfV
        rw [hl2]
        have e1 : (j + 1).toNat = a.toNat + 1 := by omega
        rw [e1]
      have hua := (hU.2 a.toNat (by omega)).1
      refine r_iload_n (i0 := 2) C d_R_inStock_32 rfl rfl ?_
      refine r_if_ge (tgt := 40) C d_R_inStock_33 (by decide) (fun q33 => ?_) (fun q33 => ?_)
      · refine r_iload_n (i0 := 2) C d_R_inStock_40 rfl rfl ?_
        refine r_aload_n (i0 := 0) C d_R_inStock_41 rfl rfl ?_
        refine r_getO C fl_R_31 d_R_inStock_42 rfl rfl (fun hi => hi) ?_
        refine r_iload_n (i0 := 1) C d_R_inStock_45 rfl rfl ?_
        refine r_iaload (ln := 12) C d_R_inStock_46 rfl (fun _ => rfl) rfl (by have := hU.1; omega) ?_
        refine r_icmp_le (tgt := 59) C d_R_inStock_47 (by decide) (fun q47 => ?_) (fun q47 => ?_)
        · refine r_iload_n (i0 := 2) C d_R_inStock_59 rfl rfl ?_
          exact r_iret C d_R_inStock_60 (fun _ => ⟨vi_e (by unfold inV inS; rw [e]; (repeat' split) <;> omega), rfl⟩) (by decide) (fun _ => ⟨rfl, rfl, rfl⟩)
        · refine r_aload_n (i0 := 0) C d_R_inStock_50 rfl rfl ?_
          refine r_getO C fl_R_31 d_R_inStock_51 rfl rfl (fun hi => hi) ?_
          refine r_iload_n (i0 := 1) C d_R_inStock_54 rfl rfl ?_
          refine r_iaload (ln := 12) C d_R_inStock_55 rfl (fun _ => rfl) rfl (by have := hU.1; omega) ?_
          refine r_goto (tgt := 60) C d_R_inStock_56 (by decide) ?_
          exact r_iret C d_R_inStock_60 (fun _ => ⟨vi_e (by unfold inV inS; rw [e]; (repeat' split) <;> omega), rfl⟩) (by decide) (fun _ => ⟨rfl, rfl, rfl⟩)
      · refine r_iconst C d_R_inStock_36 (by decide) ?_
        refine r_goto (tgt := 60) C d_R_inStock_37 (by decide) ?_
        exact r_iret C d_R_inStock_60 (fun _ => ⟨vi_e (by unfold inV inS; rw [e]; (repeat' split) <;> omega), rfl⟩) (by decide) (fun _ => ⟨rfl, rfl, rfl⟩)
    · refine r_iload_n (i0 := 2) C d_R_inStock_17 rfl rfl ?_
      refine r_aload_n (i0 := 0) C d_R_inStock_18 rfl rfl ?_
      refine r_getO C fl_R_31 d_R_inStock_19 rfl rfl (fun hi => hi) ?_
      refine r_iload_n (i0 := 3) C d_R_inStock_22 rfl rfl ?_
      refine r_iaload (ln := 12) C d_R_inStock_23 rfl (fun _ => rfl) rfl (by have := hU.1; omega) ?_
      refine r_isub C d_R_inStock_24 (by have hU1 := hU.1; have s1 := su_bd hU (n := (h 40 0 10).toNat) (by omega); have s2 := su_bd hU (n := (j + 1).toNat) (by omega); have s3 := (hU.2 j.toNat (by omega)).1; omega) ?_
      refine r_istore_n (i0 := 2) C d_R_inStock_25 rfl (by decide) ?_
      refine r_iinc C d_R_inStock_26 rfl (by decide) (by have := hU.1; omega) ?_
      refine r_goto (tgt := 12) C d_R_inStock_29 (by decide) ?_
      exact ih (m - 1) (by omega) (j + -1) _ (by omega) (by omega) (by omega) (by rw [hl2, sumF_int (g := (h 48 0)) (show 0 ≤ j by omega)]; have e : (j + -1 + 1).toNat = j.toNat := (by omega); rw [e]; omega)
  refine r_aload_n (i0 := 0) C d_R_inStock_0 rfl rfl ?_
  refine r_getI C fl_R_37 d_R_inStock_1 rfl ?_
  refine r_istore_n (i0 := 2) C d_R_inStock_4 rfl (by decide) ?_
  refine r_aload_n (i0 := 0) C d_R_inStock_5 rfl rfl ?_
  refine r_getI C fl_R_110 d_R_inStock_6 rfl ?_
  refine r_iconst C d_R_inStock_9 (by decide) ?_
  refine r_isub C d_R_inStock_10 (by have := hU.1; omega) ?_
  refine r_istore_n (i0 := 3) C d_R_inStock_11 rfl (by decide) ?_
  exact loop _ (h 40 0 10 - 1) _ (by omega) (by omega) rfl (by have e : (h 40 0 10 - 1 + 1).toNat = (h 40 0 10).toNat := (by omega); rw [e]; omega)
set_option maxHeartbeats 1000000 in
theorem c_U_stockCents {l : Launch} (hl : l.stackTraces = false) {w : XW} {h : AH} {a : Int} (hL : 0 ≤ h 7 0 2) (hU : FUv (h 7 0 2).toNat (h 8 0) (h 9 0)) (hs : -1 ≤ h 7 0 3 ∧ h 7 0 3 ≤ 12000) (ha : 0 ≤ a ∧ a < h 7 0 2) : AM l y_U_stockCents (wsM y_U_stockCents b_U_stockCents 3 (some .int) []) true (rmV 2 0) w [vO 7 0, vI a] h (Ret (some (vI (ciV (h 7 0 2).toNat (h 8 0) (h 9 0) (h 7 0 3) a.toNat))) h) := by
  refine AM.of hl (by decide +kernel) (Nat.le_of_ble_eq_true rfl) fun x hx C _ => ?_
  refine r_aload_n (i0 := 0) C d_U_stockCents_0 rfl rfl ?_
  refine r_iload_n (i0 := 1) C d_U_stockCents_1 rfl rfl ?_
  refine r_callVp C cl_U_45 im_U_stockUnits rfl rfl (c_U_stockUnits hx hL hU hs ha) rfl rfl d_U_stockCents_2 (by decide) (Nat.le_of_ble_eq_true rfl) ?_
  refine r_istore_n (i0 := 2) C d_U_stockCents_5 rfl (by decide) ?_
  refine r_iload_n (i0 := 2) C d_U_stockCents_6 rfl rfl ?_
  refine r_if_gt (tgt := 12) C d_U_stockCents_7 (by decide) (fun q7 => ?_) (fun q7 => ?_)
  · refine r_iload_n (i0 := 2) C d_U_stockCents_12 rfl rfl ?_
    refine r_aload_n (i0 := 0) C d_U_stockCents_13 rfl rfl ?_
    refine r_getO C fl_U_9 d_U_stockCents_14 rfl rfl (fun hi => hi) ?_
    refine r_iload_n (i0 := 1) C d_U_stockCents_17 rfl rfl ?_
    refine r_iaload (ln := 12) C d_U_stockCents_18 rfl (fun _ => rfl) rfl (by have := hU.1; omega) ?_
    refine r_icmp_lt (tgt := 29) C d_U_stockCents_19 (by decide) (fun q19 => ?_) (fun q19 => ?_)
    · refine r_aload_n (i0 := 0) C d_U_stockCents_29 rfl rfl ?_
      refine r_getO C fl_U_15 d_U_stockCents_30 rfl rfl (fun hi => hi) ?_
      refine r_iload_n (i0 := 1) C d_U_stockCents_33 rfl rfl ?_
      refine r_iaload (ln := 12) C d_U_stockCents_34 rfl (fun _ => rfl) rfl (by have := hU.1; omega) ?_
      refine r_iload_n (i0 := 2) C d_U_stockCents_35 rfl rfl ?_
      refine r_imul C d_U_stockCents_36 (by have hU1 := hU.1; have hk := hU.2 a.toNat (by omega); have i0 := inV_bd (s := h 7 0 3) hU (k := a.toNat) (by omega); have p0 := mulN (A := 20000) (B := 1000) (a := h 9 0 a.toNat) (b := inV (h 7 0 2).toNat (h 8 0) (h 7 0 3) a.toNat) (by omega) (by omega); omega) ?_
      refine r_aload_n (i0 := 0) C d_U_stockCents_37 rfl rfl ?_
      refine r_getO C fl_U_9 d_U_stockCents_38 rfl rfl (fun hi => hi) ?_
      refine r_iload_n (i0 := 1) C d_U_stockCents_41 rfl rfl ?_
      refine r_iaload (ln := 12) C d_U_stockCents_42 rfl (fun _ => rfl) rfl (by have := hU.1; omega) ?_
      refine r_idiv C d_U_stockCents_43 (by have hU1 := hU.1; have hk := hU.2 a.toNat (by omega); have i0 := inV_bd (s := h 7 0 3) hU (k := a.toNat) (by omega); omega) (by have hU1 := hU.1; have hk := hU.2 a.toNat (by omega); have i0 := inV_bd (s := h 7 0 3) hU (k := a.toNat) (by omega); have p0 := mulN (A := 20000) (B := 1000) (a := h 9 0 a.toNat) (b := inV (h 7 0 2).toNat (h 8 0) (h 7 0 3) a.toNat) (by omega) (by omega); rw [tdiv_nn p0.1]; have := ediv_le_self' p0.1 (show 0 < h 8 0 a.toNat by omega); omega) ?_
      exact r_iret C d_U_stockCents_44 (fun _ => ⟨vi_e (by have hU1 := hU.1; have hk := hU.2 a.toNat (by omega); have i0 := inV_bd (s := h 7 0 3) hU (k := a.toNat) (by omega); have p0 := mulN (A := 20000) (B := 1000) (a := h 9 0 a.toNat) (b := inV (h 7 0 2).toNat (h 8 0) (h 7 0 3) a.toNat) (by omega) (by omega); rw [tdiv_nn p0.1]; rfl), rfl⟩) (by decide) (fun _ => ⟨rfl, rfl, rfl⟩)
    · refine r_aload_n (i0 := 0) C d_U_stockCents_22 rfl rfl ?_
      refine r_getO C fl_U_15 d_U_stockCents_23 rfl rfl (fun hi => hi) ?_
      refine r_iload_n (i0 := 1) C d_U_stockCents_26 rfl rfl ?_
      refine r_iaload (ln := 12) C d_U_stockCents_27 rfl (fun _ => rfl) rfl (by have := hU.1; omega) ?_
      exact r_iret C d_U_stockCents_28 (fun _ => ⟨vi_e (by have hU1 := hU.1; have hk := hU.2 a.toNat (by omega); have i0 := inV_bd (s := h 7 0 3) hU (k := a.toNat) (by omega); unfold ciV; rw [show inV (h 7 0 2).toNat (h 8 0) (h 7 0 3) a.toNat = h 8 0 a.toNat by omega, Int.mul_ediv_cancel _ (by omega)]), rfl⟩) (by decide) (fun _ => ⟨rfl, rfl, rfl⟩)
  · refine r_iconst C d_U_stockCents_10 (by decide) ?_
    exact r_iret C d_U_stockCents_11 (fun _ => ⟨vi_e (by have hU1 := hU.1; have hk := hU.2 a.toNat (by omega); have i0 := inV_bd (s := h 7 0 3) hU (k := a.toNat) (by omega); unfold ciV; rw [show inV (h 7 0 2).toNat (h 8 0) (h 7 0 3) a.toNat = 0 by omega]; simp), rfl⟩) (by decide) (fun _ => ⟨rfl, rfl, rfl⟩)
set_option maxHeartbeats 1000000 in
theorem c_R_centsInStock {l : Launch} (hl : l.stackTraces = false) {w : XW} {h : AH} {a : Int} (hL : 0 ≤ h 40 0 10) (hU : FUv (h 40 0 10).toNat (h 48 0) (h 49 0)) (hs : -1 ≤ h 40 0 13 ∧ h 40 0 13 ≤ 12000) (ha : 0 ≤ a ∧ a < h 40 0 10) : AM l y_R_centsInStock (wsM y_R_centsInStock b_R_centsInStock 2 (some .int) []) true (rmV 2 0) w [vO 40 0, vI a] h (Ret (some (vI (ciV (h 40 0 10).toNat (h 48 0) (h 49 0) (h 40 0 13) a.toNat))) h) := by
  refine AM.of hl (by decide +kernel) (Nat.le_of_ble_eq_true rfl) fun x hx C _ => ?_
  refine r_aload_n (i0 := 0) C d_R_centsInStock_0 rfl rfl ?_
  refine r_getO C fl_R_34 d_R_centsInStock_1 rfl rfl (fun hi => hi) ?_
  refine r_iload_n (i0 := 1) C d_R_centsInStock_4 rfl rfl ?_
  refine r_iaload (ln := 12) C d_R_centsInStock_5 rfl (fun _ => rfl) rfl (by have := hU.1; omega) ?_
  refine r_aload_n (i0 := 0) C d_R_centsInStock_6 rfl rfl ?_
  refine r_iload_n (i0 := 1) C d_R_centsInStock_7 rfl rfl ?_
  refine r_callVp C cl_R_162 im_R_inStock rfl rfl (c_R_inStock hx hL hU hs ha) rfl rfl d_R_centsInStock_8 (by decide) (Nat.le_of_ble_eq_true rfl) ?_
  refine r_imul C d_R_centsInStock_11 (by have hU1 := hU.1; have hk := hU.2 a.toNat (by omega); have i0 := inV_bd (s := h 40 0 13) hU (k := a.toNat) (by omega); have p0 := mulN (A := 20000) (B := 1000) (a := h 49 0 a.toNat) (b := inV (h 40 0 10).toNat (h 48 0) (h 40 0 13) a.toNat) (by omega) (by omega); omega) ?_
  refine r_aload_n (i0 := 0) C d_R_centsInStock_12 rfl rfl ?_
  refine r_getO C fl_R_31 d_R_centsInStock_13 rfl rfl (fun hi => hi) ?_
  refine r_iload_n (i0 := 1) C d_R_centsInStock_16 rfl rfl ?_
  refine r_iaload (ln := 12) C d_R_centsInStock_17 rfl (fun _ => rfl) rfl (by have := hU.1; omega) ?_
  refine r_idiv C d_R_centsInStock_18 (by have hU1 := hU.1; have hk := hU.2 a.toNat (by omega); have i0 := inV_bd (s := h 40 0 13) hU (k := a.toNat) (by omega); omega) (by have hU1 := hU.1; have hk := hU.2 a.toNat (by omega); have i0 := inV_bd (s := h 40 0 13) hU (k := a.toNat) (by omega); have p0 := mulN (A := 20000) (B := 1000) (a := h 49 0 a.toNat) (b := inV (h 40 0 10).toNat (h 48 0) (h 40 0 13) a.toNat) (by omega) (by omega); rw [tdiv_nn p0.1]; have := ediv_le_self' p0.1 (show 0 < h 48 0 a.toNat by omega); omega) ?_
  exact r_iret C d_R_centsInStock_19 (fun _ => ⟨vi_e (by have hU1 := hU.1; have hk := hU.2 a.toNat (by omega); have i0 := inV_bd (s := h 40 0 13) hU (k := a.toNat) (by omega); have p0 := mulN (A := 20000) (B := 1000) (a := h 49 0 a.toNat) (b := inV (h 40 0 10).toNat (h 48 0) (h 40 0 13) a.toNat) (by omega) (by omega); rw [tdiv_nn p0.1]; rfl), rfl⟩) (by decide) (fun _ => ⟨rfl, rfl, rfl⟩)
set_option maxHeartbeats 1000000 in
theorem c_U_burnedUnits {l : Launch} (hl : l.stackTraces = false) {w : XW} {h : AH} (hL : 0 ≤ h 7 0 2) (hU : FUv (h 7 0 2).toNat (h 8 0) (h 9 0)) (hs : -1 ≤ h 7 0 3 ∧ h 7 0 3 ≤ 12000) : AM l y_U_burnedUnits (wsM y_U_burnedUnits b_U_burnedUnits 1 (some .int) []) true (rmV 1 0) w [vO 7 0] h (Ret (some (vI (sumF (h 7 0 2).toNat (h 8 0) - h 7 0 3))) h) := by
  refine AM.of hl (by decide +kernel) (Nat.le_of_ble_eq_true rfl) fun x hx C _ => ?_
  refine r_aload_n (i0 := 0) C d_U_burnedUnits_0 rfl rfl ?_
  refine r_callVp C cl_U_29 im_U_allUnits rfl rfl (c_U_allUnits hx (by have := hU.1; omega) (fun k hk => by have := hU.2 k (by omega); omega)) rfl rfl d_U_burnedUnits_1 (by decide) (Nat.le_of_ble_eq_true rfl) ?_
  refine r_aload_n (i0 := 0) C d_U_burnedUnits_4 rfl rfl ?_
  refine r_getI C fl_U_22 d_U_burnedUnits_5 rfl ?_
  refine r_isub C d_U_burnedUnits_8 (by have := hU.1; have s1 := su_bd hU (n := (h 7 0 2).toNat) (by omega); omega) ?_
  exact r_iret C d_U_burnedUnits_9 (fun _ => ⟨rfl, rfl⟩) (by decide) (fun _ => ⟨rfl, rfl, rfl⟩)
set_option maxHeartbeats 1000000 in
theorem c_U_isBurned {l : Launch} (hl : l.stackTraces = false) {w : XW} {h : AH} (hL : 0 ≤ h 7 0 2) (hU : FUv (h 7 0 2).toNat (h 8 0) (h 9 0)) (hs : -1 ≤ h 7 0 3 ∧ h 7 0 3 ≤ 12000) : AM l y_U_isBurned (wsM y_U_isBurned b_U_isBurned 1 (some .boolean) []) true (rmV 2 0) w [vO 7 0] h (Ret (some (vI (if h 7 0 3 ≠ -1 ∧ 0 < sumF (h 7 0 2).toNat (h 8 0) - h 7 0 3 then 1 else 0))) h) := by
  refine AM.of hl (by decide +kernel) (Nat.le_of_ble_eq_true rfl) fun x hx C _ => ?_
  refine r_aload_n (i0 := 0) C d_U_isBurned_0 rfl rfl ?_
  refine r_getI C fl_U_22 d_U_isBurned_1 rfl ?_
  refine r_iconst C d_U_isBurned_4 (by decide) ?_
  refine r_icmp_eq (tgt := 19) C d_U_isBurned_5 (by decide) (fun q5 => ?_) (fun q5 => ?_)
  · refine r_iconst C d_U_isBurned_19 (by decide) ?_
    exact r_zret C d_U_isBurned_20 (by omega) (⟨vi_e (by split <;> omega), rfl⟩) (by decide) (fun _ => ⟨rfl, rfl, rfl⟩)
  · refine r_aload_n (i0 := 0) C d_U_isBurned_8 rfl rfl ?_
    refine r_callVp C cl_U_25 im_U_burnedUnits rfl rfl (c_U_burnedUnits hx hL hU hs) rfl rfl d_U_isBurned_9 (by decide) (Nat.le_of_ble_eq_true rfl) ?_
    refine r_if_le (tgt := 19) C d_U_isBurned_12 (by decide) (fun q12 => ?_) (fun q12 => ?_)
    · refine r_iconst C d_U_isBurned_19 (by decide) ?_
      exact r_zret C d_U_isBurned_20 (by omega) (⟨vi_e (by split <;> omega), rfl⟩) (by decide) (fun _ => ⟨rfl, rfl, rfl⟩)
    · refine r_iconst C d_U_isBurned_15 (by decide) ?_
      refine r_goto (tgt := 20) C d_U_isBurned_16 (by decide) ?_
      exact r_zret C d_U_isBurned_20 (by omega) (⟨vi_e (by split <;> omega), rfl⟩) (by decide) (fun _ => ⟨rfl, rfl, rfl⟩)
set_option maxHeartbeats 1000000 in
theorem c_U_burnedCents {l : Launch} (hl : l.stackTraces = false) {w : XW} {h : AH} (hL : 0 ≤ h 7 0 2) (hU : FUv (h 7 0 2).toNat (h 8 0) (h 9 0)) (hs : -1 ≤ h 7 0 3 ∧ h 7 0 3 ≤ 12000) : AM l y_U_burnedCents (wsM y_U_burnedCents b_U_burnedCents 3 (some .int) []) true (rmV 3 0) w [vO 7 0] h (Ret (some (vI (sumF (h 7 0 2).toNat (ncV (h 7 0 2).toNat (h 8 0) (h 9 0) (h 7 0 3))))) h) := by
  refine AM.of hl (by decide +kernel) (Nat.le_of_ble_eq_true rfl) fun x hx C _ => ?_
  have loop : ∀ (m : Nat) (i A : Int), 0 ≤ i → i ≤ h 7 0 2 → (h 7 0 2 - i).toNat = m → A = sumF i.toNat (ncV (h 7 0 2).toNat (h 8 0) (h 9 0) (h 7 0 3)) → AW x w 3 true 0 0 (AQ x w true 0 0 (Ret (some (vI (sumF (h 7 0 2).toNat (ncV (h 7 0 2).toNat (h 8 0) (h 9 0) (h 7 0 3))))) h)) 4 [(2, vI i), (1, vI A), (0, vO 7 0)] [] h := by
    intro m
    induction m using Nat.strongRecOn with
    | _ m ih =>
    intro i A hi0 hi1 hm hA
    refine r_iload_n (i0 := 2) C d_U_burnedCents_4 rfl rfl ?_
    refine r_aload_n (i0 := 0) C d_U_burnedCents_5 rfl rfl ?_
    refine r_getI C fl_U_18 d_U_burnedCents_6 rfl ?_
    refine r_icmp_ge (tgt := 33) C d_U_burnedCents_9 (by decide) (fun q9 => ?_) (fun q9 => ?_)
    · refine r_iload_n (i0 := 1) C d_U_burnedCents_33 rfl rfl ?_
      exact r_iret C d_U_burnedCents_34 (fun _ => ⟨vi_e (by rw [hA, show i.toNat = (h 7 0 2).toNat by omega]), rfl⟩) (by decide) (fun _ => ⟨rfl, rfl, rfl⟩)
    · refine r_iload_n (i0 := 1) C d_U_burnedCents_12 rfl rfl ?_
      refine r_aload_n (i0 := 0) C d_U_burnedCents_13 rfl rfl ?_
      refine r_getO C fl_U_15 d_U_burnedCents_14 rfl rfl (fun hi => hi) ?_
      refine r_iload_n (i0 := 2) C d_U_burnedCents_17 rfl rfl ?_
      refine r_iaload (ln := 12) C d_U_burnedCents_18 rfl (fun _ => rfl) rfl (by have := hU.1; omega) ?_
      refine r_aload_n (i0 := 0) C d_U_burnedCents_19 rfl rfl ?_
      refine r_iload_n (i0 := 2) C d_U_burnedCents_20 rfl rfl ?_
      refine r_callVp C cl_U_32 im_U_stockCents rfl rfl (c_U_stockCents hx hL hU hs (by omega)) rfl rfl d_U_burnedCents_21 (by decide) (Nat.le_of_ble_eq_true rfl) ?_
      refine r_isub C d_U_burnedCents_24 (by have := hU.1; have s1 := nc_bd (s := h 7 0 3) hU (n := i.toNat) (by omega); have c1 := ciV_bd (s := h 7 0 3) hU (k := i.toNat) (by omega); have c2 := hU.2 i.toNat (by omega); omega) ?_
      refine r_iadd C d_U_burnedCents_25 (by have := hU.1; have s1 := nc_bd (s := h 7 0 3) hU (n := i.toNat) (by omega); have c1 := ciV_bd (s := h 7 0 3) hU (k := i.toNat) (by omega); have c2 := hU.2 i.toNat (by omega); omega) ?_
      refine r_istore_n (i0 := 1) C d_U_burnedCents_26 rfl (by decide) ?_
      refine r_iinc C d_U_burnedCents_27 rfl (by decide) (by have := hU.1; omega) ?_
      refine r_goto (tgt := 4) C d_U_burnedCents_30 (by decide) ?_
      exact ih (m - 1) (by omega) (i + 1) _ (by omega) (by omega) (by omega) (by rw [sumF_int hi0, ← hA]; rfl)
  refine r_iconst C d_U_burnedCents_0 (by decide) ?_
  refine r_istore_n (i0 := 1) C d_U_burnedCents_1 rfl (by decide) ?_
  refine r_iconst C d_U_burnedCents_2 (by decide) ?_
  refine r_istore_n (i0 := 2) C d_U_burnedCents_3 rfl (by decide) ?_
  exact loop _ 0 0 (by omega) (by omega) rfl rfl
set_option maxHeartbeats 1000000 in
theorem c_H_waterUnits {l : Launch} (hl : l.stackTraces = false) {w : XW} {h : AH} {b : Int} (hli : -1 ≤ h 1 0 9 ∧ h 1 0 9 ≤ 10000000) (hga : 0 ≤ h 1 0 10 ∧ h 1 0 10 ≤ 100) (hb : 0 < b ∧ b ≤ 12000) : AM l y_H_waterUnits (wsM y_H_waterUnits b_H_waterUnits 4 (some .int) []) true (rmV 1 0) w [vO 1 0, vI b] h (Ret (some (vI (waV (h 1 0 9) (h 1 0 10) b))) h) := by
  refine AM.of hl (by decide +kernel) (Nat.le_of_ble_eq_true rfl) fun x hx C _ => ?_
  refine r_aload_n (i0 := 0) C d_H_waterUnits_0 rfl rfl ?_
  refine r_getI C fl_H_62 d_H_waterUnits_1 rfl ?_
  refine r_iconst C d_H_waterUnits_4 (by decide) ?_
  refine r_icmp_ne (tgt := 18) C d_H_waterUnits_5 (by decide) (fun q5 => ?_) (fun q5 => ?_)
  · refine r_aload_n (i0 := 0) C d_H_waterUnits_18 rfl rfl ?_
    refine r_getI C fl_H_62 d_H_waterUnits_19 rfl ?_
    refine r_i2l C d_H_waterUnits_22 ?_
    refine r_aload_n (i0 := 0) C d_H_waterUnits_23 rfl rfl ?_
    refine r_getI C fl_H_65 d_H_waterUnits_24 rfl ?_
    refine r_i2l C d_H_waterUnits_27 ?_
    refine r_lmul C d_H_waterUnits_28 (by have p0 := mulN (A := 10000000) (B := 100) (a := h 1 0 9) (b := h 1 0 10) (by omega) (by omega); omega) ?_
    refine r_ldc2 C d_H_waterUnits_29 k_H_264 (by decide) ?_
    refine r_lmul C d_H_waterUnits_32 (by have p0 := mulN (A := 10000000) (B := 100) (a := h 1 0 9) (b := h 1 0 10) (by omega) (by omega); omega) ?_
    refine r_ldc2 C d_H_waterUnits_33 k_H_266 (by decide) ?_
    refine r_ldiv C d_H_waterUnits_36 (by omega) (by have p0 := mulN (A := 10000000) (B := 100) (a := h 1 0 9) (b := h 1 0 10) (by omega) (by omega); rw [tdiv_nn (by omega)]; omega) ?_
    refine r_lstore_n (i0 := 2) C d_H_waterUnits_37 rfl (by decide) ?_
    refine r_lload_n (i0 := 2) C d_H_waterUnits_38 rfl rfl ?_
    refine r_sipush C d_H_waterUnits_39 (by decide) (by decide) ?_
    refine r_iload_n (i0 := 1) C d_H_waterUnits_42 rfl rfl ?_
    refine r_imul C d_H_waterUnits_43 (by omega) ?_
    refine r_sipush C d_H_waterUnits_44 (by decide) (by decide) ?_
    refine r_idiv C d_H_waterUnits_47 (by omega) (by rw [tdiv_nn (by omega)]; omega) ?_
    refine r_i2l C d_H_waterUnits_48 ?_
    refine r_callSp C cl_H_268 st_J_minJ (c_J_minJ hx) rfl rfl d_H_waterUnits_49 (by decide) (Nat.le_of_ble_eq_true rfl) ?_
    refine r_l2i C d_H_waterUnits_52 (by have p0 := mulN (A := 10000000) (B := 100) (a := h 1 0 9) (b := h 1 0 10) (by omega) (by omega); rw [tdiv_nn (by omega), tdiv_nn (by omega)]; split <;> omega) ?_
    exact r_iret C d_H_waterUnits_53 (fun _ => ⟨vi_e (by have p0 := mulN (A := 10000000) (B := 100) (a := h 1 0 9) (b := h 1 0 10) (by omega) (by omega); rw [tdiv_nn (show 0 ≤ 400 * b by omega), tdiv_nn (show 0 ≤ h 1 0 9 * h 1 0 10 * 115 by omega)]; unfold waV; rw [if_neg q5]), rfl⟩) (by decide) (fun _ => ⟨rfl, rfl, rfl⟩)
  · refine r_sipush C d_H_waterUnits_8 (by decide) (by decide) ?_
    refine r_iload_n (i0 := 1) C d_H_waterUnits_11 rfl rfl ?_
    refine r_imul C d_H_waterUnits_12 (by omega) ?_
    refine r_sipush C d_H_waterUnits_13 (by decide) (by decide) ?_
    refine r_idiv C d_H_waterUnits_16 (by omega) (by rw [tdiv_nn (by omega)]; omega) ?_
    exact r_iret C d_H_waterUnits_17 (fun _ => ⟨vi_e (by unfold waV; rw [if_pos (by omega), tdiv_nn (by omega)]), rfl⟩) (by decide) (fun _ => ⟨rfl, rfl, rfl⟩)
set_option maxHeartbeats 1000000 in
theorem c_H_setBillParts {l : Launch} (hl : l.stackTraces = false) {w : XW} {h : AH} (hL : 0 ≤ h 7 0 2) (hU : FUv (h 7 0 2).toNat (h 8 0) (h 9 0)) (hs : -1 ≤ h 7 0 3 ∧ h 7 0 3 ≤ 12000) (hli : -1 ≤ h 1 0 9 ∧ h 1 0 9 ≤ 10000000) (hga : 0 ≤ h 1 0 10 ∧ h 1 0 10 ≤ 100) (hsd : 0 ≤ h 1 0 8 ∧ h 1 0 8 ≤ 20000) (hpm : 0 ≤ h 1 0 11 ∧ h 1 0 11 ≤ 1000) (hbu : 0 < (sumF (h 7 0 2).toNat (h 8 0) - h 7 0 3) ∧ 0 ≤ h 7 0 3) : AM l y_H_setBillParts (wsM y_H_setBillParts b_H_setBillParts 5 none []) false (rmV 4 0) w [vO 1 0] h (RetP none (fun h' => h' = partsH h 30 (sumF (h 7 0 2).toNat (h 8 0) - h 7 0 3) (sumF (h 7 0 2).toNat (ncV (h 7 0 2).toNat (h 8 0) (h 9 0) (h 7 0 3)) + h 1 0 8) (p2V (sumF (h 7 0 2).toNat (ncV (h 7 0 2).toNat (h 8 0) (h 9 0) (h 7 0 3)) + h 1 0 8) (waV (h 1 0 9) (h 1 0 10) (sumF (h 7 0 2).toNat (h 8 0) - h 7 0 3)) (sumF (h 7 0 2).toNat (h 8 0) - h 7 0 3)) (p3V (sumF (h 7 0 2).toNat (ncV (h 7 0 2).toNat (h 8 0) (h 9 0) (h 7 0 3)) + h 1 0 8) (p2V (sumF (h 7 0 2).toNat (ncV (h 7 0 2).toNat (h 8 0) (h 9 0) (h 7 0 3)) + h 1 0 8) (waV (h 1 0 9) (h 1 0 10) (sumF (h 7 0 2).toNat (h 8 0) - h 7 0 3)) (sumF (h 7 0 2).toNat (h 8 0) - h 7 0 3)) (h 1 0 11)))) := by
  refine AM.of hl (by decide +kernel) (Nat.le_of_ble_eq_true rfl) fun x hx C _ => ?_
  have hL1 := hU.1
  have s1 := su_bd hU (n := (h 7 0 2).toNat) (Nat.le_refl _)
  have n1 := nc_bd (s := h 7 0 3) hU (n := (h 7 0 2).toNat) (Nat.le_refl _)
  have w1 := waV_bd (li := h 1 0 9) (ga := h 1 0 10) (b := (sumF (h 7 0 2).toNat (h 8 0) - h 7 0 3)) (by omega) (by omega) (by omega)
  have p1 := p2V_bd (cost := (sumF (h 7 0 2).toNat (ncV (h 7 0 2).toNat (h 8 0) (h 9 0) (h 7 0 3)) + h 1 0 8)) (wa := (waV (h 1 0 9) (h 1 0 10) (sumF (h 7 0 2).toNat (h 8 0) - h 7 0 3))) (b := (sumF (h 7 0 2).toNat (h 8 0) - h 7 0 3)) (by omega) w1 (by omega)
  have q1 := p3V_bd (cost := (sumF (h 7 0 2).toNat (ncV (h 7 0 2).toNat (h 8 0) (h 9 0) (h 7 0 3)) + h 1 0 8)) (p2 := (p2V (sumF (h 7 0 2).toNat (ncV (h 7 0 2).toNat (h 8 0) (h 9 0) (h 7 0 3)) + h 1 0 8) (waV (h 1 0 9) (h 1 0 10) (sumF (h 7 0 2).toNat (h 8 0) - h 7 0 3)) (sumF (h 7 0 2).toNat (h 8 0) - h 7 0 3))) (pm := h 1 0 11) (by omega) (by omega)
  have m1 := mulN (A := 260000) (B := 12000) (a := (sumF (h 7 0 2).toNat (ncV (h 7 0 2).toNat (h 8 0) (h 9 0) (h 7 0 3)) + h 1 0 8)) (b := (waV (h 1 0 9) (h 1 0 10) (sumF (h 7 0 2).toNat (h 8 0) - h 7 0 3))) (by omega) (by omega)
  have m2 := mulN (A := 260000) (B := 1000) (a := (sumF (h 7 0 2).toNat (ncV (h 7 0 2).toNat (h 8 0) (h 9 0) (h 7 0 3)) + h 1 0 8) - (p2V (sumF (h 7 0 2).toNat (ncV (h 7 0 2).toNat (h 8 0) (h 9 0) (h 7 0 3)) + h 1 0 8) (waV (h 1 0 9) (h 1 0 10) (sumF (h 7 0 2).toNat (h 8 0) - h 7 0 3)) (sumF (h 7 0 2).toNat (h 8 0) - h 7 0 3))) (b := h 1 0 11) (by omega) (by omega)
  refine r_aload_n (i0 := 0) C d_H_setBillParts_0 rfl rfl ?_
  refine r_getO C fl_H_19 d_H_setBillParts_1 rfl rfl (fun hi => hi) ?_
  refine r_callVp C cl_H_253 im_U_burnedUnits rfl rfl (c_U_burnedUnits hx hL hU hs) rfl rfl d_H_setBillParts_4 (by decide) (Nat.le_of_ble_eq_true rfl) ?_
  refine r_istore_n (i0 := 1) C d_H_setBillParts_7 rfl (by decide) ?_
  refine r_aload_n (i0 := 0) C d_H_setBillParts_8 rfl rfl ?_
  refine r_getO C fl_H_19 d_H_setBillParts_9 rfl rfl (fun hi => hi) ?_
  refine r_callVp C cl_H_256 im_U_burnedCents rfl rfl (c_U_burnedCents hx hL hU hs) rfl rfl d_H_setBillParts_12 (by decide) (Nat.le_of_ble_eq_true rfl) ?_
  refine r_aload_n (i0 := 0) C d_H_setBillParts_15 rfl rfl ?_
  refine r_getI C fl_H_58 d_H_setBillParts_16 rfl ?_
  refine r_iadd C d_H_setBillParts_19 (by omega) ?_
  refine r_istore_n (i0 := 2) C d_H_setBillParts_20 rfl (by decide) ?_
  refine r_iload_n (i0 := 1) C d_H_setBillParts_21 rfl rfl ?_
  refine r_if_le (tgt := 41) C d_H_setBillParts_22 (by decide) (fun q22 => ?_) (fun q22 => ?_)
  · exfalso; omega 
  · refine r_iload_n (i0 := 2) C d_H_setBillParts_25 rfl rfl ?_
    refine r_i2l C d_H_setBillParts_26 ?_
    refine r_aload_n (i0 := 0) C d_H_setBillParts_27 rfl rfl ?_
    refine r_iload_n (i0 := 1) C d_H_setBillParts_28 rfl rfl ?_
    refine r_callVp C cl_H_259 im_H_waterUnits rfl rfl (c_H_waterUnits hx hli hga (by omega)) rfl rfl d_H_setBillParts_29 (by decide) (Nat.le_of_ble_eq_true rfl) ?_
    refine r_i2l C d_H_setBillParts_32 ?_
    refine r_lmul C d_H_setBillParts_33 (by omega) ?_
    refine r_iload_n (i0 := 1) C d_H_setBillParts_34 rfl rfl ?_
    refine r_i2l C d_H_setBillParts_35 ?_
    refine r_ldiv C d_H_setBillParts_36 (by omega) (by rw [tdiv_nn m1.1]; have := ediv_le_self' m1.1 (show 0 < (sumF (h 7 0 2).toNat (h 8 0) - h 7 0 3) by omega); omega) ?_
    rw [tdiv_nn m1.1, show (sumF (h 7 0 2).toNat (ncV (h 7 0 2).toNat (h 8 0) (h 9 0) (h 7 0 3)) + h 1 0 8) * (waV (h 1 0 9) (h 1 0 10) (sumF (h 7 0 2).toNat (h 8 0) - h 7 0 3)) / (sumF (h 7 0 2).toNat (h 8 0) - h 7 0 3) = (p2V (sumF (h 7 0 2).toNat (ncV (h 7 0 2).toNat (h 8 0) (h 9 0) (h 7 0 3)) + h 1 0 8) (waV (h 1 0 9) (h 1 0 10) (sumF (h 7 0 2).toNat (h 8 0) - h 7 0 3)) (sumF (h 7 0 2).toNat (h 8 0) - h 7 0 3)) from rfl]
    refine r_l2i C d_H_setBillParts_37 (by omega) ?_
    refine r_goto (tgt := 42) C d_H_setBillParts_38 (by decide) ?_
    refine r_istore_n (i0 := 3) C d_H_setBillParts_42 rfl (by decide) ?_
    refine r_iload_n (i0 := 2) C d_H_setBillParts_43 rfl rfl ?_
    refine r_iload_n (i0 := 3) C d_H_setBillParts_44 rfl rfl ?_
    refine r_isub C d_H_setBillParts_45 (by omega) ?_
    refine r_i2l C d_H_setBillParts_46 ?_
    refine r_aload_n (i0 := 0) C d_H_setBillParts_47 rfl rfl ?_
    refine r_getI C fl_H_68 d_H_setBillParts_48 rfl ?_
    refine r_i2l C d_H_setBillParts_51 ?_
    refine r_lmul C d_H_setBillParts_52 (by omega) ?_
    refine r_ldc2 C d_H_setBillParts_53 k_H_262 (by decide) ?_
    refine r_ldiv C d_H_setBillParts_56 (by omega) (by rw [tdiv_nn m2.1]; have := ediv_le_self' m2.1 (show (0 : Int) < 1000 by decide); omega) ?_
    rw [tdiv_nn m2.1, show ((sumF (h 7 0 2).toNat (ncV (h 7 0 2).toNat (h 8 0) (h 9 0) (h 7 0 3)) + h 1 0 8) - (p2V (sumF (h 7 0 2).toNat (ncV (h 7 0 2).toNat (h 8 0) (h 9 0) (h 7 0 3)) + h 1 0 8) (waV (h 1 0 9) (h 1 0 10) (sumF (h 7 0 2).toNat (h 8 0) - h 7 0 3)) (sumF (h 7 0 2).toNat (h 8 0) - h 7 0 3))) * h 1 0 11 / 1000 = (p3V (sumF (h 7 0 2).toNat (ncV (h 7 0 2).toNat (h 8 0) (h 9 0) (h 7 0 3)) + h 1 0 8) (p2V (sumF (h 7 0 2).toNat (ncV (h 7 0 2).toNat (h 8 0) (h 9 0) (h 7 0 3)) + h 1 0 8) (waV (h 1 0 9) (h 1 0 10) (sumF (h 7 0 2).toNat (h 8 0) - h 7 0 3)) (sumF (h 7 0 2).toNat (h 8 0) - h 7 0 3)) (h 1 0 11)) from rfl]
    refine r_l2i C d_H_setBillParts_57 (by omega) ?_
    refine r_istore C d_H_setBillParts_58 (by decide) ?_
    refine r_aload_n (i0 := 0) C d_H_setBillParts_60 rfl rfl ?_
    refine r_getO C fl_H_55 d_H_setBillParts_61 rfl rfl (fun hi => hi) ?_
    refine r_iconst C d_H_setBillParts_64 (by decide) ?_
    refine r_iload_n (i0 := 1) C d_H_setBillParts_65 rfl rfl ?_
    refine r_iastore (ln := 5) C d_H_setBillParts_66 rfl (fun _ => rfl) rfl (by omega) ?_
    refine r_aload_n (i0 := 0) C d_H_setBillParts_67 rfl rfl ?_
    refine r_getO C fl_H_55 d_H_setBillParts_68 rfl rfl (fun hi => hi) ?_
    refine r_iconst C d_H_setBillParts_71 (by decide) ?_
    refine r_iload_n (i0 := 2) C d_H_setBillParts_72 rfl rfl ?_
    refine r_iastore (ln := 5) C d_H_setBillParts_73 rfl (fun _ => rfl) rfl (by omega) ?_
    refine r_aload_n (i0 := 0) C d_H_setBillParts_74 rfl rfl ?_
    refine r_getO C fl_H_55 d_H_setBillParts_75 rfl rfl (fun hi => hi) ?_
    refine r_iconst C d_H_setBillParts_78 (by decide) ?_
    refine r_iload_n (i0 := 3) C d_H_setBillParts_79 rfl rfl ?_
    refine r_iastore (ln := 5) C d_H_setBillParts_80 rfl (fun _ => rfl) rfl (by omega) ?_
    refine r_aload_n (i0 := 0) C d_H_setBillParts_81 rfl rfl ?_
    refine r_getO C fl_H_55 d_H_setBillParts_82 rfl rfl (fun hi => hi) ?_
    refine r_iconst C d_H_setBillParts_85 (by decide) ?_
    refine r_iload C d_H_setBillParts_86 rfl ?_
    refine r_iastore (ln := 5) C d_H_setBillParts_88 rfl (fun _ => rfl) rfl (by omega) ?_
    refine r_aload_n (i0 := 0) C d_H_setBillParts_89 rfl rfl ?_
    refine r_getO C fl_H_55 d_H_setBillParts_90 rfl rfl (fun hi => hi) ?_
    refine r_iconst C d_H_setBillParts_93 (by decide) ?_
    refine r_iload_n (i0 := 2) C d_H_setBillParts_94 rfl rfl ?_
    refine r_iload_n (i0 := 3) C d_H_setBillParts_95 rfl rfl ?_
    refine r_isub C d_H_setBillParts_96 (by omega) ?_
    refine r_iload C d_H_setBillParts_97 rfl ?_
    refine r_isub C d_H_setBillParts_99 (by omega) ?_
    refine r_iastore (ln := 5) C d_H_setBillParts_100 rfl (fun _ => rfl) rfl (by omega) ?_
    exact r_vret C d_H_setBillParts_101 (⟨rfl, rfl⟩) (by decide) (fun q => nomatch q)

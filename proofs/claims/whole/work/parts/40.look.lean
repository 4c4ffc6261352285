/-! Contracts: Meters.kindOf, scaledUnits, look. -/
set_option maxHeartbeats 1000000 in
theorem c_M_kindOf {l : Launch} (hl : l.stackTraces = false) {w : XW} {h : AH} {f : Nat} : AM l y_M_kindOf (wsM y_M_kindOf b_M_kindOf 2 (some .int) []) true (rmV 1 0) w [vO 10 0, vO 4 f] h (Ret (some (vI (kdS (rdI (h 5 f)) (h 4 f 4) (h 10 0 6) (h 10 0 7) (h 10 0 5)))) h) := by
  refine AM.of hl (by decide +kernel) (Nat.le_of_ble_eq_true rfl) fun x hx C _ => ?_
  refine r_aload_n (i0 := 1) C d_M_kindOf_0 rfl rfl ?_
  refine r_callVp C cl_M_60 im_F_isMeterRead rfl rfl (c_F_isMeterRead hx) rfl rfl d_M_kindOf_1 (by decide) (Nat.le_of_ble_eq_true rfl) ?_
  refine r_if_eq (tgt := 9) C d_M_kindOf_4 (by decide) (fun q4 => ?_) (fun q4 => ?_)
  · refine r_aload_n (i0 := 1) C d_M_kindOf_9 rfl rfl ?_
    refine r_getI C fl_M_73 d_M_kindOf_10 rfl ?_
    refine r_iconst C d_M_kindOf_13 (by decide) ?_
    refine r_icmp_eq (tgt := 33) C d_M_kindOf_14 (by decide) (fun q14 => ?_) (fun q14 => ?_)
    · refine r_aload_n (i0 := 0) C d_M_kindOf_33 rfl rfl ?_
      refine r_getI C fl_M_30 d_M_kindOf_34 rfl ?_
      refine r_if_le (tgt := 44) C d_M_kindOf_37 (by decide) (fun q37 => ?_) (fun q37 => ?_)
      · refine r_iconst C d_M_kindOf_44 (by decide) ?_
        exact r_iret C d_M_kindOf_45 (fun _ => ⟨vi_e (by have := rdI_01 (h 5 f); unfold kdS; (repeat' split) <;> omega), rfl⟩) (by decide) (fun _ => ⟨rfl, rfl, rfl⟩)
      · refine r_iconst C d_M_kindOf_40 (by decide) ?_
        refine r_goto (tgt := 45) C d_M_kindOf_41 (by decide) ?_
        exact r_iret C d_M_kindOf_45 (fun _ => ⟨vi_e (by have := rdI_01 (h 5 f); unfold kdS; (repeat' split) <;> omega), rfl⟩) (by decide) (fun _ => ⟨rfl, rfl, rfl⟩)
    · refine r_aload_n (i0 := 0) C d_M_kindOf_17 rfl rfl ?_
      refine r_getI C fl_M_33 d_M_kindOf_18 rfl ?_
      refine r_if_le (tgt := 33) C d_M_kindOf_21 (by decide) (fun q21 => ?_) (fun q21 => ?_)
      · refine r_aload_n (i0 := 0) C d_M_kindOf_33 rfl rfl ?_
        refine r_getI C fl_M_30 d_M_kindOf_34 rfl ?_
        refine r_if_le (tgt := 44) C d_M_kindOf_37 (by decide) (fun q37 => ?_) (fun q37 => ?_)
        · refine r_iconst C d_M_kindOf_44 (by decide) ?_
          exact r_iret C d_M_kindOf_45 (fun _ => ⟨vi_e (by have := rdI_01 (h 5 f); unfold kdS; (repeat' split) <;> omega), rfl⟩) (by decide) (fun _ => ⟨rfl, rfl, rfl⟩)
        · refine r_iconst C d_M_kindOf_40 (by decide) ?_
          refine r_goto (tgt := 45) C d_M_kindOf_41 (by decide) ?_
          exact r_iret C d_M_kindOf_45 (fun _ => ⟨vi_e (by have := rdI_01 (h 5 f); unfold kdS; (repeat' split) <;> omega), rfl⟩) (by decide) (fun _ => ⟨rfl, rfl, rfl⟩)
      · refine r_aload_n (i0 := 0) C d_M_kindOf_24 rfl rfl ?_
        refine r_getI C fl_M_36 d_M_kindOf_25 rfl ?_
        refine r_if_le (tgt := 33) C d_M_kindOf_28 (by decide) (fun q28 => ?_) (fun q28 => ?_)
        · refine r_aload_n (i0 := 0) C d_M_kindOf_33 rfl rfl ?_
          refine r_getI C fl_M_30 d_M_kindOf_34 rfl ?_
          refine r_if_le (tgt := 44) C d_M_kindOf_37 (by decide) (fun q37 => ?_) (fun q37 => ?_)
          · refine r_iconst C d_M_kindOf_44 (by decide) ?_
            exact r_iret C d_M_kindOf_45 (fun _ => ⟨vi_e (by have := rdI_01 (h 5 f); unfold kdS; (repeat' split) <;> omega), rfl⟩) (by decide) (fun _ => ⟨rfl, rfl, rfl⟩)
          · refine r_iconst C d_M_kindOf_40 (by decide) ?_
            refine r_goto (tgt := 45) C d_M_kindOf_41 (by decide) ?_
            exact r_iret C d_M_kindOf_45 (fun _ => ⟨vi_e (by have := rdI_01 (h 5 f); unfold kdS; (repeat' split) <;> omega), rfl⟩) (by decide) (fun _ => ⟨rfl, rfl, rfl⟩)
        · refine r_iconst C d_M_kindOf_31 (by decide) ?_
          exact r_iret C d_M_kindOf_32 (fun _ => ⟨vi_e (by have := rdI_01 (h 5 f); unfold kdS; (repeat' split) <;> omega), rfl⟩) (by decide) (fun _ => ⟨rfl, rfl, rfl⟩)
  · refine r_iconst C d_M_kindOf_7 (by decide) ?_
    exact r_iret C d_M_kindOf_8 (fun _ => ⟨vi_e (by have := rdI_01 (h 5 f); unfold kdS; (repeat' split) <;> omega), rfl⟩) (by decide) (fun _ => ⟨rfl, rfl, rfl⟩)
set_option maxHeartbeats 1000000 in
theorem c_M_scaledUnits {l : Launch} (hl : l.stackTraces = false) {w : XW} {h : AH} {f : Nat} {k ls lk : Int} (hr : ∀ t : Nat, t < 13 → -1 ≤ h 5 f t ∧ h 5 f t ≤ 99) (hf : 0 ≤ h 4 f 2 ∧ h 4 f 2 ≤ 2) (hk : -1 ≤ h 4 f 4 ∧ h 4 f 4 ≤ 200) (ha : 0 ≤ h 4 f 0 ∧ h 4 f 0 ≤ 50) (hp : 0 ≤ h 10 0 6 ∧ h 10 0 6 ≤ 1200) (hu : 0 ≤ h 10 0 4 ∧ h 10 0 4 ≤ 1200) (hs : 1 ≤ h 10 0 2 ∧ h 10 0 2 ≤ 360000) (hls : 1 ≤ ls ∧ ls ≤ 1200) (hlk : 1 ≤ lk ∧ lk ≤ 300) (hk4 : 0 ≤ k ∧ k < 4) : AM l y_M_scaledUnits (wsM y_M_scaledUnits b_M_scaledUnits 9 (some .long) []) true (rmV 2 0) w [vO 10 0, vO 4 f, vI k, vL ls, vL lk] h (Ret (some (vL (unS k (mU (h 4 f 2) (h 5 f)) (h 4 f 4) (h 4 f 0) (h 10 0 6) (h 10 0 4) (h 10 0 2) ls lk))) h) := by
  refine AM.of hl (by decide +kernel) (Nat.le_of_ble_eq_true rfl) fun x hx C _ => ?_
  refine r_ldc2 C d_M_scaledUnits_0 k_M_76 (by decide) ?_
  refine r_aload_n (i0 := 0) C d_M_scaledUnits_3 rfl rfl ?_
  refine r_getL C fl_M_19 d_M_scaledUnits_4 rfl ?_
  refine r_lmul C d_M_scaledUnits_7 (by omega) ?_
  refine r_lstore C d_M_scaledUnits_8 (by decide) ?_
  refine r_iload_n (i0 := 2) C d_M_scaledUnits_10 rfl rfl ?_
  have hk5 : k = 0 ∨ k = 1 ∨ k = 2 ∨ k = 3 := by omega
  rcases hk5 with rfl | rfl | rfl | rfl
  · refine r_tableIn (tgt := 36) C d_M_scaledUnits_11 (by omega) (by omega) rfl (by decide) ?_
    refine r_aload_n (i0 := 1) C d_M_scaledUnits_36 rfl rfl ?_
    refine r_callVp C cl_M_66 im_F_unitsOfYear rfl rfl (c_F_unitsOfYear hx hr hf) rfl rfl d_M_scaledUnits_37 (by decide) (Nat.le_of_ble_eq_true rfl) ?_
    refine r_i2l C d_M_scaledUnits_40 ?_
    refine r_aload_n (i0 := 0) C d_M_scaledUnits_41 rfl rfl ?_
    refine r_getL C fl_M_19 d_M_scaledUnits_42 rfl ?_
    refine r_lmul C d_M_scaledUnits_45 (by have u0 := ubd (x := h 5 f 12 - h 5 f 0) (y := h 4 f 2) (by have := hr 0 (by omega); have := hr 12 (by omega); omega) hf; have u1 := mulB (A := 100) (B := 2) (a := h 5 f 12 - h 5 f 0) (b := h 4 f 2) (by have := hr 0 (by omega); have := hr 12 (by omega); omega) (by omega); have u2 := mulB (A := 200) (B := 360000) (a := mU (h 4 f 2) (h 5 f)) (b := h 10 0 2) (by unfold mU; omega) (by omega); omega) ?_
    exact r_lret C d_M_scaledUnits_46 (fun _ => ⟨vl_e rfl, rfl⟩) (by decide) (fun _ => ⟨rfl, rfl, rfl⟩)
  · refine r_tableIn (tgt := 47) C d_M_scaledUnits_11 (by omega) (by omega) rfl (by decide) ?_
    refine r_lload C d_M_scaledUnits_47 rfl ?_
    refine r_aload_n (i0 := 1) C d_M_scaledUnits_49 rfl rfl ?_
    refine r_getI C fl_M_73 d_M_scaledUnits_50 rfl ?_
    refine r_i2l C d_M_scaledUnits_53 ?_
    refine r_aload_n (i0 := 0) C d_M_scaledUnits_54 rfl rfl ?_
    refine r_getI C fl_M_33 d_M_scaledUnits_55 rfl ?_
    refine r_i2l C d_M_scaledUnits_58 ?_
    refine r_lmul C d_M_scaledUnits_59 (by have p1 := mulB (A := 300) (B := 1200) (a := h 4 f 4) (b := h 10 0 6) (by omega) (by omega); have p2 := mulB (A := 360000) (B := 300) (a := h 4 f 4 * h 10 0 6) (b := lk) (by omega) (by omega); omega) ?_
    refine r_lload C d_M_scaledUnits_60 rfl ?_
    refine r_lmul C d_M_scaledUnits_62 (by have p1 := mulB (A := 300) (B := 1200) (a := h 4 f 4) (b := h 10 0 6) (by omega) (by omega); have p2 := mulB (A := 360000) (B := 300) (a := h 4 f 4 * h 10 0 6) (b := lk) (by omega) (by omega); omega) ?_
    refine r_callSp C cl_M_78 st_J_minJ (c_J_minJ hx) rfl rfl d_M_scaledUnits_63 (by decide) (Nat.le_of_ble_eq_true rfl) ?_
    exact r_lret C d_M_scaledUnits_66 (fun _ => ⟨vl_e rfl, rfl⟩) (by decide) (fun _ => ⟨rfl, rfl, rfl⟩)
  · refine r_tableIn (tgt := 67) C d_M_scaledUnits_11 (by omega) (by omega) rfl (by decide) ?_
    refine r_lload C d_M_scaledUnits_67 rfl ?_
    refine r_aload_n (i0 := 1) C d_M_scaledUnits_69 rfl rfl ?_
    refine r_getI C fl_M_70 d_M_scaledUnits_70 rfl ?_
    refine r_i2l C d_M_scaledUnits_73 ?_
    refine r_aload_n (i0 := 0) C d_M_scaledUnits_74 rfl rfl ?_
    refine r_getI C fl_M_26 d_M_scaledUnits_75 rfl ?_
    refine r_i2l C d_M_scaledUnits_78 ?_
    refine r_lmul C d_M_scaledUnits_79 (by have p1 := mulB (A := 300) (B := 1200) (a := h 4 f 0) (b := h 10 0 4) (by omega) (by omega); have p2 := mulB (A := 360000) (B := 1200) (a := h 4 f 0 * h 10 0 4) (b := ls) (by omega) (by omega); omega) ?_
    refine r_lload_n (i0 := 3) C d_M_scaledUnits_80 rfl rfl ?_
    refine r_lmul C d_M_scaledUnits_81 (by have p1 := mulB (A := 300) (B := 1200) (a := h 4 f 0) (b := h 10 0 4) (by omega) (by omega); have p2 := mulB (A := 360000) (B := 1200) (a := h 4 f 0 * h 10 0 4) (b := ls) (by omega) (by omega); omega) ?_
    refine r_callSp C cl_M_78 st_J_minJ (c_J_minJ hx) rfl rfl d_M_scaledUnits_82 (by decide) (Nat.le_of_ble_eq_true rfl) ?_
    exact r_lret C d_M_scaledUnits_85 (fun _ => ⟨vl_e rfl, rfl⟩) (by decide) (fun _ => ⟨rfl, rfl, rfl⟩)
  · refine r_tableOut (tgt := 86) C d_M_scaledUnits_11 (by omega) (by decide) ?_
    refine r_lconst C 0 d_M_scaledUnits_86 (by decide) (by decide) ?_
    exact r_lret C d_M_scaledUnits_87 (fun _ => ⟨vl_e rfl, rfl⟩) (by decide) (fun _ => ⟨rfl, rfl, rfl⟩)
theorem LK_f2 (h : AH) (n : Nat) (kd un : Nat → Int) (a b c d sc au : Int) : LK h n kd un a b c d sc au 2 = h 2 := LK_fr h n kd un a b c d sc au (by decide)
theorem LK_f3 (h : AH) (n : Nat) (kd un : Nat → Int) (a b c d sc au : Int) : LK h n kd un a b c d sc au 3 = h 3 := LK_fr h n kd un a b c d sc au (by decide)
theorem LK_f4 (h : AH) (n : Nat) (kd un : Nat → Int) (a b c d sc au : Int) : LK h n kd un a b c d sc au 4 = h 4 := LK_fr h n kd un a b c d sc au (by decide)
theorem LK_f5 (h : AH) (n : Nat) (kd un : Nat → Int) (a b c d sc au : Int) : LK h n kd un a b c d sc au 5 = h 5 := LK_fr h n kd un a b c d sc au (by decide)
theorem LK_g2 (h : AH) (n : Nat) (kd un : Nat → Int) (a b c d sc au : Int) : LK h n kd un a b c d sc au 10 0 2 = sc := rfl
theorem LK_g3 (h : AH) (n : Nat) (kd un : Nat → Int) (a b c d sc au : Int) : LK h n kd un a b c d sc au 10 0 3 = au := rfl
theorem LK_g4 (h : AH) (n : Nat) (kd un : Nat → Int) (a b c d sc au : Int) : LK h n kd un a b c d sc au 10 0 4 = a := rfl
theorem LK_g5 (h : AH) (n : Nat) (kd un : Nat → Int) (a b c d sc au : Int) : LK h n kd un a b c d sc au 10 0 5 = b := rfl
theorem LK_g6 (h : AH) (n : Nat) (kd un : Nat → Int) (a b c d sc au : Int) : LK h n kd un a b c d sc au 10 0 6 = c := rfl
theorem LK_g7 (h : AH) (n : Nat) (kd un : Nat → Int) (a b c d sc au : Int) : LK h n kd un a b c d sc au 10 0 7 = d := rfl
set_option maxHeartbeats 1000000 in
theorem c_M_look {l : Launch} (hl : l.stackTraces = false) {w : XW} {h : AH} (hc : 0 ≤ h 2 0 1 ∧ h 2 0 1 ≤ 6) (hF : FIc h) : AM l y_M_look (wsM y_M_look b_M_look 8 none []) false (rmV 3 0) w [vO 10 0, vO 2 0] h (RetP none (fun h' => h' = LK h (h 2 0 1).toNat (kdV (h 2 0 1).toNat (cAr h) (cFc h) (cKn h) (cRd h)) (unV (h 2 0 1).toNat (cAr h) (cFc h) (cKn h) (cRd h)) (ruV (h 2 0 1).toNat (cFc h) (cRd h)) (raV (h 2 0 1).toNat (cAr h) (cRd h)) (puV (h 2 0 1).toNat (cFc h) (cKn h) (cRd h)) (plV (h 2 0 1).toNat (cKn h) (cRd h)) (scV (h 2 0 1).toNat (cAr h) (cKn h) (cRd h)) (sumF (h 2 0 1).toNat (unV (h 2 0 1).toNat (cAr h) (cFc h) (cKn h) (cRd h))))) := by
  refine AM.of hl (by decide +kernel) (Nat.le_of_ble_eq_true rfl) fun x hx C _ => ?_
  have hU : ∀ f : Nat, f < (h 2 0 1).toNat → 0 ≤ (unV (h 2 0 1).toNat (cAr h) (cFc h) (cKn h) (cRd h)) f ∧ (unV (h 2 0 1).toNat (cAr h) (cFc h) (cKn h) (cRd h)) f ≤ 72000000 := by
    intro f hf
    have a3 := scV_bd (hF.sub (show (h 2 0 1).toNat ≤ 6 by omega)) (show (h 2 0 1).toNat ≤ 6 by omega)
    have a4 := lsV_bd (hF.sub (show (h 2 0 1).toNat ≤ 6 by omega)) (show (h 2 0 1).toNat ≤ 6 by omega)
    have a5 := lkV_bd (hF.sub (show (h 2 0 1).toNat ≤ 6 by omega)) (show (h 2 0 1).toNat ≤ 6 by omega)
    have a1 := ruV_bd (hF.sub (show (h 2 0 1).toNat ≤ 6 by omega)) (show (h 2 0 1).toNat ≤ 6 by omega)
    have a2 := puV_bd (hF.sub (show (h 2 0 1).toNat ≤ 6 by omega)) (show (h 2 0 1).toNat ≤ 6 by omega)
    have f0 := hF f (by omega)
    dsimp only [cAr, cFc, cKn, cRd] at f0
    have u := unS_bd (k := (kdV (h 2 0 1).toNat (cAr h) (cFc h) (cKn h) (cRd h)) f) (mu := mU (h 4 f 2) (h 5 f)) (kn := h 4 f 4) (ar := h 4 f 0) (pu := (puV (h 2 0 1).toNat (cFc h) (cKn h) (cRd h))) (ru := (ruV (h 2 0 1).toNat (cFc h) (cRd h))) (sc := (scV (h 2 0 1).toNat (cAr h) (cKn h) (cRd h))) (ls := (lsV (h 2 0 1).toNat (cKn h) (cRd h))) (lk := (lkV (h 2 0 1).toNat (cAr h) (cRd h))) (fun z => mU_bd (by have := rdI_01 (h 5 f); unfold kdV kdS at z; dsimp only [cRd, cKn] at z; revert z; (repeat' split) <;> omega) f0.2.2.2 f0.2.1) (fun z => by unfold kdV kdS at z; dsimp only [cRd, cKn] at z; revert z; (repeat' split) <;> omega) f0.1.1 a2.1 a1.1 a3.1 (by omega) (by omega)
    have e : (unV (h 2 0 1).toNat (cAr h) (cFc h) (cKn h) (cRd h)) f = unS ((kdV (h 2 0 1).toNat (cAr h) (cFc h) (cKn h) (cRd h)) f) (mU (h 4 f 2) (h 5 f)) (h 4 f 4) (h 4 f 0) (puV (h 2 0 1).toNat (cFc h) (cKn h) (cRd h)) (ruV (h 2 0 1).toNat (cFc h) (cRd h)) (scV (h 2 0 1).toNat (cAr h) (cKn h) (cRd h)) (lsV (h 2 0 1).toNat (cKn h) (cRd h)) (lkV (h 2 0 1).toNat (cAr h) (cRd h)) := rfl
    omega
  have loop : ∀ (m : Nat) (i : Int), 0 ≤ i → i ≤ h 2 0 1 → (h 2 0 1 - i).toNat = m → AW x w 8 false 0 0 (AQ x w false 0 0 (RetP none (fun h' => h' = LK h (h 2 0 1).toNat (kdV (h 2 0 1).toNat (cAr h) (cFc h) (cKn h) (cRd h)) (unV (h 2 0 1).toNat (cAr h) (cFc h) (cKn h) (cRd h)) (ruV (h 2 0 1).toNat (cFc h) (cRd h)) (raV (h 2 0 1).toNat (cAr h) (cRd h)) (puV (h 2 0 1).toNat (cFc h) (cKn h) (cRd h)) (plV (h 2 0 1).toNat (cKn h) (cRd h)) (scV (h 2 0 1).toNat (cAr h) (cKn h) (cRd h)) (sumF (h 2 0 1).toNat (unV (h 2 0 1).toNat (cAr h) (cFc h) (cKn h) (cRd h)))))) 56 [(6, vI i), (0, vO 10 0), (1, vO 2 0), (2, vL (lsV (h 2 0 1).toNat (cKn h) (cRd h))), (4, vL (lkV (h 2 0 1).toNat (cAr h) (cRd h)))] [] (LK h i.toNat (kdV (h 2 0 1).toNat (cAr h) (cFc h) (cKn h) (cRd h)) (unV (h 2 0 1).toNat (cAr h) (cFc h) (cKn h) (cRd h)) (ruV (h 2 0 1).toNat (cFc h) (cRd h)) (raV (h 2 0 1).toNat (cAr h) (cRd h)) (puV (h 2 0 1).toNat (cFc h) (cKn h) (cRd h)) (plV (h 2 0 1).toNat (cKn h) (cRd h)) (scV (h 2 0 1).toNat (cAr h) (cKn h) (cRd h)) (sumF i.toNat (unV (h 2 0 1).toNat (cAr h) (cFc h) (cKn h) (cRd h)))) := by
    intro m
    induction m using Nat.strongRecOn with
    | _ m ih =>
    intro i hi0 hi1 hm
    refine r_iload C d_M_look_56 rfl ?_
    refine r_aload_n (i0 := 1) C d_M_look_58 rfl rfl ?_
    refine r_getI C fl_M_43 d_M_look_59 rfl ?_
    simp only [hset_fr, hset_tag, hset_slot, hset_same, LK_f2, LK_f3, LK_f4, LK_f5, LK_g2, LK_g3, LK_g4, LK_g5, LK_g6, LK_g7, ne_eq, not_false_eq_true, reduceCtorEq, Nat.reduceEqDiff]
    refine r_icmp_ge (tgt := 132) C d_M_look_62 (by decide) (fun q62 => ?_) (fun q62 => ?_)
    · have e : i.toNat = (h 2 0 1).toNat := (by omega)
      rw [e]
      exact r_vret C d_M_look_132 (⟨rfl, rfl⟩) (by decide) (fun q => nomatch q)
    · refine r_aload_n (i0 := 1) C d_M_look_65 rfl rfl ?_
      refine r_getO C fl_M_48 d_M_look_66 rfl rfl (fun hi => hi) ?_
      refine r_iload C d_M_look_69 rfl ?_
      refine r_aaF C d_M_look_71 (by omega) ?_
      refine r_astore C d_M_look_72 (by decide) ?_
      refine r_aload_n (i0 := 0) C d_M_look_74 rfl rfl ?_
      refine r_getO C fl_M_9 d_M_look_75 rfl rfl (fun hi => hi) ?_
      refine r_iload C d_M_look_78 rfl ?_
      refine r_aload_n (i0 := 0) C d_M_look_80 rfl rfl ?_
      refine r_aload C d_M_look_81 rfl ?_
      refine r_callVp C cl_M_52 im_M_kindOf rfl rfl (c_M_kindOf hx) rfl rfl d_M_look_83 (by decide) (Nat.le_of_ble_eq_true rfl) ?_
      simp only [hset_fr, hset_tag, hset_slot, hset_same, LK_f2, LK_f3, LK_f4, LK_f5, LK_g2, LK_g3, LK_g4, LK_g5, LK_g6, LK_g7, ne_eq, not_false_eq_true, reduceCtorEq, Nat.reduceEqDiff]
      rw [show kdS (rdI (h 5 i.toNat)) (h 4 i.toNat 4) (puV (h 2 0 1).toNat (cFc h) (cKn h) (cRd h)) (plV (h 2 0 1).toNat (cKn h) (cRd h)) (raV (h 2 0 1).toNat (cAr h) (cRd h)) = (kdV (h 2 0 1).toNat (cAr h) (cFc h) (cKn h) (cRd h)) i.toNat from rfl]
      refine r_iastore (ln := 6) C d_M_look_86 rfl (fun _ => rfl) rfl (by omega) ?_
      refine r_aload_n (i0 := 0) C d_M_look_87 rfl rfl ?_
      refine r_getO C fl_M_15 d_M_look_88 rfl rfl (fun hi => hi) ?_
      refine r_iload C d_M_look_91 rfl ?_
      refine r_aload_n (i0 := 0) C d_M_look_93 rfl rfl ?_
      refine r_aload C d_M_look_94 rfl ?_
      refine r_aload_n (i0 := 0) C d_M_look_96 rfl rfl ?_
      refine r_getO C fl_M_9 d_M_look_97 rfl rfl (fun hi => hi) ?_
      refine r_iload C d_M_look_100 rfl ?_
      refine r_iaload (ln := 6) C d_M_look_102 rfl (fun _ => rfl) rfl (by omega) ?_
      rw [hset_same]
      refine r_lload_n (i0 := 2) C d_M_look_103 rfl rfl ?_
      refine r_lload C d_M_look_104 rfl ?_
      refine r_callVp C cl_M_56 im_M_scaledUnits rfl rfl (c_M_scaledUnits hx (by simp only [hset_fr _ _ _ _ (show (5 : Nat) ≠ 11 by decide), LK_f5]; exact (hF i.toNat (by omega)).2.2.2) (by have f0 := hF i.toNat (by omega); dsimp only [cAr, cFc, cKn, cRd] at f0; simp only [hset_fr, hset_tag, hset_slot, hset_same, LK_f2, LK_f3, LK_f4, LK_f5, LK_g2, LK_g3, LK_g4, LK_g5, LK_g6, LK_g7, ne_eq, not_false_eq_true, reduceCtorEq, Nat.reduceEqDiff]; omega) (by have f0 := hF i.toNat (by omega); dsimp only [cAr, cFc, cKn, cRd] at f0; simp only [hset_fr, hset_tag, hset_slot, hset_same, LK_f2, LK_f3, LK_f4, LK_f5, LK_g2, LK_g3, LK_g4, LK_g5, LK_g6, LK_g7, ne_eq, not_false_eq_true, reduceCtorEq, Nat.reduceEqDiff]; omega) (by have f0 := hF i.toNat (by omega); dsimp only [cAr, cFc, cKn, cRd] at f0; simp only [hset_fr, hset_tag, hset_slot, hset_same, LK_f2, LK_f3, LK_f4, LK_f5, LK_g2, LK_g3, LK_g4, LK_g5, LK_g6, LK_g7, ne_eq, not_false_eq_true, reduceCtorEq, Nat.reduceEqDiff]; omega) (by have a1 := ruV_bd (hF.sub (show (h 2 0 1).toNat ≤ 6 by omega)) (show (h 2 0 1).toNat ≤ 6 by omega); have a2 := puV_bd (hF.sub (show (h 2 0 1).toNat ≤ 6 by omega)) (show (h 2 0 1).toNat ≤ 6 by omega); have a3 := scV_bd (hF.sub (show (h 2 0 1).toNat ≤ 6 by omega)) (show (h 2 0 1).toNat ≤ 6 by omega); have a4 := lsV_bd (hF.sub (show (h 2 0 1).toNat ≤ 6 by omega)) (show (h 2 0 1).toNat ≤ 6 by omega); have a5 := lkV_bd (hF.sub (show (h 2 0 1).toNat ≤ 6 by omega)) (show (h 2 0 1).toNat ≤ 6 by omega); simp only [hset_fr, hset_tag, hset_slot, hset_same, LK_f2, LK_f3, LK_f4, LK_f5, LK_g2, LK_g3, LK_g4, LK_g5, LK_g6, LK_g7, ne_eq, not_false_eq_true, reduceCtorEq, Nat.reduceEqDiff]; omega) (by have a1 := ruV_bd (hF.sub (show (h 2 0 1).toNat ≤ 6 by omega)) (show (h 2 0 1).toNat ≤ 6 by omega); have a2 := puV_bd (hF.sub (show (h 2 0 1).toNat ≤ 6 by omega)) (show (h 2 0 1).toNat ≤ 6 by omega); have a3 := scV_bd (hF.sub (show (h 2 0 1).toNat ≤ 6 by omega)) (show (h 2 0 1).toNat ≤ 6 by omega); have a4 := lsV_bd (hF.sub (show (h 2 0 1).toNat ≤ 6 by omega)) (show (h 2 0 1).toNat ≤ 6 by omega); have a5 := lkV_bd (hF.sub (show (h 2 0 1).toNat ≤ 6 by omega)) (show (h 2 0 1).toNat ≤ 6 by omega); simp only [hset_fr, hset_tag, hset_slot, hset_same, LK_f2, LK_f3, LK_f4, LK_f5, LK_g2, LK_g3, LK_g4, LK_g5, LK_g6, LK_g7, ne_eq, not_false_eq_true, reduceCtorEq, Nat.reduceEqDiff]; omega) (by have a1 := ruV_bd (hF.sub (show (h 2 0 1).toNat ≤ 6 by omega)) (show (h 2 0 1).toNat ≤ 6 by omega); have a2 := puV_bd (hF.sub (show (h 2 0 1).toNat ≤ 6 by omega)) (show (h 2 0 1).toNat ≤ 6 by omega); have a3 := scV_bd (hF.sub (show (h 2 0 1).toNat ≤ 6 by omega)) (show (h 2 0 1).toNat ≤ 6 by omega); have a4 := lsV_bd (hF.sub (show (h 2 0 1).toNat ≤ 6 by omega)) (show (h 2 0 1).toNat ≤ 6 by omega); have a5 := lkV_bd (hF.sub (show (h 2 0 1).toNat ≤ 6 by omega)) (show (h 2 0 1).toNat ≤ 6 by omega); simp only [hset_fr, hset_tag, hset_slot, hset_same, LK_f2, LK_f3, LK_f4, LK_f5, LK_g2, LK_g3, LK_g4, LK_g5, LK_g6, LK_g7, ne_eq, not_false_eq_true, reduceCtorEq, Nat.reduceEqDiff]; omega) (by have a1 := ruV_bd (hF.sub (show (h 2 0 1).toNat ≤ 6 by omega)) (show (h 2 0 1).toNat ≤ 6 by omega); have a2 := puV_bd (hF.sub (show (h 2 0 1).toNat ≤ 6 by omega)) (show (h 2 0 1).toNat ≤ 6 by omega); have a3 := scV_bd (hF.sub (show (h 2 0 1).toNat ≤ 6 by omega)) (show (h 2 0 1).toNat ≤ 6 by omega); have a4 := lsV_bd (hF.sub (show (h 2 0 1).toNat ≤ 6 by omega)) (show (h 2 0 1).toNat ≤ 6 by omega); have a5 := lkV_bd (hF.sub (show (h 2 0 1).toNat ≤ 6 by omega)) (show (h 2 0 1).toNat ≤ 6 by omega); omega) (by have a1 := ruV_bd (hF.sub (show (h 2 0 1).toNat ≤ 6 by omega)) (show (h 2 0 1).toNat ≤ 6 by omega); have a2 := puV_bd (hF.sub (show (h 2 0 1).toNat ≤ 6 by omega)) (show (h 2 0 1).toNat ≤ 6 by omega); have a3 := scV_bd (hF.sub (show (h 2 0 1).toNat ≤ 6 by omega)) (show (h 2 0 1).toNat ≤ 6 by omega); have a4 := lsV_bd (hF.sub (show (h 2 0 1).toNat ≤ 6 by omega)) (show (h 2 0 1).toNat ≤ 6 by omega); have a5 := lkV_bd (hF.sub (show (h 2 0 1).toNat ≤ 6 by omega)) (show (h 2 0 1).toNat ≤ 6 by omega); omega) (by unfold kdV kdS; (repeat' split) <;> omega)) rfl rfl d_M_look_106 (by decide) (Nat.le_of_ble_eq_true rfl) ?_
      simp only [hset_fr, hset_tag, hset_slot, hset_same, LK_f2, LK_f3, LK_f4, LK_f5, LK_g2, LK_g3, LK_g4, LK_g5, LK_g6, LK_g7, ne_eq, not_false_eq_true, reduceCtorEq, Nat.reduceEqDiff]
      rw [show unS ((kdV (h 2 0 1).toNat (cAr h) (cFc h) (cKn h) (cRd h)) i.toNat) (mU (h 4 i.toNat 2) (h 5 i.toNat)) (h 4 i.toNat 4) (h 4 i.toNat 0) (puV (h 2 0 1).toNat (cFc h) (cKn h) (cRd h)) (ruV (h 2 0 1).toNat (cFc h) (cRd h)) (scV (h 2 0 1).toNat (cAr h) (cKn h) (cRd h)) (lsV (h 2 0 1).toNat (cKn h) (cRd h)) (lkV (h 2 0 1).toNat (cAr h) (cRd h)) = (unV (h 2 0 1).toNat (cAr h) (cFc h) (cKn h) (cRd h)) i.toNat from rfl]
      refine r_lastore (ln := 6) C d_M_look_109 rfl (fun _ => rfl) rfl (by omega) ?_
      refine r_aload_n (i0 := 0) C d_M_look_110 rfl rfl ?_
      refine r_dup C d_M_look_111 rfl ?_
      refine r_getL C fl_M_23 d_M_look_112 rfl ?_
      simp only [hset_fr, hset_tag, hset_slot, hset_same, LK_f2, LK_f3, LK_f4, LK_f5, LK_g2, LK_g3, LK_g4, LK_g5, LK_g6, LK_g7, ne_eq, not_false_eq_true, reduceCtorEq, Nat.reduceEqDiff]
      refine r_aload_n (i0 := 0) C d_M_look_115 rfl rfl ?_
      refine r_getO C fl_M_15 d_M_look_116 rfl rfl (fun hi => hi) ?_
      refine r_iload C d_M_look_119 rfl ?_
      refine r_laload (ln := 6) C d_M_look_121 rfl (fun _ => rfl) rfl (by omega) ?_
      rw [hset_same]
      refine r_ladd C d_M_look_122 (by have a3 := scV_bd (hF.sub (show (h 2 0 1).toNat ≤ 6 by omega)) (show (h 2 0 1).toNat ≤ 6 by omega); have s0 := sumF_bd (n := i.toNat) (g := (unV (h 2 0 1).toNat (cAr h) (cFc h) (cKn h) (cRd h))) (L := 0) (M := 72000000) (fun k hk => by have u := hU k (by omega); omega); have u1 := hU i.toNat (by omega); omega) ?_
      refine r_putL C pl_M_23 d_M_look_123 rfl ?_
      refine r_iinc C d_M_look_126 rfl (by decide) (by omega) ?_
      refine r_goto (tgt := 56) C d_M_look_129 (by decide) ?_
      have e2 : (i + 1).toNat = i.toNat + 1 := by omega
      rw [LK_step]
      refine AW.lvs [(6, vI (i + 1)), (0, vO 10 0), (1, vO 2 0), (2, vL (lsV (h 2 0 1).toNat (cKn h) (cRd h))), (4, vL (lkV (h 2 0 1).toNat (cAr h) (cRd h)))] ⟨rfl, rfl, rfl, rfl, rfl, trivial⟩ ?_
      have ee := ih (m - 1) (by omega) (i + 1) (by omega) (by omega) (by omega)
      rw [e2, sumF_succ] at ee
      exact ee
  have join38 : ∀ v : Int, v = (lkV (h 2 0 1).toNat (cAr h) (cRd h)) → AW x w 8 false 0 0 (AQ x w false 0 0 (RetP none (fun h' => h' = LK h (h 2 0 1).toNat (kdV (h 2 0 1).toNat (cAr h) (cFc h) (cKn h) (cRd h)) (unV (h 2 0 1).toNat (cAr h) (cFc h) (cKn h) (cRd h)) (ruV (h 2 0 1).toNat (cFc h) (cRd h)) (raV (h 2 0 1).toNat (cAr h) (cRd h)) (puV (h 2 0 1).toNat (cFc h) (cKn h) (cRd h)) (plV (h 2 0 1).toNat (cKn h) (cRd h)) (scV (h 2 0 1).toNat (cAr h) (cKn h) (cRd h)) (sumF (h 2 0 1).toNat (unV (h 2 0 1).toNat (cAr h) (cFc h) (cKn h) (cRd h)))))) 38 [(2, vL (lsV (h 2 0 1).toNat (cKn h) (cRd h))), (0, vO 10 0), (1, vO 2 0)] [vL v] (MS h (ruV (h 2 0 1).toNat (cFc h) (cRd h)) (raV (h 2 0 1).toNat (cAr h) (cRd h)) (puV (h 2 0 1).toNat (cFc h) (cKn h) (cRd h)) (plV (h 2 0 1).toNat (cKn h) (cRd h))) := by
    intro v hv
    subst hv
    refine r_lstore C d_M_look_38 (by decide) ?_
    refine r_aload_n (i0 := 0) C d_M_look_40 rfl rfl ?_
    refine r_lload_n (i0 := 2) C d_M_look_41 rfl rfl ?_
    refine r_lload C d_M_look_42 rfl ?_
    refine r_lmul C d_M_look_44 (by have := scV_bd (hF.sub (show (h 2 0 1).toNat ≤ 6 by omega)) (show (h 2 0 1).toNat ≤ 6 by omega); unfold scV at this; omega) ?_
    refine r_putL C pl_M_19 d_M_look_45 rfl ?_
    rw [show (lsV (h 2 0 1).toNat (cKn h) (cRd h)) * (lkV (h 2 0 1).toNat (cAr h) (cRd h)) = (scV (h 2 0 1).toNat (cAr h) (cKn h) (cRd h)) from rfl]
    refine r_aload_n (i0 := 0) C d_M_look_48 rfl rfl ?_
    refine r_lconst C 0 d_M_look_49 (by decide) (by decide) ?_
    refine r_putL C pl_M_23 d_M_look_50 rfl ?_
    refine r_iconst C d_M_look_53 (by decide) ?_
    refine r_istore C d_M_look_54 (by decide) ?_
    rw [LK_zero h (kdV (h 2 0 1).toNat (cAr h) (cFc h) (cKn h) (cRd h)) (unV (h 2 0 1).toNat (cAr h) (cFc h) (cKn h) (cRd h))]
    refine AW.lvs [(6, vI 0), (0, vO 10 0), (1, vO 2 0), (2, vL (lsV (h 2 0 1).toNat (cKn h) (cRd h))), (4, vL (lkV (h 2 0 1).toNat (cAr h) (cRd h)))] ⟨rfl, rfl, rfl, rfl, rfl, trivial⟩ ?_
    exact loop _ 0 (by omega) (by omega) rfl
  have join21 : ∀ v : Int, v = (lsV (h 2 0 1).toNat (cKn h) (cRd h)) → AW x w 8 false 0 0 (AQ x w false 0 0 (RetP none (fun h' => h' = LK h (h 2 0 1).toNat (kdV (h 2 0 1).toNat (cAr h) (cFc h) (cKn h) (cRd h)) (unV (h 2 0 1).toNat (cAr h) (cFc h) (cKn h) (cRd h)) (ruV (h 2 0 1).toNat (cFc h) (cRd h)) (raV (h 2 0 1).toNat (cAr h) (cRd h)) (puV (h 2 0 1).toNat (cFc h) (cKn h) (cRd h)) (plV (h 2 0 1).toNat (cKn h) (cRd h)) (scV (h 2 0 1).toNat (cAr h) (cKn h) (cRd h)) (sumF (h 2 0 1).toNat (unV (h 2 0 1).toNat (cAr h) (cFc h) (cKn h) (cRd h)))))) 21 [(0, vO 10 0), (1, vO 2 0)] [vL v] (MS h (ruV (h 2 0 1).toNat (cFc h) (cRd h)) (raV (h 2 0 1).toNat (cAr h) (cRd h)) (puV (h 2 0 1).toNat (cFc h) (cKn h) (cRd h)) (plV (h 2 0 1).toNat (cKn h) (cRd h))) := by
    intro v hv
    subst hv
    refine r_lstore_n (i0 := 2) C d_M_look_21 rfl (by decide) ?_
    refine r_aload_n (i0 := 0) C d_M_look_22 rfl rfl ?_
    refine r_getI C fl_M_30 d_M_look_23 rfl ?_
    rw [MS_g5]
    refine r_if_le (tgt := 37) C d_M_look_26 (by decide) (fun q26 => ?_) (fun q26 => ?_)
    · refine r_lconst C 1 d_M_look_37 (by decide) (by decide) ?_
      exact join38 _ (by unfold lkV or1; first | (rw [if_pos (by omega)]; done) | (rw [if_neg (by omega)]; done))
    · refine r_aload_n (i0 := 0) C d_M_look_29 rfl rfl ?_
      refine r_getI C fl_M_30 d_M_look_30 rfl ?_
      rw [MS_g5]
      refine r_i2l C d_M_look_33 ?_
      refine r_goto (tgt := 38) C d_M_look_34 (by decide) ?_
      exact join38 _ (by unfold lkV or1; first | (rw [if_pos (by omega)]; done) | (rw [if_neg (by omega)]; done))
  refine r_aload_n (i0 := 0) C d_M_look_0 rfl rfl ?_
  refine r_aload_n (i0 := 1) C d_M_look_1 rfl rfl ?_
  refine r_callVw C cl_M_39 im_M_sumRead rfl rfl (c_M_sumRead hx hc hF) rfl rfl d_M_look_2 (by decide) (by decide) (Nat.le_of_ble_eq_true rfl) (fun h2 p2 => ?_)
  subst p2
  change AW x w 8 false 0 0 _ _ _ _ (MS h (ruV (h 2 0 1).toNat (cFc h) (cRd h)) (raV (h 2 0 1).toNat (cAr h) (cRd h)) (puV (h 2 0 1).toNat (cFc h) (cKn h) (cRd h)) (plV (h 2 0 1).toNat (cKn h) (cRd h)))
  refine r_aload_n (i0 := 0) C d_M_look_5 rfl rfl ?_
  refine r_getI C fl_M_36 d_M_look_6 rfl ?_
  rw [MS_g7]
  refine r_if_le (tgt := 20) C d_M_look_9 (by decide) (fun q9 => ?_) (fun q9 => ?_)
  · refine r_lconst C 1 d_M_look_20 (by decide) (by decide) ?_
    exact join21 _ (by unfold lsV or1; first | (rw [if_pos (by omega)]; done) | (rw [if_neg (by omega)]; done))
  · refine r_aload_n (i0 := 0) C d_M_look_12 rfl rfl ?_
    refine r_getI C fl_M_36 d_M_look_13 rfl ?_
    rw [MS_g7]
    refine r_i2l C d_M_look_16 ?_
    refine r_goto (tgt := 21) C d_M_look_17 (by decide) ?_
    exact join21 _ (by unfold lsV or1; first | (rw [if_pos (by omega)]; done) | (rw [if_neg (by omega)]; done))

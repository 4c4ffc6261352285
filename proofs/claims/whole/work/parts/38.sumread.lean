/-! Contracts: Meters.sumRead. -/
set_option maxHeartbeats 1000000 in
theorem c_M_sumRead {l : Launch} (hl : l.stackTraces = false) {w : XW} {h : AH} (hc : 0 ≤ h 2 0 1 ∧ h 2 0 1 ≤ 6) (hF : FIc h) : AM l y_M_sumRead (wsM y_M_sumRead b_M_sumRead 4 none []) false (rmV 2 0) w [vO 10 0, vO 2 0] h (RetP none (fun h' => h' = MS h (sumF (h 2 0 1).toNat (ruG (cFc h) (cRd h))) (sumF (h 2 0 1).toNat (raG (cAr h) (cRd h))) (sumF (h 2 0 1).toNat (puG (cFc h) (cKn h) (cRd h))) (sumF (h 2 0 1).toNat (plG (cKn h) (cRd h))))) := by
  refine AM.of hl (by decide +kernel) (Nat.le_of_ble_eq_true rfl) fun x hx C _ => ?_
  have loop : ∀ (m : Nat) (i A B G D : Int), 0 ≤ i → i ≤ h 2 0 1 → (h 2 0 1 - i).toNat = m → A = sumF i.toNat (ruG (cFc h) (cRd h)) → B = sumF i.toNat (raG (cAr h) (cRd h)) → G = sumF i.toNat (puG (cFc h) (cKn h) (cRd h)) → D = sumF i.toNat (plG (cKn h) (cRd h)) → AW x w 4 false 0 0 (AQ x w false 0 0 (RetP none (fun h' => h' = MS h (sumF (h 2 0 1).toNat (ruG (cFc h) (cRd h))) (sumF (h 2 0 1).toNat (raG (cAr h) (cRd h))) (sumF (h 2 0 1).toNat (puG (cFc h) (cKn h) (cRd h))) (sumF (h 2 0 1).toNat (plG (cKn h) (cRd h)))))) 22 [(2, vI i), (0, vO 10 0), (1, vO 2 0)] [] (MS h A B G D) := by
    intro m
    induction m using Nat.strongRecOn with
    | _ m ih =>
    intro i A B G D hi0 hi1 hm hA hB hG hD
    refine r_iload_n (i0 := 2) C d_M_sumRead_22 rfl rfl ?_
    refine r_aload_n (i0 := 1) C d_M_sumRead_23 rfl rfl ?_
    refine r_getI C fl_M_43 d_M_sumRead_24 rfl ?_
    simp only [MS_fr _ _ _ _ _ (show (2 : Nat) ≠ 10 by decide)]
    refine r_icmp_ge (tgt := 110) C d_M_sumRead_27 (by decide) (fun q27 => ?_) (fun q27 => ?_)
    · have e : i.toNat = (h 2 0 1).toNat := (by have : h 2 0 1 ≤ i := q27; omega)
      exact r_vret C d_M_sumRead_110 (⟨rfl, by rw [hA, hB, hG, hD, e]⟩) (by decide) (fun q => nomatch q)
    · refine r_aload_n (i0 := 1) C d_M_sumRead_30 rfl rfl ?_
      refine r_getO C fl_M_48 d_M_sumRead_31 rfl rfl (fun hi => hi) ?_
      refine r_iload_n (i0 := 2) C d_M_sumRead_34 rfl rfl ?_
      refine r_aaF C d_M_sumRead_35 (by have : ¬ h 2 0 1 ≤ i := q27; omega) ?_
      refine r_astore_n (i0 := 3) C d_M_sumRead_36 rfl (by decide) ?_
      refine r_aload_n (i0 := 3) C d_M_sumRead_37 rfl rfl ?_
      refine r_callVp C cl_M_60 im_F_isMeterRead rfl rfl (c_F_isMeterRead hx) rfl rfl d_M_sumRead_38 (by decide) (Nat.le_of_ble_eq_true rfl) ?_
      simp only [MS_fr _ _ _ _ _ (show (5 : Nat) ≠ 10 by decide), MS_fr _ _ _ _ _ (show (4 : Nat) ≠ 10 by decide)]
      refine r_if_eq (tgt := 104) C d_M_sumRead_41 (by decide) (fun q41 => ?_) (fun q41 => ?_)
      · refine r_iinc C d_M_sumRead_104 rfl (by decide) (by omega) ?_
        refine r_goto (tgt := 22) C d_M_sumRead_107 (by decide) ?_
        refine AW.lvs [(2, vI (i + 1)), (0, vO 10 0), (1, vO 2 0)] ⟨rfl, rfl, rfl, trivial⟩ (ih (m - 1) (by omega) (i + 1) _ _ _ _ (by omega) (by omega) (by omega) ?_ ?_ ?_ ?_)
        · exact (by rw [sumF_int hi0, ← hA]; unfold ruG; (try dsimp only [cAr, cFc, cKn, cRd]); have := rdI_01 (h 5 i.toNat); (repeat' split) <;> omega)
        · exact (by rw [sumF_int hi0, ← hB]; unfold raG; (try dsimp only [cAr, cFc, cKn, cRd]); have := rdI_01 (h 5 i.toNat); (repeat' split) <;> omega)
        · exact (by rw [sumF_int hi0, ← hG]; unfold puG; (try dsimp only [cAr, cFc, cKn, cRd]); have := rdI_01 (h 5 i.toNat); (repeat' split) <;> omega)
        · exact (by rw [sumF_int hi0, ← hD]; unfold plG; (try dsimp only [cAr, cFc, cKn, cRd]); have := rdI_01 (h 5 i.toNat); (repeat' split) <;> omega)
      · refine r_aload_n (i0 := 0) C d_M_sumRead_44 rfl rfl ?_
        refine r_dup C d_M_sumRead_45 rfl ?_
        refine r_getI C fl_M_26 d_M_sumRead_46 rfl ?_
        rw [MS_g4]
        refine r_aload_n (i0 := 3) C d_M_sumRead_49 rfl rfl ?_
        refine r_callVp C cl_M_66 im_F_unitsOfYear rfl rfl (c_F_unitsOfYear hx (fun t ht => (hF i.toNat (by omega)).2.2.2 t ht) (hF i.toNat (by omega)).2.1) rfl rfl d_M_sumRead_50 (by decide) (Nat.le_of_ble_eq_true rfl) ?_
        simp only [MS_fr _ _ _ _ _ (show (5 : Nat) ≠ 10 by decide), MS_fr _ _ _ _ _ (show (4 : Nat) ≠ 10 by decide)]
        refine r_iadd C d_M_sumRead_53 (by have b1 := ru_bd (hF.sub (show i.toNat ≤ 6 by omega)); have b2 := ra_bd (hF.sub (show i.toNat ≤ 6 by omega)); have b3 := pu_bd (hF.sub (show i.toNat ≤ 6 by omega)); have b4 := pl_bd (hF.sub (show i.toNat ≤ 6 by omega)); have f0 := hF i.toNat (by omega); dsimp only [cAr, cFc, cKn, cRd] at f0; have m0 := mU_bd (fc := h 4 i.toNat 2) (r := h 5 i.toNat) (by have := rdI_01 (h 5 i.toNat); omega) f0.2.2.2 f0.2.1; omega) ?_
        refine r_putI C pl_M_26 d_M_sumRead_54 rfl ?_
        rw [MS_4]
        refine r_aload_n (i0 := 0) C d_M_sumRead_57 rfl rfl ?_
        refine r_dup C d_M_sumRead_58 rfl ?_
        refine r_getI C fl_M_30 d_M_sumRead_59 rfl ?_
        rw [MS_g5]
        refine r_aload_n (i0 := 3) C d_M_sumRead_62 rfl rfl ?_
        refine r_getI C fl_M_70 d_M_sumRead_63 rfl ?_
        simp only [MS_fr _ _ _ _ _ (show (5 : Nat) ≠ 10 by decide), MS_fr _ _ _ _ _ (show (4 : Nat) ≠ 10 by decide)]
        refine r_iadd C d_M_sumRead_66 (by have b1 := ru_bd (hF.sub (show i.toNat ≤ 6 by omega)); have b2 := ra_bd (hF.sub (show i.toNat ≤ 6 by omega)); have b3 := pu_bd (hF.sub (show i.toNat ≤ 6 by omega)); have b4 := pl_bd (hF.sub (show i.toNat ≤ 6 by omega)); have f0 := hF i.toNat (by omega); dsimp only [cAr, cFc, cKn, cRd] at f0; have m0 := mU_bd (fc := h 4 i.toNat 2) (r := h 5 i.toNat) (by have := rdI_01 (h 5 i.toNat); omega) f0.2.2.2 f0.2.1; omega) ?_
        refine r_putI C pl_M_30 d_M_sumRead_67 rfl ?_
        rw [MS_5]
        refine r_aload_n (i0 := 3) C d_M_sumRead_70 rfl rfl ?_
        refine r_getI C fl_M_73 d_M_sumRead_71 rfl ?_
        simp only [MS_fr _ _ _ _ _ (show (5 : Nat) ≠ 10 by decide), MS_fr _ _ _ _ _ (show (4 : Nat) ≠ 10 by decide)]
        refine r_iconst C d_M_sumRead_74 (by decide) ?_
        refine r_icmp_eq (tgt := 104) C d_M_sumRead_75 (by decide) (fun q75 => ?_) (fun q75 => ?_)
        · refine r_iinc C d_M_sumRead_104 rfl (by decide) (by omega) ?_
          refine r_goto (tgt := 22) C d_M_sumRead_107 (by decide) ?_
          refine AW.lvs [(2, vI (i + 1)), (0, vO 10 0), (1, vO 2 0)] ⟨rfl, rfl, rfl, trivial⟩ (ih (m - 1) (by omega) (i + 1) _ _ _ _ (by omega) (by omega) (by omega) ?_ ?_ ?_ ?_)
          · exact (by rw [sumF_int hi0, ← hA]; unfold ruG; (try dsimp only [cAr, cFc, cKn, cRd]); have := rdI_01 (h 5 i.toNat); (repeat' split) <;> omega)
          · exact (by rw [sumF_int hi0, ← hB]; unfold raG; (try dsimp only [cAr, cFc, cKn, cRd]); have := rdI_01 (h 5 i.toNat); (repeat' split) <;> omega)
          · exact (by rw [sumF_int hi0, ← hG]; unfold puG; (try dsimp only [cAr, cFc, cKn, cRd]); have := rdI_01 (h 5 i.toNat); (repeat' split) <;> omega)
          · exact (by rw [sumF_int hi0, ← hD]; unfold plG; (try dsimp only [cAr, cFc, cKn, cRd]); have := rdI_01 (h 5 i.toNat); (repeat' split) <;> omega)
        · refine r_aload_n (i0 := 0) C d_M_sumRead_78 rfl rfl ?_
          refine r_dup C d_M_sumRead_79 rfl ?_
          refine r_getI C fl_M_33 d_M_sumRead_80 rfl ?_
          rw [MS_g6]
          refine r_aload_n (i0 := 3) C d_M_sumRead_83 rfl rfl ?_
          refine r_callVp C cl_M_66 im_F_unitsOfYear rfl rfl (c_F_unitsOfYear hx (fun t ht => (hF i.toNat (by omega)).2.2.2 t ht) (hF i.toNat (by omega)).2.1) rfl rfl d_M_sumRead_84 (by decide) (Nat.le_of_ble_eq_true rfl) ?_
          simp only [MS_fr _ _ _ _ _ (show (5 : Nat) ≠ 10 by decide), MS_fr _ _ _ _ _ (show (4 : Nat) ≠ 10 by decide)]
          refine r_iadd C d_M_sumRead_87 (by have b1 := ru_bd (hF.sub (show i.toNat ≤ 6 by omega)); have b2 := ra_bd (hF.sub (show i.toNat ≤ 6 by omega)); have b3 := pu_bd (hF.sub (show i.toNat ≤ 6 by omega)); have b4 := pl_bd (hF.sub (show i.toNat ≤ 6 by omega)); have f0 := hF i.toNat (by omega); dsimp only [cAr, cFc, cKn, cRd] at f0; have m0 := mU_bd (fc := h 4 i.toNat 2) (r := h 5 i.toNat) (by have := rdI_01 (h 5 i.toNat); omega) f0.2.2.2 f0.2.1; omega) ?_
          refine r_putI C pl_M_33 d_M_sumRead_88 rfl ?_
          rw [MS_6]
          refine r_aload_n (i0 := 0) C d_M_sumRead_91 rfl rfl ?_
          refine r_dup C d_M_sumRead_92 rfl ?_
          refine r_getI C fl_M_36 d_M_sumRead_93 rfl ?_
          rw [MS_g7]
          refine r_aload_n (i0 := 3) C d_M_sumRead_96 rfl rfl ?_
          refine r_getI C fl_M_73 d_M_sumRead_97 rfl ?_
          simp only [MS_fr _ _ _ _ _ (show (5 : Nat) ≠ 10 by decide), MS_fr _ _ _ _ _ (show (4 : Nat) ≠ 10 by decide)]
          refine r_iadd C d_M_sumRead_100 (by have b1 := ru_bd (hF.sub (show i.toNat ≤ 6 by omega)); have b2 := ra_bd (hF.sub (show i.toNat ≤ 6 by omega)); have b3 := pu_bd (hF.sub (show i.toNat ≤ 6 by omega)); have b4 := pl_bd (hF.sub (show i.toNat ≤ 6 by omega)); have f0 := hF i.toNat (by omega); dsimp only [cAr, cFc, cKn, cRd] at f0; have m0 := mU_bd (fc := h 4 i.toNat 2) (r := h 5 i.toNat) (by have := rdI_01 (h 5 i.toNat); omega) f0.2.2.2 f0.2.1; omega) ?_
          refine r_putI C pl_M_36 d_M_sumRead_101 rfl ?_
          rw [MS_7]
          refine r_iinc C d_M_sumRead_104 rfl (by decide) (by omega) ?_
          refine r_goto (tgt := 22) C d_M_sumRead_107 (by decide) ?_
          refine AW.lvs [(2, vI (i + 1)), (0, vO 10 0), (1, vO 2 0)] ⟨rfl, rfl, rfl, trivial⟩ (ih (m - 1) (by omega) (i + 1) _ _ _ _ (by omega) (by omega) (by omega) ?_ ?_ ?_ ?_)
          · exact (by rw [sumF_int hi0, ← hA]; unfold ruG; (try dsimp only [cAr, cFc, cKn, cRd]); have := rdI_01 (h 5 i.toNat); (repeat' split) <;> omega)
          · exact (by rw [sumF_int hi0, ← hB]; unfold raG; (try dsimp only [cAr, cFc, cKn, cRd]); have := rdI_01 (h 5 i.toNat); (repeat' split) <;> omega)
          · exact (by rw [sumF_int hi0, ← hG]; unfold puG; (try dsimp only [cAr, cFc, cKn, cRd]); have := rdI_01 (h 5 i.toNat); (repeat' split) <;> omega)
          · exact (by rw [sumF_int hi0, ← hD]; unfold plG; (try dsimp only [cAr, cFc, cKn, cRd]); have := rdI_01 (h 5 i.toNat); (repeat' split) <;> omega)
  refine r_aload_n (i0 := 0) C d_M_sumRead_0 rfl rfl ?_
  refine r_iconst C d_M_sumRead_1 (by decide) ?_
  refine r_putI C pl_M_26 d_M_sumRead_2 rfl ?_
  refine r_aload_n (i0 := 0) C d_M_sumRead_5 rfl rfl ?_
  refine r_iconst C d_M_sumRead_6 (by decide) ?_
  refine r_putI C pl_M_30 d_M_sumRead_7 rfl ?_
  refine r_aload_n (i0 := 0) C d_M_sumRead_10 rfl rfl ?_
  refine r_iconst C d_M_sumRead_11 (by decide) ?_
  refine r_putI C pl_M_33 d_M_sumRead_12 rfl ?_
  refine r_aload_n (i0 := 0) C d_M_sumRead_15 rfl rfl ?_
  refine r_iconst C d_M_sumRead_16 (by decide) ?_
  refine r_putI C pl_M_36 d_M_sumRead_17 rfl ?_
  refine r_iconst C d_M_sumRead_20 (by decide) ?_
  refine r_istore_n (i0 := 2) C d_M_sumRead_21 rfl (by decide) ?_
  have e0 := loop _ 0 0 0 0 0 (by omega) (by omega) rfl rfl rfl rfl rfl
  have e1 : MS h 0 0 0 0 = hset (hset (hset (hset h 10 0 4 0) 10 0 5 0) 10 0 6 0) 10 0 7 0 := by
    conv => rhs; rw [← MS_self h]
    simp only [MS_4, MS_5, MS_6, MS_7]
  rw [e1] at e0
  exact e0

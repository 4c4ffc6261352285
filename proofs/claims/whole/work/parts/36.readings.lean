/-! Contracts: readings. -/
set_option maxHeartbeats 1000000 in
theorem c_F_isMeterRead {l : Launch} (hl : l.stackTraces = false) {w : XW} {h : AH} {f : Nat} : AM l y_F_isMeterRead (wsM y_F_isMeterRead b_F_isMeterRead 3 (some .boolean) []) true (rmV 0 0) w [vO 4 f] h (Ret (some (vI (rdI (h 5 f)))) h) := by
  refine AM.of hl (by decide +kernel) (Nat.le_of_ble_eq_true rfl) fun x hx C _ => ?_
  have loop : ∀ (m : Nat) (t : Int), 1 ≤ t → t ≤ 13 → (13 - t).toNat = m → gI (h 5 f) (t - 1).toNat = 1 → AW x w 3 true 0 0 (AQ x w true 0 0 (Ret (some (vI (rdI (h 5 f)))) h)) 32 [(2, vI t), (1, vI (lastR (h 5 f) (t - 1).toNat)), (0, vO 4 f)] [] h := by
    intro m
    induction m using Nat.strongRecOn with
    | _ m ih =>
    intro t ht0 ht1 hm hg
    refine r_iload_n (i0 := 2) C d_F_isMeterRead_32 rfl rfl ?_
    refine r_bipush C d_F_isMeterRead_33 (by decide) (by decide) ?_
    refine r_icmp_gt (tgt := 73) C d_F_isMeterRead_35 (by decide) (fun q35 => ?_) (fun q35 => ?_)
    · refine r_iconst C d_F_isMeterRead_73 (by decide) ?_
      exact r_zret C d_F_isMeterRead_74 (by omega) (⟨vi_e (by have k1 : (t - 1).toNat = 12 := (by omega); rw [k1] at hg; exact hg.symm), rfl⟩) (by decide) (fun _ => ⟨rfl, rfl, rfl⟩)
    · refine r_aload_n (i0 := 0) C d_F_isMeterRead_38 rfl rfl ?_
      refine r_getO C fl_F_27 d_F_isMeterRead_39 rfl rfl (fun hi => hi) ?_
      refine r_iload_n (i0 := 2) C d_F_isMeterRead_42 rfl rfl ?_
      refine r_iaload (ln := 13) C d_F_isMeterRead_43 rfl (fun _ => rfl) rfl (by omega) ?_
      refine r_iconst C d_F_isMeterRead_44 (by decide) ?_
      refine r_icmp_eq (tgt := 67) C d_F_isMeterRead_45 (by decide) (fun q45 => ?_) (fun q45 => ?_)
      · refine r_iinc C d_F_isMeterRead_67 rfl (by decide) (by omega) ?_
        refine r_goto (tgt := 32) C d_F_isMeterRead_70 (by decide) ?_
        have k1 : t.toNat = (t - 1).toNat + 1 := by omega
        have k2 : (t + 1 - 1).toNat = (t - 1).toNat + 1 := by omega
        by_cases z : (h 5 f) t.toNat = -1
        · refine AW.lvs [(2, vI (t + 1)), (1, vI (lastR (h 5 f) (t + 1 - 1).toNat)), (0, vO 4 f)] ⟨rfl, ?_, rfl, trivial⟩ (ih (m - 1) (by omega) (t + 1) (by omega) (by omega) (by omega) (by rw [k2, gI_keep (Or.inl (by rw [← k1]; exact z))]; exact hg))
          first | (rw [k2, lastR_skip (by rw [← k1]; exact z)]; rfl) | (exfalso; omega)
        · refine AW.lvs [(2, vI (t + 1)), (1, vI (lastR (h 5 f) (t + 1 - 1).toNat)), (0, vO 4 f)] ⟨rfl, ?_, rfl, trivial⟩ (ih (m - 1) (by omega) (t + 1) (by omega) (by omega) (by omega) (by rw [k2, gI_keep (Or.inr (by rw [← k1]; omega))]; exact hg))
          first | (rw [k2, lastR_new (by rw [← k1]; exact z), ← k1]; rfl) | (exfalso; omega)
      · refine r_aload_n (i0 := 0) C d_F_isMeterRead_48 rfl rfl ?_
        refine r_getO C fl_F_27 d_F_isMeterRead_49 rfl rfl (fun hi => hi) ?_
        refine r_iload_n (i0 := 2) C d_F_isMeterRead_52 rfl rfl ?_
        refine r_iaload (ln := 13) C d_F_isMeterRead_53 rfl (fun _ => rfl) rfl (by omega) ?_
        refine r_iload_n (i0 := 1) C d_F_isMeterRead_54 rfl rfl ?_
        refine r_icmp_ge (tgt := 60) C d_F_isMeterRead_55 (by decide) (fun q55 => ?_) (fun q55 => ?_)
        · refine r_aload_n (i0 := 0) C d_F_isMeterRead_60 rfl rfl ?_
          refine r_getO C fl_F_27 d_F_isMeterRead_61 rfl rfl (fun hi => hi) ?_
          refine r_iload_n (i0 := 2) C d_F_isMeterRead_64 rfl rfl ?_
          refine r_iaload (ln := 13) C d_F_isMeterRead_65 rfl (fun _ => rfl) rfl (by omega) ?_
          refine r_istore_n (i0 := 1) C d_F_isMeterRead_66 rfl (by decide) ?_
          refine r_iinc C d_F_isMeterRead_67 rfl (by decide) (by omega) ?_
          refine r_goto (tgt := 32) C d_F_isMeterRead_70 (by decide) ?_
          have k1 : t.toNat = (t - 1).toNat + 1 := by omega
          have k2 : (t + 1 - 1).toNat = (t - 1).toNat + 1 := by omega
          by_cases z : (h 5 f) t.toNat = -1
          · refine AW.lvs [(2, vI (t + 1)), (1, vI (lastR (h 5 f) (t + 1 - 1).toNat)), (0, vO 4 f)] ⟨rfl, ?_, rfl, trivial⟩ (ih (m - 1) (by omega) (t + 1) (by omega) (by omega) (by omega) (by rw [k2, gI_keep (Or.inl (by rw [← k1]; exact z))]; exact hg))
            first | (rw [k2, lastR_skip (by rw [← k1]; exact z)]; rfl) | (exfalso; omega)
          · refine AW.lvs [(2, vI (t + 1)), (1, vI (lastR (h 5 f) (t + 1 - 1).toNat)), (0, vO 4 f)] ⟨rfl, ?_, rfl, trivial⟩ (ih (m - 1) (by omega) (t + 1) (by omega) (by omega) (by omega) (by rw [k2, gI_keep (Or.inr (by rw [← k1]; omega))]; exact hg))
            first | (rw [k2, lastR_new (by rw [← k1]; exact z), ← k1]; rfl) | (exfalso; omega)
        · refine r_iconst C d_F_isMeterRead_58 (by decide) ?_
          exact r_zret C d_F_isMeterRead_59 (by omega) (⟨vi_e (by have k1 : t.toNat = (t - 1).toNat + 1 := (by omega); have z := gI_zero_le (gI_bad (r := (h 5 f)) (k := (t - 1).toNat) (by rw [← k1]; omega) (by rw [← k1]; omega)) (12 - t.toNat); rw [← k1, show t.toNat + (12 - t.toNat) = 12 by omega] at z; exact z.symm), rfl⟩) (by decide) (fun _ => ⟨rfl, rfl, rfl⟩)
  refine r_aload_n (i0 := 0) C d_F_isMeterRead_0 rfl rfl ?_
  refine r_getO C fl_F_27 d_F_isMeterRead_1 rfl rfl (fun hi => hi) ?_
  refine r_iconst C d_F_isMeterRead_4 (by decide) ?_
  refine r_iaload (ln := 13) C d_F_isMeterRead_5 rfl (fun _ => rfl) rfl (by omega) ?_
  rw [show (0 : Int).toNat = 0 from rfl]
  refine r_iconst C d_F_isMeterRead_6 (by decide) ?_
  refine r_icmp_eq (tgt := 21) C d_F_isMeterRead_7 (by decide) (fun q7 => ?_) (fun q7 => ?_)
  · refine r_iconst C d_F_isMeterRead_21 (by decide) ?_
    exact r_zret C d_F_isMeterRead_22 (by omega) (⟨vi_e (gI_none (by omega)).symm, rfl⟩) (by decide) (fun _ => ⟨rfl, rfl, rfl⟩)
  · refine r_aload_n (i0 := 0) C d_F_isMeterRead_10 rfl rfl ?_
    refine r_getO C fl_F_27 d_F_isMeterRead_11 rfl rfl (fun hi => hi) ?_
    refine r_bipush C d_F_isMeterRead_14 (by decide) (by decide) ?_
    refine r_iaload (ln := 13) C d_F_isMeterRead_16 rfl (fun _ => rfl) rfl (by omega) ?_
    rw [show (12 : Int).toNat = 12 from rfl]
    refine r_iconst C d_F_isMeterRead_17 (by decide) ?_
    refine r_icmp_ne (tgt := 23) C d_F_isMeterRead_18 (by decide) (fun q18 => ?_) (fun q18 => ?_)
    · refine r_aload_n (i0 := 0) C d_F_isMeterRead_23 rfl rfl ?_
      refine r_getO C fl_F_27 d_F_isMeterRead_24 rfl rfl (fun hi => hi) ?_
      refine r_iconst C d_F_isMeterRead_27 (by decide) ?_
      refine r_iaload (ln := 13) C d_F_isMeterRead_28 rfl (fun _ => rfl) rfl (by omega) ?_
      rw [show (0 : Int).toNat = 0 from rfl]
      refine r_istore_n (i0 := 1) C d_F_isMeterRead_29 rfl (by decide) ?_
      refine r_iconst C d_F_isMeterRead_30 (by decide) ?_
      refine r_istore_n (i0 := 2) C d_F_isMeterRead_31 rfl (by decide) ?_
      exact loop _ 1 (by omega) (by omega) rfl (gI_start (by omega) (by omega))
    · refine r_iconst C d_F_isMeterRead_21 (by decide) ?_
      exact r_zret C d_F_isMeterRead_22 (by omega) (⟨vi_e (gI_none (by omega)).symm, rfl⟩) (by decide) (fun _ => ⟨rfl, rfl, rfl⟩)
theorem ubd {x y : Int} (hx : -100 ≤ x ∧ x ≤ 100) (hy : 0 ≤ y ∧ y ≤ 2) : -2147483648 ≤ x * y ∧ x * y ≤ 2147483647 := by
  have : y = 0 ∨ y = 1 ∨ y = 2 := by omega
  rcases this with rfl | rfl | rfl <;> omega
set_option maxHeartbeats 1000000 in
theorem c_F_unitsBetween {l : Launch} (hl : l.stackTraces = false) {w : XW} {h : AH} {f : Nat} {a b : Int} (hr : ∀ t : Nat, t < 13 → -1 ≤ h 5 f t ∧ h 5 f t ≤ 99) (hf : 0 ≤ h 4 f 2 ∧ h 4 f 2 ≤ 2) (ha : 0 ≤ a ∧ a < 13) (hb : 0 ≤ b ∧ b < 13) : AM l y_F_unitsBetween (wsM y_F_unitsBetween b_F_unitsBetween 3 (some .int) []) true (rmV 0 0) w [vO 4 f, vI a, vI b] h (Ret (some (vI ((h 5 f b.toNat - h 5 f a.toNat) * h 4 f 2))) h) := by
  refine AM.of hl (by decide +kernel) (Nat.le_of_ble_eq_true rfl) fun x hx C _ => ?_
  refine r_aload_n (i0 := 0) C d_F_unitsBetween_0 rfl rfl ?_
  refine r_getO C fl_F_27 d_F_unitsBetween_1 rfl rfl (fun hi => hi) ?_
  refine r_iload_n (i0 := 2) C d_F_unitsBetween_4 rfl rfl ?_
  refine r_iaload (ln := 13) C d_F_unitsBetween_5 rfl (fun _ => rfl) rfl (by omega) ?_
  refine r_aload_n (i0 := 0) C d_F_unitsBetween_6 rfl rfl ?_
  refine r_getO C fl_F_27 d_F_unitsBetween_7 rfl rfl (fun hi => hi) ?_
  refine r_iload_n (i0 := 1) C d_F_unitsBetween_10 rfl rfl ?_
  refine r_iaload (ln := 13) C d_F_unitsBetween_11 rfl (fun _ => rfl) rfl (by omega) ?_
  refine r_isub C d_F_unitsBetween_12 (by have := hr a.toNat (by omega); have := hr b.toNat (by omega); omega) ?_
  refine r_aload_n (i0 := 0) C d_F_unitsBetween_13 rfl rfl ?_
  refine r_getI C fl_F_18 d_F_unitsBetween_14 rfl ?_
  refine r_imul C d_F_unitsBetween_17 (ubd (by have := hr a.toNat (by omega); have := hr b.toNat (by omega); omega) hf) ?_
  exact r_iret C d_F_unitsBetween_18 (fun _ => ⟨rfl, rfl⟩) (by decide) (fun _ => ⟨rfl, rfl, rfl⟩)
set_option maxHeartbeats 1000000 in
theorem c_F_unitsOfYear {l : Launch} (hl : l.stackTraces = false) {w : XW} {h : AH} {f : Nat} (hr : ∀ t : Nat, t < 13 → -1 ≤ h 5 f t ∧ h 5 f t ≤ 99) (hf : 0 ≤ h 4 f 2 ∧ h 4 f 2 ≤ 2) : AM l y_F_unitsOfYear (wsM y_F_unitsOfYear b_F_unitsOfYear 1 (some .int) []) true (rmV 1 0) w [vO 4 f] h (Ret (some (vI (mU (h 4 f 2) (h 5 f)))) h) := by
  refine AM.of hl (by decide +kernel) (Nat.le_of_ble_eq_true rfl) fun x hx C _ => ?_
  refine r_aload_n (i0 := 0) C d_F_unitsOfYear_0 rfl rfl ?_
  refine r_iconst C d_F_unitsOfYear_1 (by decide) ?_
  refine r_bipush C d_F_unitsOfYear_2 (by decide) (by decide) ?_
  refine r_callVp C cl_F_40 im_F_unitsBetween rfl rfl (c_F_unitsBetween hx hr hf (by omega) (by omega)) rfl rfl d_F_unitsOfYear_4 (by decide) (Nat.le_of_ble_eq_true rfl) ?_
  exact r_iret C d_F_unitsOfYear_7 (fun _ => ⟨rfl, rfl⟩) (by decide) (fun _ => ⟨rfl, rfl, rfl⟩)
set_option maxHeartbeats 1000000 in
theorem c_R_isRead {l : Launch} (hl : l.stackTraces = false) {w : XW} {h : AH} {a : Int} (ha : 0 ≤ a ∧ a < 6) (hr : ∀ t : Nat, t < 13 → -1 ≤ rdR h a.toNat t ∧ rdR h a.toNat t ≤ 99) : AM l y_R_isRead (wsM y_R_isRead b_R_isRead 6 (some .boolean) []) true (rmV 0 0) w [vO 40 0, vI a] h (Ret (some (vI (rdI (rdR h a.toNat)))) h) := by
  refine AM.of hl (by decide +kernel) (Nat.le_of_ble_eq_true rfl) fun x hx C _ => ?_
  have loop : ∀ (m : Nat) (t g b : Int), 1 ≤ t → t ≤ 13 → (13 - t).toNat = m → g = gI (rdR h a.toNat) (t - 1).toNat → b = lastR (rdR h a.toNat) (t - 1).toNat → AW x w 6 true 0 0 (AQ x w true 0 0 (Ret (some (vI (rdI (rdR h a.toNat)))) h)) 38 [(4, vI t), (3, vI g), (2, vI b), (0, vO 40 0), (1, vI a)] [] h := by
    intro m
    induction m using Nat.strongRecOn with
    | _ m ih =>
    intro t g b ht0 ht1 hm hg hb
    refine r_iload C d_R_isRead_38 rfl ?_
    refine r_bipush C d_R_isRead_40 (by decide) (by decide) ?_
    refine r_icmp_ge (tgt := 98) C d_R_isRead_42 (by decide) (fun q42 => ?_) (fun q42 => ?_)
    · refine r_iload_n (i0 := 3) C d_R_isRead_98 rfl rfl ?_
      exact r_zret C d_R_isRead_99 (by rw [hg]; exact gI_01 _ _) (⟨vi_e (by rw [hg, show (t - 1).toNat = 12 by omega]; rfl), rfl⟩) (by decide) (fun _ => ⟨rfl, rfl, rfl⟩)
    · refine r_aload_n (i0 := 0) C d_R_isRead_45 rfl rfl ?_
      refine r_getO C fl_R_19 d_R_isRead_46 rfl rfl (fun hi => hi) ?_
      refine r_bipush C d_R_isRead_49 (by decide) (by decide) ?_
      refine r_iload_n (i0 := 1) C d_R_isRead_51 rfl rfl ?_
      refine r_imul C d_R_isRead_52 (by omega) ?_
      refine r_iload C d_R_isRead_53 rfl ?_
      refine r_iadd C d_R_isRead_55 (by omega) ?_
      refine r_iaload (ln := 78) C d_R_isRead_56 rfl (fun _ => rfl) rfl (by omega) ?_
      rw [rdR_ix h ha.1 (by omega)]
      refine r_istore C d_R_isRead_57 (by decide) ?_
      refine r_iload_n (i0 := 3) C d_R_isRead_59 rfl rfl ?_
      refine r_if_eq (tgt := 78) C d_R_isRead_60 (by decide) (fun q60 => ?_) (fun q60 => ?_)
      · refine r_iconst C d_R_isRead_78 (by decide) ?_
        refine r_istore_n (i0 := 3) C d_R_isRead_79 rfl (by decide) ?_
        refine r_iload C d_R_isRead_80 rfl ?_
        refine r_if_ge (tgt := 89) C d_R_isRead_82 (by decide) (fun q82 => ?_) (fun q82 => ?_)
        · refine r_iload C d_R_isRead_89 rfl ?_
          refine r_istore_n (i0 := 2) C d_R_isRead_91 rfl (by decide) ?_
          refine r_iinc C d_R_isRead_92 rfl (by decide) (by omega) ?_
          refine r_goto (tgt := 38) C d_R_isRead_95 (by decide) ?_
          have k1 : t.toNat = (t - 1).toNat + 1 := by omega
          have k2 : (t + 1 - 1).toNat = (t - 1).toNat + 1 := by omega
          have hrt := hr t.toNat (by omega)
          refine AW.lvs [(4, _), (3, _), (2, _), (0, _), (1, _)] ⟨rfl, rfl, rfl, rfl, rfl, trivial⟩ (ih (m - 1) (by omega) (t + 1) _ _ (by omega) (by omega) (by omega) ?_ ?_)
          · rw [k2]
            first
              | (rw [gI_zero (by omega)]; done)
              | (rw [gI_bad (by rw [← k1]; omega) (by rw [← k1, ← hb]; omega)]; done)
              | (rw [gI_keep (Or.inl (by rw [← k1]; omega))]; have := gI_01 (rdR h a.toNat) (t - 1).toNat; omega)
              | (rw [gI_keep (Or.inr (by rw [← k1, ← hb]; omega))]; have := gI_01 (rdR h a.toNat) (t - 1).toNat; omega)
          · rw [k2]
            first
              | (rw [lastR_skip (by rw [← k1]; omega)]; exact hb)
              | (rw [lastR_new (by rw [← k1]; omega), ← k1]; done)
        · refine r_iload_n (i0 := 2) C d_R_isRead_85 rfl rfl ?_
          refine r_goto (tgt := 91) C d_R_isRead_86 (by decide) ?_
          refine r_istore_n (i0 := 2) C d_R_isRead_91 rfl (by decide) ?_
          refine r_iinc C d_R_isRead_92 rfl (by decide) (by omega) ?_
          refine r_goto (tgt := 38) C d_R_isRead_95 (by decide) ?_
          have k1 : t.toNat = (t - 1).toNat + 1 := by omega
          have k2 : (t + 1 - 1).toNat = (t - 1).toNat + 1 := by omega
          have hrt := hr t.toNat (by omega)
          refine AW.lvs [(4, _), (3, _), (2, _), (0, _), (1, _)] ⟨rfl, rfl, rfl, rfl, rfl, trivial⟩ (ih (m - 1) (by omega) (t + 1) _ _ (by omega) (by omega) (by omega) ?_ ?_)
          · rw [k2]
            first
              | (rw [gI_zero (by omega)]; done)
              | (rw [gI_bad (by rw [← k1]; omega) (by rw [← k1, ← hb]; omega)]; done)
              | (rw [gI_keep (Or.inl (by rw [← k1]; omega))]; have := gI_01 (rdR h a.toNat) (t - 1).toNat; omega)
              | (rw [gI_keep (Or.inr (by rw [← k1, ← hb]; omega))]; have := gI_01 (rdR h a.toNat) (t - 1).toNat; omega)
          · rw [k2]
            first
              | (rw [lastR_skip (by rw [← k1]; omega)]; exact hb)
              | (rw [lastR_new (by rw [← k1]; omega), ← k1]; done)
      · refine r_iload C d_R_isRead_63 rfl ?_
        refine r_if_lt (tgt := 74) C d_R_isRead_65 (by decide) (fun q65 => ?_) (fun q65 => ?_)
        · refine r_iconst C d_R_isRead_74 (by decide) ?_
          refine r_goto (tgt := 79) C d_R_isRead_75 (by decide) ?_
          refine r_istore_n (i0 := 3) C d_R_isRead_79 rfl (by decide) ?_
          refine r_iload C d_R_isRead_80 rfl ?_
          refine r_if_ge (tgt := 89) C d_R_isRead_82 (by decide) (fun q82 => ?_) (fun q82 => ?_)
          · refine r_iload C d_R_isRead_89 rfl ?_
            refine r_istore_n (i0 := 2) C d_R_isRead_91 rfl (by decide) ?_
            refine r_iinc C d_R_isRead_92 rfl (by decide) (by omega) ?_
            refine r_goto (tgt := 38) C d_R_isRead_95 (by decide) ?_
            have k1 : t.toNat = (t - 1).toNat + 1 := by omega
            have k2 : (t + 1 - 1).toNat = (t - 1).toNat + 1 := by omega
            have hrt := hr t.toNat (by omega)
            refine AW.lvs [(4, _), (3, _), (2, _), (0, _), (1, _)] ⟨rfl, rfl, rfl, rfl, rfl, trivial⟩ (ih (m - 1) (by omega) (t + 1) _ _ (by omega) (by omega) (by omega) ?_ ?_)
            · rw [k2]
              first
                | (rw [gI_zero (by omega)]; done)
                | (rw [gI_bad (by rw [← k1]; omega) (by rw [← k1, ← hb]; omega)]; done)
                | (rw [gI_keep (Or.inl (by rw [← k1]; omega))]; have := gI_01 (rdR h a.toNat) (t - 1).toNat; omega)
                | (rw [gI_keep (Or.inr (by rw [← k1, ← hb]; omega))]; have := gI_01 (rdR h a.toNat) (t - 1).toNat; omega)
            · rw [k2]
              first
                | (rw [lastR_skip (by rw [← k1]; omega)]; exact hb)
                | (rw [lastR_new (by rw [← k1]; omega), ← k1]; done)
          · refine r_iload_n (i0 := 2) C d_R_isRead_85 rfl rfl ?_
            refine r_goto (tgt := 91) C d_R_isRead_86 (by decide) ?_
            refine r_istore_n (i0 := 2) C d_R_isRead_91 rfl (by decide) ?_
            refine r_iinc C d_R_isRead_92 rfl (by decide) (by omega) ?_
            refine r_goto (tgt := 38) C d_R_isRead_95 (by decide) ?_
            have k1 : t.toNat = (t - 1).toNat + 1 := by omega
            have k2 : (t + 1 - 1).toNat = (t - 1).toNat + 1 := by omega
            have hrt := hr t.toNat (by omega)
            refine AW.lvs [(4, _), (3, _), (2, _), (0, _), (1, _)] ⟨rfl, rfl, rfl, rfl, rfl, trivial⟩ (ih (m - 1) (by omega) (t + 1) _ _ (by omega) (by omega) (by omega) ?_ ?_)
            · rw [k2]
              first
                | (rw [gI_zero (by omega)]; done)
                | (rw [gI_bad (by rw [← k1]; omega) (by rw [← k1, ← hb]; omega)]; done)
                | (rw [gI_keep (Or.inl (by rw [← k1]; omega))]; have := gI_01 (rdR h a.toNat) (t - 1).toNat; omega)
                | (rw [gI_keep (Or.inr (by rw [← k1, ← hb]; omega))]; have := gI_01 (rdR h a.toNat) (t - 1).toNat; omega)
            · rw [k2]
              first
                | (rw [lastR_skip (by rw [← k1]; omega)]; exact hb)
                | (rw [lastR_new (by rw [← k1]; omega), ← k1]; done)
        · refine r_iload C d_R_isRead_68 rfl ?_
          refine r_iload_n (i0 := 2) C d_R_isRead_70 rfl rfl ?_
          refine r_icmp_lt (tgt := 78) C d_R_isRead_71 (by decide) (fun q71 => ?_) (fun q71 => ?_)
          · refine r_iconst C d_R_isRead_78 (by decide) ?_
            refine r_istore_n (i0 := 3) C d_R_isRead_79 rfl (by decide) ?_
            refine r_iload C d_R_isRead_80 rfl ?_
            refine r_if_ge (tgt := 89) C d_R_isRead_82 (by decide) (fun q82 => ?_) (fun q82 => ?_)
            · refine r_iload C d_R_isRead_89 rfl ?_
              refine r_istore_n (i0 := 2) C d_R_isRead_91 rfl (by decide) ?_
              refine r_iinc C d_R_isRead_92 rfl (by decide) (by omega) ?_
              refine r_goto (tgt := 38) C d_R_isRead_95 (by decide) ?_
              have k1 : t.toNat = (t - 1).toNat + 1 := by omega
              have k2 : (t + 1 - 1).toNat = (t - 1).toNat + 1 := by omega
              have hrt := hr t.toNat (by omega)
              refine AW.lvs [(4, _), (3, _), (2, _), (0, _), (1, _)] ⟨rfl, rfl, rfl, rfl, rfl, trivial⟩ (ih (m - 1) (by omega) (t + 1) _ _ (by omega) (by omega) (by omega) ?_ ?_)
              · rw [k2]
                first
                  | (rw [gI_zero (by omega)]; done)
                  | (rw [gI_bad (by rw [← k1]; omega) (by rw [← k1, ← hb]; omega)]; done)
                  | (rw [gI_keep (Or.inl (by rw [← k1]; omega))]; have := gI_01 (rdR h a.toNat) (t - 1).toNat; omega)
                  | (rw [gI_keep (Or.inr (by rw [← k1, ← hb]; omega))]; have := gI_01 (rdR h a.toNat) (t - 1).toNat; omega)
              · rw [k2]
                first
                  | (rw [lastR_skip (by rw [← k1]; omega)]; exact hb)
                  | (rw [lastR_new (by rw [← k1]; omega), ← k1]; done)
            · refine r_iload_n (i0 := 2) C d_R_isRead_85 rfl rfl ?_
              refine r_goto (tgt := 91) C d_R_isRead_86 (by decide) ?_
              refine r_istore_n (i0 := 2) C d_R_isRead_91 rfl (by decide) ?_
              refine r_iinc C d_R_isRead_92 rfl (by decide) (by omega) ?_
              refine r_goto (tgt := 38) C d_R_isRead_95 (by decide) ?_
              have k1 : t.toNat = (t - 1).toNat + 1 := by omega
              have k2 : (t + 1 - 1).toNat = (t - 1).toNat + 1 := by omega
              have hrt := hr t.toNat (by omega)
              refine AW.lvs [(4, _), (3, _), (2, _), (0, _), (1, _)] ⟨rfl, rfl, rfl, rfl, rfl, trivial⟩ (ih (m - 1) (by omega) (t + 1) _ _ (by omega) (by omega) (by omega) ?_ ?_)
              · rw [k2]
                first
                  | (rw [gI_zero (by omega)]; done)
                  | (rw [gI_bad (by rw [← k1]; omega) (by rw [← k1, ← hb]; omega)]; done)
                  | (rw [gI_keep (Or.inl (by rw [← k1]; omega))]; have := gI_01 (rdR h a.toNat) (t - 1).toNat; omega)
                  | (rw [gI_keep (Or.inr (by rw [← k1, ← hb]; omega))]; have := gI_01 (rdR h a.toNat) (t - 1).toNat; omega)
              · rw [k2]
                first
                  | (rw [lastR_skip (by rw [← k1]; omega)]; exact hb)
                  | (rw [lastR_new (by rw [← k1]; omega), ← k1]; done)
          · refine r_iconst C d_R_isRead_74 (by decide) ?_
            refine r_goto (tgt := 79) C d_R_isRead_75 (by decide) ?_
            refine r_istore_n (i0 := 3) C d_R_isRead_79 rfl (by decide) ?_
            refine r_iload C d_R_isRead_80 rfl ?_
            refine r_if_ge (tgt := 89) C d_R_isRead_82 (by decide) (fun q82 => ?_) (fun q82 => ?_)
            · refine r_iload C d_R_isRead_89 rfl ?_
              refine r_istore_n (i0 := 2) C d_R_isRead_91 rfl (by decide) ?_
              refine r_iinc C d_R_isRead_92 rfl (by decide) (by omega) ?_
              refine r_goto (tgt := 38) C d_R_isRead_95 (by decide) ?_
              have k1 : t.toNat = (t - 1).toNat + 1 := by omega
              have k2 : (t + 1 - 1).toNat = (t - 1).toNat + 1 := by omega
              have hrt := hr t.toNat (by omega)
              refine AW.lvs [(4, _), (3, _), (2, _), (0, _), (1, _)] ⟨rfl, rfl, rfl, rfl, rfl, trivial⟩ (ih (m - 1) (by omega) (t + 1) _ _ (by omega) (by omega) (by omega) ?_ ?_)
              · rw [k2]
                first
                  | (rw [gI_zero (by omega)]; done)
                  | (rw [gI_bad (by rw [← k1]; omega) (by rw [← k1, ← hb]; omega)]; done)
                  | (rw [gI_keep (Or.inl (by rw [← k1]; omega))]; have := gI_01 (rdR h a.toNat) (t - 1).toNat; omega)
                  | (rw [gI_keep (Or.inr (by rw [← k1, ← hb]; omega))]; have := gI_01 (rdR h a.toNat) (t - 1).toNat; omega)
              · rw [k2]
                first
                  | (rw [lastR_skip (by rw [← k1]; omega)]; exact hb)
                  | (rw [lastR_new (by rw [← k1]; omega), ← k1]; done)
            · refine r_iload_n (i0 := 2) C d_R_isRead_85 rfl rfl ?_
              refine r_goto (tgt := 91) C d_R_isRead_86 (by decide) ?_
              refine r_istore_n (i0 := 2) C d_R_isRead_91 rfl (by decide) ?_
              refine r_iinc C d_R_isRead_92 rfl (by decide) (by omega) ?_
              refine r_goto (tgt := 38) C d_R_isRead_95 (by decide) ?_
              have k1 : t.toNat = (t - 1).toNat + 1 := by omega
              have k2 : (t + 1 - 1).toNat = (t - 1).toNat + 1 := by omega
              have hrt := hr t.toNat (by omega)
              refine AW.lvs [(4, _), (3, _), (2, _), (0, _), (1, _)] ⟨rfl, rfl, rfl, rfl, rfl, trivial⟩ (ih (m - 1) (by omega) (t + 1) _ _ (by omega) (by omega) (by omega) ?_ ?_)
              · rw [k2]
                first
                  | (rw [gI_zero (by omega)]; done)
                  | (rw [gI_bad (by rw [← k1]; omega) (by rw [← k1, ← hb]; omega)]; done)
                  | (rw [gI_keep (Or.inl (by rw [← k1]; omega))]; have := gI_01 (rdR h a.toNat) (t - 1).toNat; omega)
                  | (rw [gI_keep (Or.inr (by rw [← k1, ← hb]; omega))]; have := gI_01 (rdR h a.toNat) (t - 1).toNat; omega)
              · rw [k2]
                first
                  | (rw [lastR_skip (by rw [← k1]; omega)]; exact hb)
                  | (rw [lastR_new (by rw [← k1]; omega), ← k1]; done)
  refine r_aload_n (i0 := 0) C d_R_isRead_0 rfl rfl ?_
  refine r_getO C fl_R_19 d_R_isRead_1 rfl rfl (fun hi => hi) ?_
  refine r_bipush C d_R_isRead_4 (by decide) (by decide) ?_
  refine r_iload_n (i0 := 1) C d_R_isRead_6 rfl rfl ?_
  refine r_imul C d_R_isRead_7 (by omega) ?_
  refine r_iaload (ln := 78) C d_R_isRead_8 rfl (fun _ => rfl) rfl (by omega) ?_
  rw [rdR_0 h ha.1]
  refine r_istore_n (i0 := 2) C d_R_isRead_9 rfl (by decide) ?_
  refine r_iload_n (i0 := 2) C d_R_isRead_10 rfl rfl ?_
  refine r_if_lt (tgt := 33) C d_R_isRead_11 (by decide) (fun q11 => ?_) (fun q11 => ?_)
  · refine r_iconst C d_R_isRead_33 (by decide) ?_
    refine r_istore_n (i0 := 3) C d_R_isRead_34 rfl (by decide) ?_
    refine r_iconst C d_R_isRead_35 (by decide) ?_
    refine r_istore C d_R_isRead_36 (by decide) ?_
    have r0 := hr 0 (by omega)
    have r12 := hr 12 (by omega)
    first
      | exact loop _ 1 _ _ (by omega) (by omega) rfl (by rw [show (1 - 1 : Int).toNat = 0 from rfl, gI_start (by omega) (by omega)]) rfl
      | exact loop _ 1 _ _ (by omega) (by omega) rfl (by rw [gI_none (by omega)]) rfl
  · refine r_aload_n (i0 := 0) C d_R_isRead_14 rfl rfl ?_
    refine r_getO C fl_R_19 d_R_isRead_15 rfl rfl (fun hi => hi) ?_
    refine r_bipush C d_R_isRead_18 (by decide) (by decide) ?_
    refine r_iload_n (i0 := 1) C d_R_isRead_20 rfl rfl ?_
    refine r_imul C d_R_isRead_21 (by omega) ?_
    refine r_bipush C d_R_isRead_22 (by decide) (by decide) ?_
    refine r_iadd C d_R_isRead_24 (by omega) ?_
    refine r_iaload (ln := 78) C d_R_isRead_25 rfl (fun _ => rfl) rfl (by omega) ?_
    rw [rdR_ix h ha.1 (by omega), show (12 : Int).toNat = 12 from rfl]
    refine r_if_lt (tgt := 33) C d_R_isRead_26 (by decide) (fun q26 => ?_) (fun q26 => ?_)
    · refine r_iconst C d_R_isRead_33 (by decide) ?_
      refine r_istore_n (i0 := 3) C d_R_isRead_34 rfl (by decide) ?_
      refine r_iconst C d_R_isRead_35 (by decide) ?_
      refine r_istore C d_R_isRead_36 (by decide) ?_
      have r0 := hr 0 (by omega)
      have r12 := hr 12 (by omega)
      first
        | exact loop _ 1 _ _ (by omega) (by omega) rfl (by rw [show (1 - 1 : Int).toNat = 0 from rfl, gI_start (by omega) (by omega)]) rfl
        | exact loop _ 1 _ _ (by omega) (by omega) rfl (by rw [gI_none (by omega)]) rfl
    · refine r_iconst C d_R_isRead_29 (by decide) ?_
      refine r_goto (tgt := 34) C d_R_isRead_30 (by decide) ?_
      refine r_istore_n (i0 := 3) C d_R_isRead_34 rfl (by decide) ?_
      refine r_iconst C d_R_isRead_35 (by decide) ?_
      refine r_istore C d_R_isRead_36 (by decide) ?_
      have r0 := hr 0 (by omega)
      have r12 := hr 12 (by omega)
      first
        | exact loop _ 1 _ _ (by omega) (by omega) rfl (by rw [show (1 - 1 : Int).toNat = 0 from rfl, gI_start (by omega) (by omega)]) rfl
        | exact loop _ 1 _ _ (by omega) (by omega) rfl (by rw [gI_none (by omega)]) rfl
set_option maxHeartbeats 1000000 in
theorem c_R_measured {l : Launch} (hl : l.stackTraces = false) {w : XW} {h : AH} {a : Int} (ha : 0 ≤ a ∧ a < 6) (hr : ∀ t : Nat, t < 13 → -1 ≤ rdR h a.toNat t ∧ rdR h a.toNat t ≤ 99) (hf : 0 ≤ h 43 0 a.toNat ∧ h 43 0 a.toNat ≤ 2) : AM l y_R_measured (wsM y_R_measured b_R_measured 2 (some .int) []) true (rmV 0 0) w [vO 40 0, vI a] h (Ret (some (vI (mU (h 43 0 a.toNat) (rdR h a.toNat)))) h) := by
  refine AM.of hl (by decide +kernel) (Nat.le_of_ble_eq_true rfl) fun x hx C _ => ?_
  refine r_aload_n (i0 := 0) C d_R_measured_0 rfl rfl ?_
  refine r_getO C fl_R_16 d_R_measured_1 rfl rfl (fun hi => hi) ?_
  refine r_iload_n (i0 := 1) C d_R_measured_4 rfl rfl ?_
  refine r_iaload (ln := 6) C d_R_measured_5 rfl (fun _ => rfl) rfl (by omega) ?_
  refine r_aload_n (i0 := 0) C d_R_measured_6 rfl rfl ?_
  refine r_getO C fl_R_19 d_R_measured_7 rfl rfl (fun hi => hi) ?_
  refine r_bipush C d_R_measured_10 (by decide) (by decide) ?_
  refine r_iload_n (i0 := 1) C d_R_measured_12 rfl rfl ?_
  refine r_imul C d_R_measured_13 (by omega) ?_
  refine r_bipush C d_R_measured_14 (by decide) (by decide) ?_
  refine r_iadd C d_R_measured_16 (by omega) ?_
  refine r_iaload (ln := 78) C d_R_measured_17 rfl (fun _ => rfl) rfl (by omega) ?_
  rw [rdR_ix h ha.1 (by omega), show (12 : Int).toNat = 12 from rfl]
  refine r_aload_n (i0 := 0) C d_R_measured_18 rfl rfl ?_
  refine r_getO C fl_R_19 d_R_measured_19 rfl rfl (fun hi => hi) ?_
  refine r_bipush C d_R_measured_22 (by decide) (by decide) ?_
  refine r_iload_n (i0 := 1) C d_R_measured_24 rfl rfl ?_
  refine r_imul C d_R_measured_25 (by omega) ?_
  refine r_iaload (ln := 78) C d_R_measured_26 rfl (fun _ => rfl) rfl (by omega) ?_
  rw [rdR_0 h ha.1]
  refine r_isub C d_R_measured_27 (by have := hr 12 (by omega); have := hr 0 (by omega); omega) ?_
  refine r_imul C d_R_measured_28 (by rw [Int.mul_comm]; exact ubd (by have := hr 12 (by omega); have := hr 0 (by omega); omega) hf) ?_
  exact r_iret C d_R_measured_29 (fun _ => ⟨vi_e (by unfold mU; rw [Int.mul_comm]), rfl⟩) (by decide) (fun _ => ⟨rfl, rfl, rfl⟩)

/-! Contracts: weighByMeters. -/
theorem hset_22 (g : AH) (s : Nat) (W D W' D' : Int) : hset (hset (hset (hset g 20 0 s W) 21 0 s D) 20 0 s W') 21 0 s D' = hset (hset g 20 0 s W') 21 0 s D' := by
  funext t i j; unfold hset
  by_cases e1 : t = 21 ∧ i = 0 ∧ j = s
  · rw [if_pos e1, if_pos e1]
  · rw [if_neg e1, if_neg e1, if_neg e1]
    by_cases e2 : t = 20 ∧ i = 0 ∧ j = s
    · rw [if_pos e2, if_pos e2]
    · rw [if_neg e2, if_neg e2, if_neg e2]
theorem stH_yes {h : AH} {s : Nat} {t B W D : Int} (ht : 1 ≤ t) (hP : stH h s (t - 1).toNat = (B, W, D)) (he : esI (h 11 0 (h 14 0 s).toNat) (h 5 (h 14 0 s).toNat) t = 1) : stH h s t.toNat = (t, adW (h 15 0 s) (h 16 0 s) (h 29 0) B t (suS (h 11 0 (h 14 0 s).toNat) (h 4 (h 14 0 s).toNat 2) (h 10 0 2) (h 12 0 (h 14 0 s).toNat) (h 5 (h 14 0 s).toNat) B t) W D, adD (h 15 0 s) (h 16 0 s) (h 29 0) B t D) := by
  obtain ⟨n, rfl⟩ : ∃ n : Nat, t = (n : Int) + 1 := ⟨(t - 1).toNat, by omega⟩
  have e1 : ((n : Int) + 1).toNat = n + 1 := by omega
  have e2 : ((n : Int) + 1 - 1).toNat = n := by omega
  rw [e2] at hP
  rw [e1]
  unfold stH at hP ⊢
  show (if _ then _ else _) = _
  rw [if_pos he, hP]
theorem stH_no {h : AH} {s : Nat} {t B W D : Int} (ht : 1 ≤ t) (hP : stH h s (t - 1).toNat = (B, W, D)) (he : esI (h 11 0 (h 14 0 s).toNat) (h 5 (h 14 0 s).toNat) t = 0) : stH h s t.toNat = (B, W, D) := by
  obtain ⟨n, rfl⟩ : ∃ n : Nat, t = (n : Int) + 1 := ⟨(t - 1).toNat, by omega⟩
  have e1 : ((n : Int) + 1).toNat = n + 1 := by omega
  have e2 : ((n : Int) + 1 - 1).toNat = n := by omega
  rw [e2] at hP
  rw [e1]
  unfold stH at hP ⊢
  show (if _ then _ else _) = _
  rw [if_neg (by rw [he]; decide), hP]
set_option maxHeartbeats 1000000 in
theorem c_S_weighByMeters {l : Launch} (hl : l.stackTraces = false) {w : XW} {h : AH} (hc : 0 ≤ h 2 0 1 ∧ h 2 0 1 ≤ 6) (hF : FIc h) (hsc : 1 ≤ h 10 0 2 ∧ h 10 0 2 ≤ 360000) (hS : SPok h) (hM : stOK h) (hd : ∀ k : Nat, k < 12 → 0 ≤ h 29 0 k ∧ h 29 0 k ≤ 100) : AM l y_S_weighByMeters (wsM y_S_weighByMeters b_S_weighByMeters 12 none []) false (rmV 2 0) w [vO 18 0, vO 2 0, vO 13 0, vO 10 0, vO 29 0] h (RetP none (fun h' => h' = (WG h (h 13 0 4).toNat (fun s => (stH h s 12).2.1) (fun s => (stH h s 12).2.2) (h 10 0 3)))) := by
  refine AM.of hl (by decide +kernel) (Nat.le_of_ble_eq_true rfl) fun x hx C _ => ?_
  have c0 := hS.cnt
  have loop : ∀ (m : Nat) (s : Int), 0 ≤ s → s ≤ h 13 0 4 → (h 13 0 4 - s).toNat = m → AW x w 12 false 0 0 (AQ x w false 0 0 (RetP none (fun h' => h' = (WG h (h 13 0 4).toNat (fun s => (stH h s 12).2.1) (fun s => (stH h s 12).2.2) (h 10 0 3))))) 11 [(5, vI s), (0, vO 18 0), (1, vO 2 0), (2, vO 13 0), (3, vO 10 0), (4, vO 29 0)] [] (WG h s.toNat (fun s => (stH h s 12).2.1) (fun s => (stH h s 12).2.2) (h 10 0 3)) := by
    intro m
    induction m using Nat.strongRecOn with
    | _ m ih =>
    intro s hs0 hs1 hm
    have inner : ∀ (m2 : Nat) (t B W D : Int), s < h 13 0 4 → 1 ≤ t → t ≤ 13 → (13 - t).toNat = m2 → stH h s.toNat (t - 1).toNat = (B, W, D) → AW x w 12 false 0 0 (AQ x w false 0 0 (RetP none (fun h' => h' = (WG h (h 13 0 4).toNat (fun s => (stH h s 12).2.1) (fun s => (stH h s 12).2.2) (h 10 0 3))))) 60 [(9, vI t), (8, vI B), (7, vO 4 (h 14 0 s.toNat).toNat), (6, vI (h 14 0 s.toNat)), (5, vI s), (0, vO 18 0), (1, vO 2 0), (2, vO 13 0), (3, vO 10 0), (4, vO 29 0)] [] (hset (hset (WG h s.toNat (fun s => (stH h s 12).2.1) (fun s => (stH h s 12).2.2) (h 10 0 3)) 20 0 s.toNat W) 21 0 s.toNat D) := by
      intro m2
      induction m2 using Nat.strongRecOn with
      | _ m2 ih2 =>
      intro t B W D hs2 ht0 ht1 hm2 hP
      have f1 := hS.fl s.toNat (by omega)
      refine r_iload C d_S_weighByMeters_60 rfl ?_
      refine r_bipush C d_S_weighByMeters_62 (by decide) (by decide) ?_
      refine r_icmp_gt (tgt := 119) C d_S_weighByMeters_64 (by decide) (fun q64 => ?_) (fun q64 => ?_)
      · have e13 : (t - 1).toNat = 12 := by omega
        rw [e13] at hP
        have hW : W = (fun s => (stH h s 12).2.1) s.toNat := by show W = (stH h s.toNat 12).2.1; rw [hP]
        have hD : D = (fun s => (stH h s 12).2.2) s.toNat := by show D = (stH h s.toNat 12).2.2; rw [hP]
        rw [hW, hD, WG_step]
        have e2 : (s + 1).toNat = s.toNat + 1 := by omega
        have ee := ih (m - 1) (by omega) (s + 1) (by omega) (by omega) (by omega)
        rw [e2] at ee
        refine r_iinc C d_S_weighByMeters_119 rfl (by decide) (by omega) ?_
        refine r_goto (tgt := 11) C d_S_weighByMeters_122 (by decide) ?_
        exact AW.lvs [(5, _), (0, _), (1, _), (2, _), (3, _), (4, _)] ⟨rfl, rfl, rfl, rfl, rfl, rfl, trivial⟩ ee
      · have st := hM s.toNat (by omega) (t - 1).toNat (by omega)
        rw [hP] at st
        simp only at st
        have tt : (((t - 1).toNat : Nat) : Int) + 1 = t := by omega
        have tt2 : (((t - 1).toNat : Nat) : Int) = t - 1 := by omega
        rw [tt, tt2] at st
        have ez := esI_01 (h 11 0 (h 14 0 s.toNat).toNat) (h 5 (h 14 0 s.toNat).toNat) t
        refine r_aload_n (i0 := 3) C d_S_weighByMeters_67 rfl rfl ?_
        refine r_aload C d_S_weighByMeters_68 rfl ?_
        refine r_iload C d_S_weighByMeters_70 rfl ?_
        refine r_iload C d_S_weighByMeters_72 rfl ?_
        refine r_callVp C cl_S_65 im_M_endsStretch rfl rfl (c_M_endsStretch hx (by omega) (by omega)) rfl rfl d_S_weighByMeters_74 (by decide) (Nat.le_of_ble_eq_true rfl) ?_
        simp only [hset_fr, hset_same, WG_2, WG_4, WG_5, WG_10, WG_11, WG_12, WG_13, WG_14, WG_15, WG_16, WG_29, ne_eq, not_false_eq_true, Nat.reduceEqDiff]
        refine r_if_eq (tgt := 113) C d_S_weighByMeters_77 (by decide) (fun q77 => ?_) (fun q77 => ?_)
        · refine r_iinc C d_S_weighByMeters_113 rfl (by decide) (by omega) ?_
          refine r_goto (tgt := 60) C d_S_weighByMeters_116 (by decide) ?_
          have tq : (t + 1 - 1).toNat = t.toNat := by omega
          first
            | (exact AW.lvs [(9, _), (8, _), (7, _), (6, _), (5, _), (0, _), (1, _), (2, _), (3, _), (4, _)] ⟨rfl, rfl, rfl, rfl, rfl, rfl, rfl, rfl, rfl, rfl, trivial⟩ (ih2 (m2 - 1) (by omega) (t + 1) _ _ _ hs2 (by omega) (by omega) (by omega) (by rw [tq]; exact stH_no ht0 hP (by omega))))
            | (exact AW.lvs [(9, _), (8, _), (7, _), (6, _), (5, _), (0, _), (1, _), (2, _), (3, _), (4, _)] ⟨rfl, rfl, rfl, rfl, rfl, rfl, rfl, rfl, rfl, rfl, trivial⟩ (ih2 (m2 - 1) (by omega) (t + 1) _ _ _ hs2 (by omega) (by omega) (by omega) (by rw [tq]; exact stH_yes ht0 hP (by omega))))
        · have su := st.2 (by omega) (by omega)
          refine r_aload_n (i0 := 3) C d_S_weighByMeters_80 rfl rfl ?_
          refine r_aload C d_S_weighByMeters_81 rfl ?_
          refine r_iload C d_S_weighByMeters_83 rfl ?_
          refine r_iload C d_S_weighByMeters_85 rfl ?_
          refine r_iload C d_S_weighByMeters_87 rfl ?_
          refine r_callVp C cl_S_69 im_M_stretchUnits rfl rfl (c_M_stretchUnits hx (by simp only [hset_fr, hset_same, WG_2, WG_4, WG_5, WG_10, WG_11, WG_12, WG_13, WG_14, WG_15, WG_16, WG_29, ne_eq, not_false_eq_true, Nat.reduceEqDiff]; exact (hF _ (by omega)).2.2.2) (by simp only [hset_fr, hset_same, WG_2, WG_4, WG_5, WG_10, WG_11, WG_12, WG_13, WG_14, WG_15, WG_16, WG_29, ne_eq, not_false_eq_true, Nat.reduceEqDiff]; exact (hF _ (by omega)).2.1) (by simp only [hset_fr, hset_same, WG_2, WG_4, WG_5, WG_10, WG_11, WG_12, WG_13, WG_14, WG_15, WG_16, WG_29, ne_eq, not_false_eq_true, Nat.reduceEqDiff]; omega) (by omega) (by omega) (by omega)) rfl rfl d_S_weighByMeters_89 (by decide) (Nat.le_of_ble_eq_true rfl) ?_
          simp only [hset_fr, hset_same, WG_2, WG_4, WG_5, WG_10, WG_11, WG_12, WG_13, WG_14, WG_15, WG_16, WG_29, ne_eq, not_false_eq_true, Nat.reduceEqDiff]
          refine r_lstore C d_S_weighByMeters_92 (by decide) ?_
          refine r_aload_n (i0 := 0) C d_S_weighByMeters_94 rfl rfl ?_
          refine r_aload_n (i0 := 2) C d_S_weighByMeters_95 rfl rfl ?_
          refine r_iload C d_S_weighByMeters_96 rfl ?_
          refine r_iload C d_S_weighByMeters_98 rfl ?_
          refine r_iload C d_S_weighByMeters_100 rfl ?_
          refine r_lload C d_S_weighByMeters_102 rfl ?_
          refine r_aload C d_S_weighByMeters_104 rfl ?_
          refine r_callVw C cl_S_73 im_S_addStretch rfl rfl (c_S_addStretch hx (by unfold SPok; rw [hset_fr _ _ _ _ (show (17 : Nat) ≠ 21 by decide), hset_fr _ _ _ _ (show (17 : Nat) ≠ 20 by decide), WG_fr _ _ _ _ _ (show (17 : Nat) ≠ 18 ∧ (17 : Nat) ≠ 20 ∧ (17 : Nat) ≠ 21 by decide)]; simp only [hset_fr, hset_same, WG_2, WG_4, WG_5, WG_10, WG_11, WG_12, WG_13, WG_14, WG_15, WG_16, WG_29, ne_eq, not_false_eq_true, Nat.reduceEqDiff]; exact hS) (by simp only [hset_fr, hset_same, WG_2, WG_4, WG_5, WG_10, WG_11, WG_12, WG_13, WG_14, WG_15, WG_16, WG_29, ne_eq, not_false_eq_true, Nat.reduceEqDiff]; omega) (by omega) (by omega) (by simp only [hset_fr, hset_same, WG_2, WG_4, WG_5, WG_10, WG_11, WG_12, WG_13, WG_14, WG_15, WG_16, WG_29, ne_eq, not_false_eq_true, Nat.reduceEqDiff]; omega) (by simp only [hset_fr, hset_same, WG_2, WG_4, WG_5, WG_10, WG_11, WG_12, WG_13, WG_14, WG_15, WG_16, WG_29, ne_eq, not_false_eq_true, Nat.reduceEqDiff]; omega) (by simp only [hset_fr, hset_same, WG_2, WG_4, WG_5, WG_10, WG_11, WG_12, WG_13, WG_14, WG_15, WG_16, WG_29, ne_eq, not_false_eq_true, Nat.reduceEqDiff]; exact hd)) rfl rfl d_S_weighByMeters_106 (by decide) (by decide) (Nat.le_of_ble_eq_true rfl) (fun h106 p106 => ?_)
          subst p106
          simp only [hset_fr, hset_same, WG_2, WG_4, WG_5, WG_10, WG_11, WG_12, WG_13, WG_14, WG_15, WG_16, WG_29, ne_eq, not_false_eq_true, Nat.reduceEqDiff]
          rw [hset_22]
          refine r_iload C d_S_weighByMeters_109 rfl ?_
          refine r_istore C d_S_weighByMeters_111 (by decide) ?_
          refine r_iinc C d_S_weighByMeters_113 rfl (by decide) (by omega) ?_
          refine r_goto (tgt := 60) C d_S_weighByMeters_116 (by decide) ?_
          have tq : (t + 1 - 1).toNat = t.toNat := by omega
          first
            | (exact AW.lvs [(9, _), (8, _), (7, _), (6, _), (5, _), (0, _), (1, _), (2, _), (3, _), (4, _)] ⟨rfl, rfl, rfl, rfl, rfl, rfl, rfl, rfl, rfl, rfl, trivial⟩ (ih2 (m2 - 1) (by omega) (t + 1) _ _ _ hs2 (by omega) (by omega) (by omega) (by rw [tq]; exact stH_no ht0 hP (by omega))))
            | (exact AW.lvs [(9, _), (8, _), (7, _), (6, _), (5, _), (0, _), (1, _), (2, _), (3, _), (4, _)] ⟨rfl, rfl, rfl, rfl, rfl, rfl, rfl, rfl, rfl, rfl, trivial⟩ (ih2 (m2 - 1) (by omega) (t + 1) _ _ _ hs2 (by omega) (by omega) (by omega) (by rw [tq]; exact stH_yes ht0 hP (by omega))))
    refine r_iload C d_S_weighByMeters_11 rfl ?_
    refine r_aload_n (i0 := 2) C d_S_weighByMeters_13 rfl rfl ?_
    refine r_getI C fl_S_29 d_S_weighByMeters_14 rfl ?_
    simp only [hset_fr, hset_same, WG_2, WG_4, WG_5, WG_10, WG_11, WG_12, WG_13, WG_14, WG_15, WG_16, WG_29, ne_eq, not_false_eq_true, Nat.reduceEqDiff]
    refine r_icmp_ge (tgt := 125) C d_S_weighByMeters_17 (by decide) (fun q17 => ?_) (fun q17 => ?_)
    · have e : s.toNat = (h 13 0 4).toNat := (by omega)
      rw [e]
      exact r_vret C d_S_weighByMeters_125 (⟨rfl, rfl⟩) (by decide) (fun q => nomatch q)
    · have f1 := hS.fl s.toNat (by omega)
      refine r_aload_n (i0 := 0) C d_S_weighByMeters_20 rfl rfl ?_
      refine r_getO C fl_S_15 d_S_weighByMeters_21 rfl rfl (fun hi => hi) ?_
      refine r_iload C d_S_weighByMeters_24 rfl ?_
      refine r_lconst C 0 d_S_weighByMeters_26 (by decide) (by decide) ?_
      refine r_lastore (ln := 72) C d_S_weighByMeters_27 rfl (fun _ => rfl) rfl (by omega) ?_
      refine r_aload_n (i0 := 0) C d_S_weighByMeters_28 rfl rfl ?_
      refine r_getO C fl_S_19 d_S_weighByMeters_29 rfl rfl (fun hi => hi) ?_
      refine r_iload C d_S_weighByMeters_32 rfl ?_
      refine r_lconst C 1 d_S_weighByMeters_34 (by decide) (by decide) ?_
      refine r_lastore (ln := 72) C d_S_weighByMeters_35 rfl (fun _ => rfl) rfl (by omega) ?_
      refine r_aload_n (i0 := 2) C d_S_weighByMeters_36 rfl rfl ?_
      refine r_getO C fl_S_41 d_S_weighByMeters_37 rfl rfl (fun hi => hi) ?_
      refine r_iload C d_S_weighByMeters_40 rfl ?_
      refine r_iaload (ln := 72) C d_S_weighByMeters_42 rfl (fun _ => rfl) rfl (by omega) ?_
      simp only [hset_fr, hset_same, WG_2, WG_4, WG_5, WG_10, WG_11, WG_12, WG_13, WG_14, WG_15, WG_16, WG_29, ne_eq, not_false_eq_true, Nat.reduceEqDiff]
      refine r_istore C d_S_weighByMeters_43 (by decide) ?_
      refine r_aload_n (i0 := 1) C d_S_weighByMeters_45 rfl rfl ?_
      refine r_getO C fl_S_35 d_S_weighByMeters_46 rfl rfl (fun hi => hi) ?_
      refine r_iload C d_S_weighByMeters_49 rfl ?_
      refine r_aaF C d_S_weighByMeters_51 (by omega) ?_
      refine r_astore C d_S_weighByMeters_52 (by decide) ?_
      refine r_iconst C d_S_weighByMeters_54 (by decide) ?_
      refine r_istore C d_S_weighByMeters_55 (by decide) ?_
      refine r_iconst C d_S_weighByMeters_57 (by decide) ?_
      refine r_istore C d_S_weighByMeters_58 (by decide) ?_
      exact AW.lvs [(9, _), (8, _), (7, _), (6, _), (5, _), (0, _), (1, _), (2, _), (3, _), (4, _)] ⟨rfl, rfl, rfl, rfl, rfl, rfl, rfl, rfl, rfl, rfl, trivial⟩ (inner _ 1 0 0 1 (by omega) (by omega) (by omega) rfl rfl)
  refine r_aload_n (i0 := 0) C d_S_weighByMeters_0 rfl rfl ?_
  refine r_aload_n (i0 := 3) C d_S_weighByMeters_1 rfl rfl ?_
  refine r_getL C fl_S_60 d_S_weighByMeters_2 rfl ?_
  refine r_putL C pl_S_25 d_S_weighByMeters_5 rfl ?_
  refine r_iconst C d_S_weighByMeters_8 (by decide) ?_
  refine r_istore C d_S_weighByMeters_9 (by decide) ?_
  rw [WG_zero h (fun s => (stH h s 12).2.1) (fun s => (stH h s 12).2.2)]
  exact AW.lvs [(5, _), (0, _), (1, _), (2, _), (3, _), (4, _)] ⟨rfl, rfl, rfl, rfl, rfl, rfl, trivial⟩ (loop _ 0 (by omega) (by omega) rfl)

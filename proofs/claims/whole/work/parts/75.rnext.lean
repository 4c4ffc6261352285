/-! Contracts of the reference: nextYear. -/
theorem hs_hset (h : AH) {t : Nat} (i j : Nat) (v : Int) (e : t ≠ 45) (f : Nat) : rHs (hset h t i j v) f = rHs h f := by funext x; unfold rHs; rw [hset_fr _ _ _ _ (Ne.symm e)]
theorem vl_hset (h : AH) {t : Nat} (i j : Nat) (v : Int) (e : t ≠ 45) (f : Nat) : rVl (hset h t i j v) f = rVl h f := by funext x; show hset h t i j v 45 0 _ = _; rw [hset_fr _ _ _ _ (Ne.symm e)]
def whR (td be : Int) : Int := if 0 < td / be then td / be else -1
def NYa (h : AH) (f : Nat) (w : Int) : AH := hset (hset (hset h 47 0 f w) 46 0 f (hoE (rHs h f) (rVl h f) (h 46 0 f) 12)) 44 0 (13 * f) (h 44 0 (13 * f + 12))
def NY (h : AH) (f : Nat) (w : Int) : AH := hfill (hfill (NYa h f w) 44 0 (13 * f + 1) 12 (-1)) 45 0 (12 * f) 12 (-5)
set_option maxHeartbeats 1000000 in
theorem c_R_nextYear {l : Launch} (hl : l.stackTraces = false) {w : XW} {h : AH} {f : Int} (hf : 0 ≤ f ∧ f < 6) (hb : 1 ≤ (h 40 0 30)) (hu : 0 ≤ (h 56 0 f.toNat) ∧ (h 56 0 f.toNat) ≤ 200 * (h 40 0 30)) : AM l y_R_nextYear (wsM y_R_nextYear b_R_nextYear 5 none []) false (rmV 2 0) w [vO 40 0, vI f] h (RetP none (fun h' => h' = NY h f.toNat (whR (h 56 0 f.toNat) (h 40 0 30)))) := by
  refine AM.of hl (by decide +kernel) (Nat.le_of_ble_eq_true rfl) fun x hx C _ => ?_
  have loop2 : ∀ (m : Nat) (t : Int), 0 ≤ t → t ≤ 12 → (12 - t).toNat = m → AW x w 5 false 0 0 (AQ x w false 0 0 (RetP none (fun h' => h' = NY h f.toNat (whR (h 56 0 f.toNat) (h 40 0 30))))) 96 [(4, vI t), (0, vO 40 0), (1, vI f)] [] (hfill (hfill (NYa h f.toNat (whR (h 56 0 f.toNat) (h 40 0 30))) 44 0 (13 * f.toNat + 1) 12 (-1)) 45 0 (12 * f.toNat) t.toNat (-5)) := by
    intro m
    induction m using Nat.strongRecOn with
    | _ m ih =>
    intro t ht0 ht1 hm
    refine r_iload C d_R_nextYear_96 rfl ?_
    refine r_bipush C d_R_nextYear_98 (by decide) (by decide) ?_
    refine r_icmp_ge (tgt := 123) C d_R_nextYear_100 (by decide) (fun q100 => ?_) (fun q100 => ?_)
    · have e : t.toNat = 12 := (by omega)
      rw [e]
      exact r_vret C d_R_nextYear_123 (⟨rfl, rfl⟩) (by decide) (fun q => nomatch q)
    · refine r_aload_n (i0 := 0) C d_R_nextYear_103 rfl rfl ?_
      refine r_getO C fl_R_22 d_R_nextYear_104 rfl rfl (fun hi => hi) ?_
      refine r_bipush C d_R_nextYear_107 (by decide) (by decide) ?_
      refine r_iload_n (i0 := 1) C d_R_nextYear_109 rfl rfl ?_
      refine r_imul C d_R_nextYear_110 (by omega) ?_
      refine r_iload C d_R_nextYear_111 rfl ?_
      refine r_iadd C d_R_nextYear_113 (by omega) ?_
      refine r_bipush C d_R_nextYear_114 (by decide) (by decide) ?_
      refine r_iastore (ln := 72) C d_R_nextYear_116 rfl (fun _ => rfl) rfl (by omega) ?_
      refine r_iinc C d_R_nextYear_117 rfl (by decide) (by omega) ?_
      refine r_goto (tgt := 96) C d_R_nextYear_120 (by decide) ?_
      have e2 : (t + 1).toNat = t.toNat + 1 := by omega
      have ee := ih (m - 1) (by omega) (t + 1) (by omega) (by omega) (by omega)
      rw [e2] at ee
      refine AW.lvs [(4, _), (0, _), (1, _)] ⟨rfl, rfl, rfl, trivial⟩ (AW.heq ?_ ee)
      rw [show (12 * f + t).toNat = 12 * f.toNat + t.toNat by omega]
      exact hfill_succ _ _ _ _ _ _
  have loop1 : ∀ (m : Nat) (t : Int), 1 ≤ t → t ≤ 13 → (13 - t).toNat = m → AW x w 5 false 0 0 (AQ x w false 0 0 (RetP none (fun h' => h' = NY h f.toNat (whR (h 56 0 f.toNat) (h 40 0 30))))) 67 [(4, vI t), (0, vO 40 0), (1, vI f)] [] (hfill (NYa h f.toNat (whR (h 56 0 f.toNat) (h 40 0 30))) 44 0 (13 * f.toNat + 1) (t - 1).toNat (-1)) := by
    intro m
    induction m using Nat.strongRecOn with
    | _ m ih =>
    intro t ht0 ht1 hm
    refine r_iload C d_R_nextYear_67 rfl ?_
    refine r_bipush C d_R_nextYear_69 (by decide) (by decide) ?_
    refine r_icmp_ge (tgt := 93) C d_R_nextYear_71 (by decide) (fun q71 => ?_) (fun q71 => ?_)
    · refine r_iconst C d_R_nextYear_93 (by decide) ?_
      refine r_istore C d_R_nextYear_94 (by decide) ?_
      have e : (t - 1).toNat = 12 := (by omega)
      rw [e]
      exact AW.lvs [(4, _), (0, _), (1, _)] ⟨rfl, rfl, rfl, trivial⟩ (AW.dirty (AW.heq (hfill_zero _ 45 0 (12 * f.toNat) (-5)).symm (loop2 _ 0 (by omega) (by omega) rfl)))
    · refine r_aload_n (i0 := 0) C d_R_nextYear_74 rfl rfl ?_
      refine r_getO C fl_R_19 d_R_nextYear_75 rfl rfl (fun hi => hi) ?_
      refine r_bipush C d_R_nextYear_78 (by decide) (by decide) ?_
      refine r_iload_n (i0 := 1) C d_R_nextYear_80 rfl rfl ?_
      refine r_imul C d_R_nextYear_81 (by omega) ?_
      refine r_iload C d_R_nextYear_82 rfl ?_
      refine r_iadd C d_R_nextYear_84 (by omega) ?_
      refine r_iconst C d_R_nextYear_85 (by decide) ?_
      refine r_iastore (ln := 78) C d_R_nextYear_86 rfl (fun _ => rfl) rfl (by omega) ?_
      refine r_iinc C d_R_nextYear_87 rfl (by decide) (by omega) ?_
      refine r_goto (tgt := 67) C d_R_nextYear_90 (by decide) ?_
      have e2 : (t + 1 - 1).toNat = (t - 1).toNat + 1 := by omega
      have ee := ih (m - 1) (by omega) (t + 1) (by omega) (by omega) (by omega)
      rw [e2] at ee
      refine AW.lvs [(4, _), (0, _), (1, _)] ⟨rfl, rfl, rfl, trivial⟩ (AW.heq ?_ ee)
      rw [show (13 * f + t).toNat = 13 * f.toNat + 1 + (t - 1).toNat by omega]
      exact hfill_succ _ _ _ _ _ _
  have q0 : 0 ≤ (h 56 0 f.toNat) / (h 40 0 30) := Int.ediv_nonneg hu.1 (by omega)
  have q1 : (h 56 0 f.toNat) / (h 40 0 30) ≤ 200 := by have z := Int.ediv_le_ediv (show 0 < (h 40 0 30) by omega) hu.2; rwa [Int.mul_ediv_cancel _ (by omega)] at z
  have j30 : ∀ wv : Int, wv = (whR (h 56 0 f.toNat) (h 40 0 30)) → AW x w 5 false 0 0 (AQ x w false 0 0 (RetP none (fun h' => h' = NY h f.toNat (whR (h 56 0 f.toNat) (h 40 0 30))))) 30 [(0, vO 40 0), (1, vI f)] [] (hset h 47 0 f.toNat wv) := by
    intro wv hwv
    refine r_aload_n (i0 := 0) C d_R_nextYear_30 rfl rfl ?_
    refine r_getO C fl_R_25 d_R_nextYear_31 rfl rfl (fun hi => hi) ?_
    refine r_iload_n (i0 := 1) C d_R_nextYear_34 rfl rfl ?_
    refine r_aload_n (i0 := 0) C d_R_nextYear_35 rfl rfl ?_
    refine r_iload_n (i0 := 1) C d_R_nextYear_36 rfl rfl ?_
    refine r_bipush C d_R_nextYear_37 (by decide) (by decide) ?_
    refine r_callVp C cl_R_180 im_R_holderAt rfl rfl (c_R_holderAt hx hf (by omega)) rfl rfl d_R_nextYear_39 (by decide) (Nat.le_of_ble_eq_true rfl) ?_
    rw [hs_hset _ _ _ _ (by decide), vl_hset _ _ _ _ (by decide), hset_fr _ _ _ _ (by decide), show ((11 : Int) + 1).toNat = 12 from rfl]
    refine r_iastore (ln := 6) C d_R_nextYear_42 rfl (fun _ => rfl) rfl (by omega) ?_
    refine r_aload_n (i0 := 0) C d_R_nextYear_43 rfl rfl ?_
    refine r_getO C fl_R_19 d_R_nextYear_44 rfl rfl (fun hi => hi) ?_
    refine r_bipush C d_R_nextYear_47 (by decide) (by decide) ?_
    refine r_iload_n (i0 := 1) C d_R_nextYear_49 rfl rfl ?_
    refine r_imul C d_R_nextYear_50 (by omega) ?_
    refine r_aload_n (i0 := 0) C d_R_nextYear_51 rfl rfl ?_
    refine r_getO C fl_R_19 d_R_nextYear_52 rfl rfl (fun hi => hi) ?_
    refine r_bipush C d_R_nextYear_55 (by decide) (by decide) ?_
    refine r_iload_n (i0 := 1) C d_R_nextYear_57 rfl rfl ?_
    refine r_imul C d_R_nextYear_58 (by omega) ?_
    refine r_bipush C d_R_nextYear_59 (by decide) (by decide) ?_
    refine r_iadd C d_R_nextYear_61 (by omega) ?_
    refine r_iaload (ln := 78) C d_R_nextYear_62 rfl (fun _ => rfl) rfl (by omega) ?_
    rw [hset_tag _ _ (by decide), hset_tag _ _ (by decide)]
    refine r_iastore (ln := 78) C d_R_nextYear_63 rfl (fun _ => rfl) rfl (by omega) ?_
    refine r_iconst C d_R_nextYear_64 (by decide) ?_
    refine r_istore C d_R_nextYear_65 (by decide) ?_
    refine AW.lvs [(4, _), (0, _), (1, _)] ⟨rfl, rfl, rfl, trivial⟩ (AW.heq ?_ (loop1 _ 1 (by omega) (by omega) rfl))
    rw [show ((1 : Int) - 1).toNat = 0 from rfl, hfill_zero]
    unfold NYa
    rw [show (13 * f).toNat = 13 * f.toNat by omega, show (13 * f + 12).toNat = 13 * f.toNat + 12 by omega, hwv]
  refine r_aload_n (i0 := 0) C d_R_nextYear_0 rfl rfl ?_
  refine r_getO C fl_R_65 d_R_nextYear_1 rfl rfl (fun hi => hi) ?_
  refine r_iload_n (i0 := 1) C d_R_nextYear_4 rfl rfl ?_
  refine r_laload (ln := 6) C d_R_nextYear_5 rfl (fun _ => rfl) rfl (by omega) ?_
  refine r_aload_n (i0 := 0) C d_R_nextYear_6 rfl rfl ?_
  refine r_getL C fl_R_150 d_R_nextYear_7 rfl ?_
  refine r_ldiv C d_R_nextYear_10 (by omega) (by rw [tdiv_nn hu.1]; omega) ?_
  rw [tdiv_nn hu.1]
  refine r_lstore_n (i0 := 2) C d_R_nextYear_11 rfl (by decide) ?_
  refine r_aload_n (i0 := 0) C d_R_nextYear_12 rfl rfl ?_
  refine r_getO C fl_R_28 d_R_nextYear_13 rfl rfl (fun hi => hi) ?_
  refine r_iload_n (i0 := 1) C d_R_nextYear_16 rfl rfl ?_
  refine r_lload_n (i0 := 2) C d_R_nextYear_17 rfl rfl ?_
  refine r_lconst C 0 d_R_nextYear_18 (by decide) (by decide) ?_
  refine r_lcmp_le (tgt := 28) C d_R_nextYear_19 d_R_nextYear_20 (by decide) (fun q19 => ?_) (fun q19 => ?_)
  · refine r_iconst C d_R_nextYear_28 (by decide) ?_
    refine r_iastore (ln := 6) C d_R_nextYear_29 rfl (fun _ => rfl) rfl (by omega) ?_
    exact AW.lvs [(0, _), (1, _)] ⟨rfl, rfl, trivial⟩ (j30 _ (by unfold whR; first | (rw [if_pos (by omega)]; done) | (rw [if_neg (by omega)]; done)))
  · refine r_lload_n (i0 := 2) C d_R_nextYear_23 rfl rfl ?_
    refine r_l2i C d_R_nextYear_24 (by omega) ?_
    refine r_goto (tgt := 29) C d_R_nextYear_25 (by decide) ?_
    refine r_iastore (ln := 6) C d_R_nextYear_29 rfl (fun _ => rfl) rfl (by omega) ?_
    exact AW.lvs [(0, _), (1, _)] ⟨rfl, rfl, trivial⟩ (j30 _ (by unfold whR; first | (rw [if_pos (by omega)]; done) | (rw [if_neg (by omega)]; done)))

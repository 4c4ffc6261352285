/-! Contracts: flat, amount, sent of the reference. -/
set_option maxHeartbeats 1000000 in
theorem c_R_flat {l : Launch} (hl : l.stackTraces = false) {w : XW} {h : AH} {a b c : Int} (hc : 0 ≤ h 40 0 1 ∧ h 40 0 1 ≤ 6) : AM l y_R_flat (wsM y_R_flat b_R_flat 5 (some .int) []) false (rmV 3 0) w [vO 40 0, vI a, vI b, vI c] h (Rout (if a < 1 ∨ 50 < a ∨ b < 0 ∨ 50 < b ∨ c < 1 ∨ 2 < c then 1 else if h 40 0 1 = 6 then 2 else 0) (some (vI 0)) (some (vI (h 40 0 1))) h (fun h' => h' = hset (hset (hfill (hfill (hset (hset (hset (hset (hset (hset h 40 0 0 0) 41 0 (h 40 0 1).toNat a) 42 0 (h 40 0 1).toNat b) 43 0 (h 40 0 1).toNat c) 46 0 (h 40 0 1).toNat (-1)) 47 0 (h 40 0 1).toNat (-1)) 44 0 (13 * (h 40 0 1).toNat) 13 (-1)) 45 0 (12 * (h 40 0 1).toNat) 12 (-5)) 40 0 1 (h 40 0 1 + 1)) 40 0 19 0)) := by
  refine AM.of hl (by decide +kernel) (Nat.le_of_ble_eq_true rfl) fun x hx C _ => ?_
  have join : ∀ v : Int, v = (if a < 1 ∨ 50 < a ∨ b < 0 ∨ 50 < b ∨ c < 1 ∨ 2 < c then 1 else if h 40 0 1 = 6 then 2 else 0) → AW x w 5 true 0 0 (AQ x w false 0 0 (Rout (if a < 1 ∨ 50 < a ∨ b < 0 ∨ 50 < b ∨ c < 1 ∨ 2 < c then 1 else if h 40 0 1 = 6 then 2 else 0) (some (vI 0)) (some (vI (h 40 0 1))) h (fun h' => h' = hset (hset (hfill (hfill (hset (hset (hset (hset (hset (hset h 40 0 0 0) 41 0 (h 40 0 1).toNat a) 42 0 (h 40 0 1).toNat b) 43 0 (h 40 0 1).toNat c) 46 0 (h 40 0 1).toNat (-1)) 47 0 (h 40 0 1).toNat (-1)) 44 0 (13 * (h 40 0 1).toNat) 13 (-1)) 45 0 (12 * (h 40 0 1).toNat) 12 (-5)) 40 0 1 (h 40 0 1 + 1)) 40 0 19 0))) 48 (aargs 0 [vO 40 0, vI a, vI b, vI c]) [vI v, vO 40 0] h := by
    intro v hv
    refine r_putI C pl_R_85 d_R_flat_48 rfl ?_
    refine r_aload_n (i0 := 0) C d_R_flat_51 rfl rfl ?_
    refine r_getI C fl_R_85 d_R_flat_52 rfl ?_
    rw [hset_same]
    refine r_if_le (tgt := 60) C d_R_flat_55 (by decide) (fun q55 => ?_) (fun q55 => ?_)
    · have v0 : v = 0 := by omega
      subst v0
      have hc6 : h 40 0 1 < 6 := by omega
      have loop2 : ∀ (m : Nat) (i : Int), 0 ≤ i → i ≤ 12 → (12 - i).toNat = m → AW x w 5 false 0 0 (AQ x w false 0 0 (Rout (if a < 1 ∨ 50 < a ∨ b < 0 ∨ 50 < b ∨ c < 1 ∨ 2 < c then 1 else if h 40 0 1 = 6 then 2 else 0) (some (vI 0)) (some (vI (h 40 0 1))) h (fun h' => h' = hset (hset (hfill (hfill (hset (hset (hset (hset (hset (hset h 40 0 0 0) 41 0 (h 40 0 1).toNat a) 42 0 (h 40 0 1).toNat b) 43 0 (h 40 0 1).toNat c) 46 0 (h 40 0 1).toNat (-1)) 47 0 (h 40 0 1).toNat (-1)) 44 0 (13 * (h 40 0 1).toNat) 13 (-1)) 45 0 (12 * (h 40 0 1).toNat) 12 (-5)) 40 0 1 (h 40 0 1 + 1)) 40 0 19 0))) 145 [(4, vI i), (0, vO 40 0), (1, vI a), (2, vI b), (3, vI c)] [] (hfill (hfill (hset (hset (hset (hset (hset (hset h 40 0 0 0) 41 0 (h 40 0 1).toNat a) 42 0 (h 40 0 1).toNat b) 43 0 (h 40 0 1).toNat c) 46 0 (h 40 0 1).toNat (-1)) 47 0 (h 40 0 1).toNat (-1)) 44 0 (13 * (h 40 0 1).toNat) 13 (-1)) 45 0 (12 * (h 40 0 1).toNat) i.toNat (-5)) := by
        intro m
        induction m using Nat.strongRecOn with
        | _ m ih =>
        intro i hi0 hi1 hm
        refine r_iload C d_R_flat_145 rfl ?_
        refine r_bipush C d_R_flat_147 (by decide) (by decide) ?_
        refine r_icmp_ge (tgt := 175) C d_R_flat_149 (by decide) (fun q149 => ?_) (fun q149 => ?_)
        · have e12 : i.toNat = 12 := by omega
          rw [e12]
          refine r_aload_n (i0 := 0) C d_R_flat_175 rfl rfl ?_
          refine r_dup C d_R_flat_176 rfl ?_
          refine r_getI C fl_R_88 d_R_flat_177 rfl ?_
          simp only [hset_tag, hset_slot, hfill_tag3, ne_eq, not_false_eq_true, reduceCtorEq, Nat.reduceEqDiff]
          refine r_iconst C d_R_flat_180 (by decide) ?_
          refine r_iadd C d_R_flat_181 (by omega) ?_
          refine r_putI C pl_R_88 d_R_flat_182 rfl ?_
          refine r_aload_n (i0 := 0) C d_R_flat_185 rfl rfl ?_
          refine r_iconst C d_R_flat_186 (by decide) ?_
          refine r_putZ C pl_R_98 d_R_flat_187 rfl (by omega) ?_
          refine r_aload_n (i0 := 0) C d_R_flat_190 rfl rfl ?_
          refine r_getI C fl_R_88 d_R_flat_191 rfl ?_
          refine r_iconst C d_R_flat_194 (by decide) ?_
          refine r_isub C d_R_flat_195 (by rw [hset_slot _ _ (by decide), hset_same]; omega) ?_
          exact r_iret C d_R_flat_196 (fun _ => Rout.retv hv (by rw [hset_slot _ _ (by decide), hset_same]; congr 2; omega) rfl) (by decide) (fun q => nomatch q)
        · refine r_aload_n (i0 := 0) C d_R_flat_152 rfl rfl ?_
          refine r_getO C fl_R_22 d_R_flat_153 rfl rfl (fun hi => hi) ?_
          refine r_bipush C d_R_flat_156 (by decide) (by decide) ?_
          refine r_aload_n (i0 := 0) C d_R_flat_158 rfl rfl ?_
          refine r_getI C fl_R_88 d_R_flat_159 rfl ?_
          simp only [hset_tag, hset_slot, hfill_tag3, ne_eq, not_false_eq_true, reduceCtorEq, Nat.reduceEqDiff]
          refine r_imul C d_R_flat_162 (by omega) ?_
          refine r_iload C d_R_flat_163 rfl ?_
          refine r_iadd C d_R_flat_165 (by omega) ?_
          refine r_bipush C d_R_flat_166 (by decide) (by decide) ?_
          refine r_iastore (ln := 72) C d_R_flat_168 rfl (fun _ => rfl) rfl (by omega) ?_
          refine r_iinc C d_R_flat_169 rfl (by decide) (by omega) ?_
          refine r_goto (tgt := 145) C d_R_flat_172 (by decide) ?_
          have e1 : (12 * h 40 0 1 + i).toNat = 12 * (h 40 0 1).toNat + i.toNat := by omega
          have e2 : (i + 1).toNat = i.toNat + 1 := by omega
          rw [e1, hfill_succ, ← e2]
          exact ih (m - 1) (by omega) (i + 1) (by omega) (by omega) (by omega)
      have loop1 : ∀ (m : Nat) (i : Int), 0 ≤ i → i ≤ 13 → (13 - i).toNat = m → AW x w 5 false 0 0 (AQ x w false 0 0 (Rout (if a < 1 ∨ 50 < a ∨ b < 0 ∨ 50 < b ∨ c < 1 ∨ 2 < c then 1 else if h 40 0 1 = 6 then 2 else 0) (some (vI 0)) (some (vI (h 40 0 1))) h (fun h' => h' = hset (hset (hfill (hfill (hset (hset (hset (hset (hset (hset h 40 0 0 0) 41 0 (h 40 0 1).toNat a) 42 0 (h 40 0 1).toNat b) 43 0 (h 40 0 1).toNat c) 46 0 (h 40 0 1).toNat (-1)) 47 0 (h 40 0 1).toNat (-1)) 44 0 (13 * (h 40 0 1).toNat) 13 (-1)) 45 0 (12 * (h 40 0 1).toNat) 12 (-5)) 40 0 1 (h 40 0 1 + 1)) 40 0 19 0))) 113 [(4, vI i), (0, vO 40 0), (1, vI a), (2, vI b), (3, vI c)] [] (hfill (hset (hset (hset (hset (hset (hset h 40 0 0 0) 41 0 (h 40 0 1).toNat a) 42 0 (h 40 0 1).toNat b) 43 0 (h 40 0 1).toNat c) 46 0 (h 40 0 1).toNat (-1)) 47 0 (h 40 0 1).toNat (-1)) 44 0 (13 * (h 40 0 1).toNat) i.toNat (-1)) := by
        intro m
        induction m using Nat.strongRecOn with
        | _ m ih =>
        intro i hi0 hi1 hm
        refine r_iload C d_R_flat_113 rfl ?_
        refine r_bipush C d_R_flat_115 (by decide) (by decide) ?_
        refine r_icmp_ge (tgt := 142) C d_R_flat_117 (by decide) (fun q117 => ?_) (fun q117 => ?_)
        · have e13 : i.toNat = 13 := by omega
          rw [e13]
          refine r_iconst C d_R_flat_142 (by decide) ?_
          refine r_istore C d_R_flat_143 (by decide) ?_
          refine AW.lvs [(4, vI 0), (0, vO 40 0), (1, vI a), (2, vI b), (3, vI c)] ⟨rfl, rfl, rfl, rfl, rfl, trivial⟩ ?_
          have l0 := loop2 _ 0 (by omega) (by omega) rfl
          rw [show (0 : Int).toNat = 0 from rfl, hfill_zero] at l0
          exact l0
        · refine r_aload_n (i0 := 0) C d_R_flat_120 rfl rfl ?_
          refine r_getO C fl_R_19 d_R_flat_121 rfl rfl (fun hi => hi) ?_
          refine r_bipush C d_R_flat_124 (by decide) (by decide) ?_
          refine r_aload_n (i0 := 0) C d_R_flat_126 rfl rfl ?_
          refine r_getI C fl_R_88 d_R_flat_127 rfl ?_
          simp only [hset_tag, hset_slot, hfill_tag3, ne_eq, not_false_eq_true, reduceCtorEq, Nat.reduceEqDiff]
          refine r_imul C d_R_flat_130 (by omega) ?_
          refine r_iload C d_R_flat_131 rfl ?_
          refine r_iadd C d_R_flat_133 (by omega) ?_
          refine r_iconst C d_R_flat_134 (by decide) ?_
          refine r_iastore (ln := 78) C d_R_flat_135 rfl (fun _ => rfl) rfl (by omega) ?_
          refine r_iinc C d_R_flat_136 rfl (by decide) (by omega) ?_
          refine r_goto (tgt := 113) C d_R_flat_139 (by decide) ?_
          have e1 : (13 * h 40 0 1 + i).toNat = 13 * (h 40 0 1).toNat + i.toNat := by omega
          have e2 : (i + 1).toNat = i.toNat + 1 := by omega
          rw [e1, hfill_succ, ← e2]
          exact ih (m - 1) (by omega) (i + 1) (by omega) (by omega) (by omega)
      refine r_aload_n (i0 := 0) C d_R_flat_60 rfl rfl ?_
      refine r_getO C fl_R_7 d_R_flat_61 rfl rfl (fun hi => hi) ?_
      refine r_aload_n (i0 := 0) C d_R_flat_64 rfl rfl ?_
      refine r_getI C fl_R_88 d_R_flat_65 rfl ?_
      simp only [hset_tag, hset_slot, hfill_tag3, ne_eq, not_false_eq_true, reduceCtorEq, Nat.reduceEqDiff]
      refine r_iload_n (i0 := 1) C d_R_flat_68 rfl rfl ?_
      refine r_iastore (ln := 6) C d_R_flat_69 rfl (fun _ => rfl) rfl (by omega) ?_
      refine r_aload_n (i0 := 0) C d_R_flat_70 rfl rfl ?_
      refine r_getO C fl_R_13 d_R_flat_71 rfl rfl (fun hi => hi) ?_
      refine r_aload_n (i0 := 0) C d_R_flat_74 rfl rfl ?_
      refine r_getI C fl_R_88 d_R_flat_75 rfl ?_
      simp only [hset_tag, hset_slot, hfill_tag3, ne_eq, not_false_eq_true, reduceCtorEq, Nat.reduceEqDiff]
      refine r_iload_n (i0 := 2) C d_R_flat_78 rfl rfl ?_
      refine r_iastore (ln := 6) C d_R_flat_79 rfl (fun _ => rfl) rfl (by omega) ?_
      refine r_aload_n (i0 := 0) C d_R_flat_80 rfl rfl ?_
      refine r_getO C fl_R_16 d_R_flat_81 rfl rfl (fun hi => hi) ?_
      refine r_aload_n (i0 := 0) C d_R_flat_84 rfl rfl ?_
      refine r_getI C fl_R_88 d_R_flat_85 rfl ?_
      simp only [hset_tag, hset_slot, hfill_tag3, ne_eq, not_false_eq_true, reduceCtorEq, Nat.reduceEqDiff]
      refine r_iload_n (i0 := 3) C d_R_flat_88 rfl rfl ?_
      refine r_iastore (ln := 6) C d_R_flat_89 rfl (fun _ => rfl) rfl (by omega) ?_
      refine r_aload_n (i0 := 0) C d_R_flat_90 rfl rfl ?_
      refine r_getO C fl_R_25 d_R_flat_91 rfl rfl (fun hi => hi) ?_
      refine r_aload_n (i0 := 0) C d_R_flat_94 rfl rfl ?_
      refine r_getI C fl_R_88 d_R_flat_95 rfl ?_
      simp only [hset_tag, hset_slot, hfill_tag3, ne_eq, not_false_eq_true, reduceCtorEq, Nat.reduceEqDiff]
      refine r_iconst C d_R_flat_98 (by decide) ?_
      refine r_iastore (ln := 6) C d_R_flat_99 rfl (fun _ => rfl) rfl (by omega) ?_
      refine r_aload_n (i0 := 0) C d_R_flat_100 rfl rfl ?_
      refine r_getO C fl_R_28 d_R_flat_101 rfl rfl (fun hi => hi) ?_
      refine r_aload_n (i0 := 0) C d_R_flat_104 rfl rfl ?_
      refine r_getI C fl_R_88 d_R_flat_105 rfl ?_
      simp only [hset_tag, hset_slot, hfill_tag3, ne_eq, not_false_eq_true, reduceCtorEq, Nat.reduceEqDiff]
      refine r_iconst C d_R_flat_108 (by decide) ?_
      refine r_iastore (ln := 6) C d_R_flat_109 rfl (fun _ => rfl) rfl (by omega) ?_
      refine r_iconst C d_R_flat_110 (by decide) ?_
      refine r_istore C d_R_flat_111 (by decide) ?_
      refine AW.lvs [(4, vI 0), (0, vO 40 0), (1, vI a), (2, vI b), (3, vI c)] ⟨rfl, rfl, rfl, rfl, rfl, trivial⟩ ?_
      have l0 := loop1 _ 0 (by omega) (by omega) rfl
      rw [show (0 : Int).toNat = 0 from rfl, hfill_zero] at l0
      exact l0
    · refine r_iconst C d_R_flat_58 (by decide) ?_
      exact r_iret C d_R_flat_59 (fun _ => Rout.thr hv (by omega)) (by decide) (fun q => nomatch q)
  refine r_aload_n (i0 := 0) C d_R_flat_0 rfl rfl ?_
  refine r_iload_n (i0 := 1) C d_R_flat_1 rfl rfl ?_
  refine r_iconst C d_R_flat_2 (by decide) ?_
  refine r_bipush C d_R_flat_3 (by decide) (by decide) ?_
  refine r_callSp C cl_R_94 st_R_within (c_R_within hx) rfl rfl d_R_flat_5 (by decide) (Nat.le_of_ble_eq_true rfl) ?_
  refine r_if_eq (tgt := 30) C d_R_flat_8 (by decide) (fun q8 => ?_) (fun q8 => ?_)
  · refine r_iconst C d_R_flat_30 (by decide) ?_
    refine r_goto (tgt := 48) C d_R_flat_31 (by decide) ?_
    exact join _ (by (repeat' split) <;> omega)
  · refine r_iload_n (i0 := 2) C d_R_flat_11 rfl rfl ?_
    refine r_iconst C d_R_flat_12 (by decide) ?_
    refine r_bipush C d_R_flat_13 (by decide) (by decide) ?_
    refine r_callSp C cl_R_94 st_R_within (c_R_within hx) rfl rfl d_R_flat_15 (by decide) (Nat.le_of_ble_eq_true rfl) ?_
    refine r_if_eq (tgt := 30) C d_R_flat_18 (by decide) (fun q18 => ?_) (fun q18 => ?_)
    · refine r_iconst C d_R_flat_30 (by decide) ?_
      refine r_goto (tgt := 48) C d_R_flat_31 (by decide) ?_
      exact join _ (by (repeat' split) <;> omega)
    · refine r_iload_n (i0 := 3) C d_R_flat_21 rfl rfl ?_
      refine r_iconst C d_R_flat_22 (by decide) ?_
      refine r_iconst C d_R_flat_23 (by decide) ?_
      refine r_callSp C cl_R_94 st_R_within (c_R_within hx) rfl rfl d_R_flat_24 (by decide) (Nat.le_of_ble_eq_true rfl) ?_
      refine r_if_ne (tgt := 34) C d_R_flat_27 (by decide) (fun q27 => ?_) (fun q27 => ?_)
      · refine r_aload_n (i0 := 0) C d_R_flat_34 rfl rfl ?_
        refine r_getI C fl_R_88 d_R_flat_35 rfl ?_
        refine r_bipush C d_R_flat_38 (by decide) (by decide) ?_
        refine r_icmp_ne (tgt := 47) C d_R_flat_40 (by decide) (fun q40 => ?_) (fun q40 => ?_)
        · refine r_iconst C d_R_flat_47 (by decide) ?_
          exact join _ (by (repeat' split) <;> omega)
        · refine r_iconst C d_R_flat_43 (by decide) ?_
          refine r_goto (tgt := 48) C d_R_flat_44 (by decide) ?_
          exact join _ (by (repeat' split) <;> omega)
      · refine r_iconst C d_R_flat_30 (by decide) ?_
        refine r_goto (tgt := 48) C d_R_flat_31 (by decide) ?_
        exact join _ (by (repeat' split) <;> omega)
set_option maxHeartbeats 1000000 in
theorem c_R_amount {l : Launch} (hl : l.stackTraces = false) {w : XW} {h : AH} {a b : Int} (ht : 0 ≤ h 40 0 9 ∧ h 40 0 9 ≤ 20) (hs : ∀ j : Nat, j < 63 → 0 ≤ h 52 0 j ∧ h 52 0 j ≤ 20000000) : AM l y_R_amount (wsM y_R_amount b_R_amount 4 (some .int) []) false (rmV 3 0) w [vO 40 0, vI a, vI b] h (Rout (if h 40 0 19 = 0 then 1 else if ¬ (a = -1 ∨ 0 ≤ a ∧ a < h 40 0 9) ∨ b < 0 ∨ 3 < b then 2 else 0) (some (vI 0)) (some (if b = 3 then vI (h 52 0 (3 * (if a = -1 then 20 else a)).toNat + h 52 0 (3 * (if a = -1 then 20 else a) + 1).toNat + h 52 0 (3 * (if a = -1 then 20 else a) + 2).toNat) else vI (h 52 0 (3 * (if a = -1 then 20 else a) + b).toNat))) h (fun h' => h' = hset h 40 0 0 0)) := by
  refine AM.of hl (by decide +kernel) (Nat.le_of_ble_eq_true rfl) fun x hx C _ => ?_
  have join2 : ∀ v : Int, v = (if h 40 0 19 = 0 then 1 else if ¬ (a = -1 ∨ 0 ≤ a ∧ a < h 40 0 9) ∨ b < 0 ∨ 3 < b then 2 else 0) → ∀ r : Int, r = (if a = -1 then 20 else a) → AW x w 4 false 0 0 (AQ x w false 0 0 (Rout (if h 40 0 19 = 0 then 1 else if ¬ (a = -1 ∨ 0 ≤ a ∧ a < h 40 0 9) ∨ b < 0 ∨ 3 < b then 2 else 0) (some (vI 0)) (some (if b = 3 then vI (h 52 0 (3 * (if a = -1 then 20 else a)).toNat + h 52 0 (3 * (if a = -1 then 20 else a) + 1).toNat + h 52 0 (3 * (if a = -1 then 20 else a) + 2).toNat) else vI (h 52 0 (3 * (if a = -1 then 20 else a) + b).toNat))) h (fun h' => h' = hset h 40 0 0 0))) 53 (aargs 0 [vO 40 0, vI a, vI b]) [vI r] (hset h 40 0 0 v) := by
    intro v hv r hr
    refine r_istore_n (i0 := 3) C d_R_amount_53 rfl (by decide) ?_
    refine r_aload_n (i0 := 0) C d_R_amount_54 rfl rfl ?_
    refine r_getI C fl_R_85 d_R_amount_55 rfl ?_
    rw [hset_same]
    refine r_if_le (tgt := 65) C d_R_amount_58 (by decide) (fun q58 => ?_) (fun q58 => ?_)
    · have v0 : v = 0 := by omega
      subst v0
      refine r_iload_n (i0 := 2) C d_R_amount_65 rfl rfl ?_
      refine r_iconst C d_R_amount_66 (by decide) ?_
      refine r_icmp_ne (tgt := 78) C d_R_amount_67 (by decide) (fun q67 => ?_) (fun q67 => ?_)
      · refine r_aload_n (i0 := 0) C d_R_amount_78 rfl rfl ?_
        refine r_getO C fl_R_53 d_R_amount_79 rfl rfl (fun hi => hi) ?_
        refine r_iconst C d_R_amount_82 (by decide) ?_
        refine r_iload_n (i0 := 3) C d_R_amount_83 rfl rfl ?_
        refine r_imul C d_R_amount_84 (by omega) ?_
        refine r_iload_n (i0 := 2) C d_R_amount_85 rfl rfl ?_
        refine r_iadd C d_R_amount_86 (by omega) ?_
        refine r_iaload (ln := 63) C d_R_amount_87 rfl (fun _ => rfl) rfl (by omega) ?_
        exact r_iret C d_R_amount_88 (fun _ => (by first | exact Rout.thr hv (by omega) | (exact Rout.retv hv (by rw [← hr]; first | (rw [if_pos (by omega)]; done) | (rw [if_neg (by omega)]; rfl)) rfl))) (by decide) (fun q => nomatch q)
      · refine r_aload_n (i0 := 0) C d_R_amount_70 rfl rfl ?_
        refine r_iload_n (i0 := 3) C d_R_amount_71 rfl rfl ?_
        refine r_callVp C cl_R_233 im_R_sumOf rfl rfl (c_R_sumOf hx (fun j hj => by rw [hset_tag _ _ (by decide)]; exact hs j hj) (by omega)) rfl rfl d_R_amount_72 (by decide) (Nat.le_of_ble_eq_true rfl) ?_
        simp only [hset_fr _ _ _ _ (show (52 : Nat) ≠ 40 by decide)]
        refine r_goto (tgt := 88) C d_R_amount_75 (by decide) ?_
        exact r_iret C d_R_amount_88 (fun _ => (by first | exact Rout.thr hv (by omega) | (exact Rout.retv hv (by rw [← hr]; first | (rw [if_pos (by omega)]; done) | (rw [if_neg (by omega)]; rfl)) rfl))) (by decide) (fun q => nomatch q)
    · refine r_iconst C d_R_amount_61 (by decide) ?_
      refine r_goto (tgt := 88) C d_R_amount_62 (by decide) ?_
      exact r_iret C d_R_amount_88 (fun _ => (by first | exact Rout.thr hv (by omega) | (exact Rout.retv hv (by rw [← hr]; first | (rw [if_pos (by omega)]; done) | (rw [if_neg (by omega)]; rfl)) rfl))) (by decide) (fun q => nomatch q)
  have join : ∀ v : Int, v = (if h 40 0 19 = 0 then 1 else if ¬ (a = -1 ∨ 0 ≤ a ∧ a < h 40 0 9) ∨ b < 0 ∨ 3 < b then 2 else 0) → AW x w 4 true 0 0 (AQ x w false 0 0 (Rout (if h 40 0 19 = 0 then 1 else if ¬ (a = -1 ∨ 0 ≤ a ∧ a < h 40 0 9) ∨ b < 0 ∨ 3 < b then 2 else 0) (some (vI 0)) (some (if b = 3 then vI (h 52 0 (3 * (if a = -1 then 20 else a)).toNat + h 52 0 (3 * (if a = -1 then 20 else a) + 1).toNat + h 52 0 (3 * (if a = -1 then 20 else a) + 2).toNat) else vI (h 52 0 (3 * (if a = -1 then 20 else a) + b).toNat))) h (fun h' => h' = hset h 40 0 0 0))) 39 (aargs 0 [vO 40 0, vI a, vI b]) [vI v, vO 40 0] h := by
    intro v hv
    refine r_putI C pl_R_85 d_R_amount_39 rfl ?_
    refine r_iload_n (i0 := 1) C d_R_amount_42 rfl rfl ?_
    refine r_iconst C d_R_amount_43 (by decide) ?_
    refine r_icmp_ne (tgt := 52) C d_R_amount_44 (by decide) (fun q44 => ?_) (fun q44 => ?_)
    · refine r_iload_n (i0 := 1) C d_R_amount_52 rfl rfl ?_
      exact join2 v hv _ (by (repeat' split) <;> omega)
    · refine r_bipush C d_R_amount_47 (by decide) (by decide) ?_
      refine r_goto (tgt := 53) C d_R_amount_49 (by decide) ?_
      exact join2 v hv _ (by (repeat' split) <;> omega)
  refine r_aload_n (i0 := 0) C d_R_amount_0 rfl rfl ?_
  refine r_aload_n (i0 := 0) C d_R_amount_1 rfl rfl ?_
  refine r_getI C fl_R_98 d_R_amount_2 rfl ?_
  refine r_if_ne (tgt := 12) C d_R_amount_5 (by decide) (fun q5 => ?_) (fun q5 => ?_)
  · refine r_iload_n (i0 := 1) C d_R_amount_12 rfl rfl ?_
    refine r_iconst C d_R_amount_13 (by decide) ?_
    refine r_icmp_eq (tgt := 25) C d_R_amount_14 (by decide) (fun q14 => ?_) (fun q14 => ?_)
    · refine r_iload_n (i0 := 2) C d_R_amount_25 rfl rfl ?_
      refine r_iconst C d_R_amount_26 (by decide) ?_
      refine r_iconst C d_R_amount_27 (by decide) ?_
      refine r_callSp C cl_R_94 st_R_within (c_R_within hx) rfl rfl d_R_amount_28 (by decide) (Nat.le_of_ble_eq_true rfl) ?_
      refine r_if_ne (tgt := 38) C d_R_amount_31 (by decide) (fun q31 => ?_) (fun q31 => ?_)
      · refine r_iconst C d_R_amount_38 (by decide) ?_
        exact join _ (by (repeat' split) <;> omega)
      · refine r_iconst C d_R_amount_34 (by decide) ?_
        refine r_goto (tgt := 39) C d_R_amount_35 (by decide) ?_
        exact join _ (by (repeat' split) <;> omega)
    · refine r_aload_n (i0 := 0) C d_R_amount_17 rfl rfl ?_
      refine r_iload_n (i0 := 1) C d_R_amount_18 rfl rfl ?_
      refine r_callVp C cl_R_124 im_R_isTenant rfl rfl (c_R_isTenant hx) rfl rfl d_R_amount_19 (by decide) (Nat.le_of_ble_eq_true rfl) ?_
      refine r_if_eq (tgt := 34) C d_R_amount_22 (by decide) (fun q22 => ?_) (fun q22 => ?_)
      · refine r_iconst C d_R_amount_34 (by decide) ?_
        refine r_goto (tgt := 39) C d_R_amount_35 (by decide) ?_
        exact join _ (by (repeat' split) <;> omega)
      · refine r_iload_n (i0 := 2) C d_R_amount_25 rfl rfl ?_
        refine r_iconst C d_R_amount_26 (by decide) ?_
        refine r_iconst C d_R_amount_27 (by decide) ?_
        refine r_callSp C cl_R_94 st_R_within (c_R_within hx) rfl rfl d_R_amount_28 (by decide) (Nat.le_of_ble_eq_true rfl) ?_
        refine r_if_ne (tgt := 38) C d_R_amount_31 (by decide) (fun q31 => ?_) (fun q31 => ?_)
        · refine r_iconst C d_R_amount_38 (by decide) ?_
          exact join _ (by (repeat' split) <;> omega)
        · refine r_iconst C d_R_amount_34 (by decide) ?_
          refine r_goto (tgt := 39) C d_R_amount_35 (by decide) ?_
          exact join _ (by (repeat' split) <;> omega)
  · refine r_iconst C d_R_amount_8 (by decide) ?_
    refine r_goto (tgt := 39) C d_R_amount_9 (by decide) ?_
    exact join _ (by (repeat' split) <;> omega)
set_option maxHeartbeats 1000000 in
theorem c_R_sent {l : Launch} (hl : l.stackTraces = false) {w : XW} {h : AH} {a : Int} (ht : 0 ≤ h 40 0 9 ∧ h 40 0 9 ≤ 20) : AM l y_R_sent (wsM y_R_sent b_R_sent 2 (some .int) []) false (rmV 3 0) w [vO 40 0, vI a] h (Rout (if a = -1 ∨ 0 ≤ a ∧ a < h 40 0 9 then 0 else 1) (some (vI 0)) (some (vI (h 55 0 (if a = -1 then 20 else a).toNat))) h (fun h' => h' = hset h 40 0 0 0)) := by
  refine AM.of hl (by decide +kernel) (Nat.le_of_ble_eq_true rfl) fun x hx C _ => ?_
  have join2 : (0 : Int) = (if a = -1 ∨ 0 ≤ a ∧ a < h 40 0 9 then 0 else 1) → (-1 ≤ a ∧ a < 20) → ∀ r : Int, r = (if a = -1 then 20 else a) → AW x w 2 false 0 0 (AQ x w false 0 0 (Rout (if a = -1 ∨ 0 ≤ a ∧ a < h 40 0 9 then 0 else 1) (some (vI 0)) (some (vI (h 55 0 (if a = -1 then 20 else a).toNat))) h (fun h' => h' = hset h 40 0 0 0))) 48 (aargs 0 [vO 40 0, vI a]) [vI r, vO 55 0] (hset h 40 0 0 0) := by
    intro hv ha r hr
    refine r_iaload (ln := 21) C d_R_sent_48 rfl (fun _ => rfl) rfl (by omega) ?_
    exact r_iret C d_R_sent_49 (fun _ => Rout.retv hv (by rw [← hr]; rfl) rfl) (by decide) (fun q => nomatch q)
  have join : ∀ v : Int, v = (if a = -1 ∨ 0 ≤ a ∧ a < h 40 0 9 then 0 else 1) → AW x w 2 true 0 0 (AQ x w false 0 0 (Rout (if a = -1 ∨ 0 ≤ a ∧ a < h 40 0 9 then 0 else 1) (some (vI 0)) (some (vI (h 55 0 (if a = -1 then 20 else a).toNat))) h (fun h' => h' = hset h 40 0 0 0))) 19 (aargs 0 [vO 40 0, vI a]) [vI v, vO 40 0] h := by
    intro v hv
    refine r_putI C pl_R_85 d_R_sent_19 rfl ?_
    refine r_aload_n (i0 := 0) C d_R_sent_22 rfl rfl ?_
    refine r_getI C fl_R_85 d_R_sent_23 rfl ?_
    rw [hset_same]
    refine r_if_le (tgt := 33) C d_R_sent_26 (by decide) (fun q26 => ?_) (fun q26 => ?_)
    · have v0 : v = 0 := by omega
      subst v0
      refine r_aload_n (i0 := 0) C d_R_sent_33 rfl rfl ?_
      refine r_getO C fl_R_62 d_R_sent_34 rfl rfl (fun hi => hi) ?_
      refine r_iload_n (i0 := 1) C d_R_sent_37 rfl rfl ?_
      refine r_iconst C d_R_sent_38 (by decide) ?_
      refine r_icmp_ne (tgt := 47) C d_R_sent_39 (by decide) (fun q39 => ?_) (fun q39 => ?_)
      · refine r_iload_n (i0 := 1) C d_R_sent_47 rfl rfl ?_
        exact join2 hv (by omega) _ (by (repeat' split) <;> omega)
      · refine r_bipush C d_R_sent_42 (by decide) (by decide) ?_
        refine r_goto (tgt := 48) C d_R_sent_44 (by decide) ?_
        exact join2 hv (by omega) _ (by (repeat' split) <;> omega)
    · refine r_iconst C d_R_sent_29 (by decide) ?_
      refine r_goto (tgt := 49) C d_R_sent_30 (by decide) ?_
      exact r_iret C d_R_sent_49 (fun _ => Rout.thr hv (by omega)) (by decide) (fun q => nomatch q)
  refine r_aload_n (i0 := 0) C d_R_sent_0 rfl rfl ?_
  refine r_iload_n (i0 := 1) C d_R_sent_1 rfl rfl ?_
  refine r_iconst C d_R_sent_2 (by decide) ?_
  refine r_icmp_eq (tgt := 14) C d_R_sent_3 (by decide) (fun q3 => ?_) (fun q3 => ?_)
  · refine r_iconst C d_R_sent_14 (by decide) ?_
    refine r_goto (tgt := 19) C d_R_sent_15 (by decide) ?_
    exact join _ (by (repeat' split) <;> omega)
  · refine r_aload_n (i0 := 0) C d_R_sent_6 rfl rfl ?_
    refine r_iload_n (i0 := 1) C d_R_sent_7 rfl rfl ?_
    refine r_callVp C cl_R_124 im_R_isTenant rfl rfl (c_R_isTenant hx) rfl rfl d_R_sent_8 (by decide) (Nat.le_of_ble_eq_true rfl) ?_
    refine r_if_eq (tgt := 18) C d_R_sent_11 (by decide) (fun q11 => ?_) (fun q11 => ?_)
    · refine r_iconst C d_R_sent_18 (by decide) ?_
      exact join _ (by (repeat' split) <;> omega)
    · refine r_iconst C d_R_sent_14 (by decide) ?_
      refine r_goto (tgt := 19) C d_R_sent_15 (by decide) ?_
      exact join _ (by (repeat' split) <;> omega)

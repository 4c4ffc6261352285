/-! Contracts: the parts of the reference; degrees. -/
theorem tdiv_rng {a b : Int} (ha : -9223372036854775807 ≤ a ∧ a ≤ 9223372036854775807) (hb : 1 ≤ b) : -9223372036854775808 ≤ a.tdiv b ∧ a.tdiv b ≤ 9223372036854775807 := by
  by_cases z : 0 ≤ a
  · rw [tdiv_nn z]
    have := ediv_le_self' z (show 0 < b by omega)
    omega
  · have e : a = -(-a) := by omega
    rw [e, Int.neg_tdiv, tdiv_nn (show 0 ≤ -a by omega)]
    have := ediv_le_self' (show 0 ≤ -a by omega) (show 0 < b by omega)
    omega
set_option maxHeartbeats 1000000 in
theorem c_R_findParts {l : Launch} (hl : l.stackTraces = false) {w : XW} {h : AH} (hL : 0 ≤ h 40 0 10) (hU : FUv (h 40 0 10).toNat (h 48 0) (h 49 0)) (hs : -1 ≤ h 40 0 13 ∧ h 40 0 13 ≤ 12000) (hli : -1 ≤ h 40 0 15 ∧ h 40 0 15 ≤ 10000000) (hga : 0 ≤ h 40 0 16 ∧ h 40 0 16 ≤ 100) (hsd : 0 ≤ h 40 0 14 ∧ h 40 0 14 ≤ 20000) (hpm : 0 ≤ h 40 0 17 ∧ h 40 0 17 ≤ 1000) (hbu : 0 < (sumF (h 40 0 10).toNat (h 48 0) - h 40 0 13) ∧ 0 ≤ h 40 0 13) : AM l y_R_findParts (wsM y_R_findParts b_R_findParts 8 none []) false (rmV 4 0) w [vO 40 0] h (RetP none (fun h' => h' = partsH h 51 (sumF (h 40 0 10).toNat (h 48 0) - h 40 0 13) (sumF (h 40 0 10).toNat (ncV (h 40 0 10).toNat (h 48 0) (h 49 0) (h 40 0 13)) + h 40 0 14) (p2V (sumF (h 40 0 10).toNat (ncV (h 40 0 10).toNat (h 48 0) (h 49 0) (h 40 0 13)) + h 40 0 14) (waV (h 40 0 15) (h 40 0 16) (sumF (h 40 0 10).toNat (h 48 0) - h 40 0 13)) (sumF (h 40 0 10).toNat (h 48 0) - h 40 0 13)) (p3V (sumF (h 40 0 10).toNat (ncV (h 40 0 10).toNat (h 48 0) (h 49 0) (h 40 0 13)) + h 40 0 14) (p2V (sumF (h 40 0 10).toNat (ncV (h 40 0 10).toNat (h 48 0) (h 49 0) (h 40 0 13)) + h 40 0 14) (waV (h 40 0 15) (h 40 0 16) (sumF (h 40 0 10).toNat (h 48 0) - h 40 0 13)) (sumF (h 40 0 10).toNat (h 48 0) - h 40 0 13)) (h 40 0 17)))) := by
  refine AM.of hl (by decide +kernel) (Nat.le_of_ble_eq_true rfl) fun x hx C _ => ?_
  have hL1 := hU.1
  have s1 := su_bd hU (n := (h 40 0 10).toNat) (Nat.le_refl _)
  have n1 := nc_bd (s := h 40 0 13) hU (n := (h 40 0 10).toNat) (Nat.le_refl _)
  have w1 := waV_bd (li := h 40 0 15) (ga := h 40 0 16) (b := (sumF (h 40 0 10).toNat (h 48 0) - h 40 0 13)) (by omega) (by omega) (by omega)
  have p1 := p2V_bd (cost := (sumF (h 40 0 10).toNat (ncV (h 40 0 10).toNat (h 48 0) (h 49 0) (h 40 0 13)) + h 40 0 14)) (wa := (waV (h 40 0 15) (h 40 0 16) (sumF (h 40 0 10).toNat (h 48 0) - h 40 0 13))) (b := (sumF (h 40 0 10).toNat (h 48 0) - h 40 0 13)) (by omega) w1 (by omega)
  have q1 := p3V_bd (cost := (sumF (h 40 0 10).toNat (ncV (h 40 0 10).toNat (h 48 0) (h 49 0) (h 40 0 13)) + h 40 0 14)) (p2 := (p2V (sumF (h 40 0 10).toNat (ncV (h 40 0 10).toNat (h 48 0) (h 49 0) (h 40 0 13)) + h 40 0 14) (waV (h 40 0 15) (h 40 0 16) (sumF (h 40 0 10).toNat (h 48 0) - h 40 0 13)) (sumF (h 40 0 10).toNat (h 48 0) - h 40 0 13))) (pm := h 40 0 17) (by omega) (by omega)
  have m1 := mulN (A := 260000) (B := 12000) (a := (sumF (h 40 0 10).toNat (ncV (h 40 0 10).toNat (h 48 0) (h 49 0) (h 40 0 13)) + h 40 0 14)) (b := (waV (h 40 0 15) (h 40 0 16) (sumF (h 40 0 10).toNat (h 48 0) - h 40 0 13))) (by omega) (by omega)
  have m2 := mulN (A := 260000) (B := 1000) (a := (sumF (h 40 0 10).toNat (ncV (h 40 0 10).toNat (h 48 0) (h 49 0) (h 40 0 13)) + h 40 0 14) - (p2V (sumF (h 40 0 10).toNat (ncV (h 40 0 10).toNat (h 48 0) (h 49 0) (h 40 0 13)) + h 40 0 14) (waV (h 40 0 15) (h 40 0 16) (sumF (h 40 0 10).toNat (h 48 0) - h 40 0 13)) (sumF (h 40 0 10).toNat (h 48 0) - h 40 0 13))) (b := h 40 0 17) (by omega) (by omega)
  have m3 : -(10000000 * 100) ≤ h 40 0 15 * h 40 0 16 ∧ h 40 0 15 * h 40 0 16 ≤ 10000000 * 100 := mulB (by omega) (by omega)
  have m4 : 115 * h 40 0 15 * h 40 0 16 = h 40 0 15 * h 40 0 16 * 115 := by rw [Int.mul_assoc, Int.mul_comm]
  have m5 : 0 ≤ h 40 0 15 → 0 ≤ h 40 0 15 * h 40 0 16 := fun z => Int.mul_nonneg z hga.1
  have m6 : (waV (h 40 0 15) (h 40 0 16) (sumF (h 40 0 10).toNat (h 48 0) - h 40 0 13)) * (sumF (h 40 0 10).toNat (ncV (h 40 0 10).toNat (h 48 0) (h 49 0) (h 40 0 13)) + h 40 0 14) = (sumF (h 40 0 10).toNat (ncV (h 40 0 10).toNat (h 48 0) (h 49 0) (h 40 0 13)) + h 40 0 14) * (waV (h 40 0 15) (h 40 0 16) (sumF (h 40 0 10).toNat (h 48 0) - h 40 0 13)) := Int.mul_comm _ _
  have join112 : ∀ v : Int, v = (waV (h 40 0 15) (h 40 0 16) (sumF (h 40 0 10).toNat (h 48 0) - h 40 0 13)) → AW x w 8 true 0 0 (AQ x w false 0 0 (RetP none (fun h' => h' = partsH h 51 (sumF (h 40 0 10).toNat (h 48 0) - h 40 0 13) (sumF (h 40 0 10).toNat (ncV (h 40 0 10).toNat (h 48 0) (h 49 0) (h 40 0 13)) + h 40 0 14) (p2V (sumF (h 40 0 10).toNat (ncV (h 40 0 10).toNat (h 48 0) (h 49 0) (h 40 0 13)) + h 40 0 14) (waV (h 40 0 15) (h 40 0 16) (sumF (h 40 0 10).toNat (h 48 0) - h 40 0 13)) (sumF (h 40 0 10).toNat (h 48 0) - h 40 0 13)) (p3V (sumF (h 40 0 10).toNat (ncV (h 40 0 10).toNat (h 48 0) (h 49 0) (h 40 0 13)) + h 40 0 14) (p2V (sumF (h 40 0 10).toNat (ncV (h 40 0 10).toNat (h 48 0) (h 49 0) (h 40 0 13)) + h 40 0 14) (waV (h 40 0 15) (h 40 0 16) (sumF (h 40 0 10).toNat (h 48 0) - h 40 0 13)) (sumF (h 40 0 10).toNat (h 48 0) - h 40 0 13)) (h 40 0 17))))) 112 [(0, vO 40 0), (1, vI (sumF (h 40 0 10).toNat (h 48 0) - h 40 0 13)), (2, vI (sumF (h 40 0 10).toNat (ncV (h 40 0 10).toNat (h 48 0) (h 49 0) (h 40 0 13)) + h 40 0 14))] [vL v] h := by
    intro v hv
    subst hv
    refine r_lstore C d_R_findParts_112 (by decide) ?_
    refine r_aload_n (i0 := 0) C d_R_findParts_114 rfl rfl ?_
    refine r_getO C fl_R_50 d_R_findParts_115 rfl rfl (fun hi => hi) ?_
    refine r_iconst C d_R_findParts_118 (by decide) ?_
    refine r_iload_n (i0 := 1) C d_R_findParts_119 rfl rfl ?_
    refine r_iastore (ln := 5) C d_R_findParts_120 rfl (fun _ => rfl) rfl (by omega) ?_
    refine r_aload_n (i0 := 0) C d_R_findParts_121 rfl rfl ?_
    refine r_getO C fl_R_50 d_R_findParts_122 rfl rfl (fun hi => hi) ?_
    refine r_iconst C d_R_findParts_125 (by decide) ?_
    refine r_iload_n (i0 := 2) C d_R_findParts_126 rfl rfl ?_
    refine r_iastore (ln := 5) C d_R_findParts_127 rfl (fun _ => rfl) rfl (by omega) ?_
    refine r_aload_n (i0 := 0) C d_R_findParts_128 rfl rfl ?_
    refine r_getO C fl_R_50 d_R_findParts_129 rfl rfl (fun hi => hi) ?_
    refine r_iconst C d_R_findParts_132 (by decide) ?_
    refine r_lload C d_R_findParts_133 rfl ?_
    refine r_iload_n (i0 := 2) C d_R_findParts_135 rfl rfl ?_
    refine r_i2l C d_R_findParts_136 ?_
    refine r_lmul C d_R_findParts_137 (by rw [m6]; omega) ?_
    refine r_iload_n (i0 := 1) C d_R_findParts_138 rfl rfl ?_
    refine r_i2l C d_R_findParts_139 ?_
    refine r_ldiv C d_R_findParts_140 (by omega) (by rw [m6, tdiv_nn m1.1]; have := ediv_le_self' m1.1 (show 0 < (sumF (h 40 0 10).toNat (h 48 0) - h 40 0 13) by omega); omega) ?_
    rw [m6, tdiv_nn m1.1, show (sumF (h 40 0 10).toNat (ncV (h 40 0 10).toNat (h 48 0) (h 49 0) (h 40 0 13)) + h 40 0 14) * (waV (h 40 0 15) (h 40 0 16) (sumF (h 40 0 10).toNat (h 48 0) - h 40 0 13)) / (sumF (h 40 0 10).toNat (h 48 0) - h 40 0 13) = (p2V (sumF (h 40 0 10).toNat (ncV (h 40 0 10).toNat (h 48 0) (h 49 0) (h 40 0 13)) + h 40 0 14) (waV (h 40 0 15) (h 40 0 16) (sumF (h 40 0 10).toNat (h 48 0) - h 40 0 13)) (sumF (h 40 0 10).toNat (h 48 0) - h 40 0 13)) from rfl]
    refine r_l2i C d_R_findParts_141 (by omega) ?_
    refine r_iastore (ln := 5) C d_R_findParts_142 rfl (fun _ => rfl) rfl (by omega) ?_
    refine r_aload_n (i0 := 0) C d_R_findParts_143 rfl rfl ?_
    refine r_getO C fl_R_50 d_R_findParts_144 rfl rfl (fun hi => hi) ?_
    refine r_iconst C d_R_findParts_147 (by decide) ?_
    refine r_iload_n (i0 := 2) C d_R_findParts_148 rfl rfl ?_
    refine r_aload_n (i0 := 0) C d_R_findParts_149 rfl rfl ?_
    refine r_getO C fl_R_50 d_R_findParts_150 rfl rfl (fun hi => hi) ?_
    refine r_iconst C d_R_findParts_153 (by decide) ?_
    refine r_iaload (ln := 5) C d_R_findParts_154 rfl (fun _ => rfl) rfl (by omega) ?_
    simp only [show (0 : Int).toNat = 0 from rfl, show (1 : Int).toNat = 1 from rfl, show (2 : Int).toNat = 2 from rfl, show (3 : Int).toNat = 3 from rfl, show (4 : Int).toNat = 4 from rfl]
    rw [hset_same]
    refine r_isub C d_R_findParts_155 (by omega) ?_
    refine r_i2l C d_R_findParts_156 ?_
    refine r_aload_n (i0 := 0) C d_R_findParts_157 rfl rfl ?_
    refine r_getI C fl_R_44 d_R_findParts_158 rfl ?_
    simp only [hset_tag, ne_eq, not_false_eq_true, Nat.reduceEqDiff]
    refine r_i2l C d_R_findParts_161 ?_
    refine r_lmul C d_R_findParts_162 (by omega) ?_
    refine r_ldc2 C d_R_findParts_163 k_R_172 (by decide) ?_
    refine r_ldiv C d_R_findParts_166 (by omega) (by rw [tdiv_nn m2.1]; have := ediv_le_self' m2.1 (show (0 : Int) < 1000 by decide); omega) ?_
    rw [tdiv_nn m2.1, show ((sumF (h 40 0 10).toNat (ncV (h 40 0 10).toNat (h 48 0) (h 49 0) (h 40 0 13)) + h 40 0 14) - (p2V (sumF (h 40 0 10).toNat (ncV (h 40 0 10).toNat (h 48 0) (h 49 0) (h 40 0 13)) + h 40 0 14) (waV (h 40 0 15) (h 40 0 16) (sumF (h 40 0 10).toNat (h 48 0) - h 40 0 13)) (sumF (h 40 0 10).toNat (h 48 0) - h 40 0 13))) * h 40 0 17 / 1000 = (p3V (sumF (h 40 0 10).toNat (ncV (h 40 0 10).toNat (h 48 0) (h 49 0) (h 40 0 13)) + h 40 0 14) (p2V (sumF (h 40 0 10).toNat (ncV (h 40 0 10).toNat (h 48 0) (h 49 0) (h 40 0 13)) + h 40 0 14) (waV (h 40 0 15) (h 40 0 16) (sumF (h 40 0 10).toNat (h 48 0) - h 40 0 13)) (sumF (h 40 0 10).toNat (h 48 0) - h 40 0 13)) (h 40 0 17)) from rfl]
    refine r_l2i C d_R_findParts_167 (by omega) ?_
    refine r_iastore (ln := 5) C d_R_findParts_168 rfl (fun _ => rfl) rfl (by omega) ?_
    refine r_aload_n (i0 := 0) C d_R_findParts_169 rfl rfl ?_
    refine r_getO C fl_R_50 d_R_findParts_170 rfl rfl (fun hi => hi) ?_
    refine r_iconst C d_R_findParts_173 (by decide) ?_
    refine r_iload_n (i0 := 2) C d_R_findParts_174 rfl rfl ?_
    refine r_aload_n (i0 := 0) C d_R_findParts_175 rfl rfl ?_
    refine r_getO C fl_R_50 d_R_findParts_176 rfl rfl (fun hi => hi) ?_
    refine r_iconst C d_R_findParts_179 (by decide) ?_
    refine r_iaload (ln := 5) C d_R_findParts_180 rfl (fun _ => rfl) rfl (by omega) ?_
    simp only [show (0 : Int).toNat = 0 from rfl, show (1 : Int).toNat = 1 from rfl, show (2 : Int).toNat = 2 from rfl, show (3 : Int).toNat = 3 from rfl, show (4 : Int).toNat = 4 from rfl]
    rw [hset_slot _ _ (by decide), hset_same]
    refine r_isub C d_R_findParts_181 (by omega) ?_
    refine r_aload_n (i0 := 0) C d_R_findParts_182 rfl rfl ?_
    refine r_getO C fl_R_50 d_R_findParts_183 rfl rfl (fun hi => hi) ?_
    refine r_iconst C d_R_findParts_186 (by decide) ?_
    refine r_iaload (ln := 5) C d_R_findParts_187 rfl (fun _ => rfl) rfl (by omega) ?_
    simp only [show (0 : Int).toNat = 0 from rfl, show (1 : Int).toNat = 1 from rfl, show (2 : Int).toNat = 2 from rfl, show (3 : Int).toNat = 3 from rfl, show (4 : Int).toNat = 4 from rfl]
    rw [hset_same]
    refine r_isub C d_R_findParts_188 (by omega) ?_
    refine r_iastore (ln := 5) C d_R_findParts_189 rfl (fun _ => rfl) rfl (by omega) ?_
    exact r_vret C d_R_findParts_190 (⟨rfl, rfl⟩) (by decide) (fun q => nomatch q)
  have tail : AW x w 8 true 0 0 (AQ x w false 0 0 (RetP none (fun h' => h' = partsH h 51 (sumF (h 40 0 10).toNat (h 48 0) - h 40 0 13) (sumF (h 40 0 10).toNat (ncV (h 40 0 10).toNat (h 48 0) (h 49 0) (h 40 0 13)) + h 40 0 14) (p2V (sumF (h 40 0 10).toNat (ncV (h 40 0 10).toNat (h 48 0) (h 49 0) (h 40 0 13)) + h 40 0 14) (waV (h 40 0 15) (h 40 0 16) (sumF (h 40 0 10).toNat (h 48 0) - h 40 0 13)) (sumF (h 40 0 10).toNat (h 48 0) - h 40 0 13)) (p3V (sumF (h 40 0 10).toNat (ncV (h 40 0 10).toNat (h 48 0) (h 49 0) (h 40 0 13)) + h 40 0 14) (p2V (sumF (h 40 0 10).toNat (ncV (h 40 0 10).toNat (h 48 0) (h 49 0) (h 40 0 13)) + h 40 0 14) (waV (h 40 0 15) (h 40 0 16) (sumF (h 40 0 10).toNat (h 48 0) - h 40 0 13)) (sumF (h 40 0 10).toNat (h 48 0) - h 40 0 13)) (h 40 0 17))))) 46 [(0, vO 40 0), (1, vI (sumF (h 40 0 10).toNat (h 48 0) - h 40 0 13)), (2, vI (sumF (h 40 0 10).toNat (ncV (h 40 0 10).toNat (h 48 0) (h 49 0) (h 40 0 13)) + h 40 0 14))] [] h := by
    refine r_iload_n (i0 := 1) C d_R_findParts_46 rfl rfl ?_
    refine r_sipush C d_R_findParts_47 (by decide) (by decide) ?_
    refine r_imul C d_R_findParts_50 (by omega) ?_
    refine r_sipush C d_R_findParts_51 (by decide) (by decide) ?_
    refine r_idiv C d_R_findParts_54 (by omega) (by rw [tdiv_nn (by omega)]; omega) ?_
    refine r_istore_n (i0 := 3) C d_R_findParts_55 rfl (by decide) ?_
    refine r_ldc2 C d_R_findParts_56 k_R_168 (by decide) ?_
    refine r_aload_n (i0 := 0) C d_R_findParts_59 rfl rfl ?_
    refine r_getI C fl_R_41 d_R_findParts_60 rfl ?_
    refine r_i2l C d_R_findParts_63 ?_
    refine r_lmul C d_R_findParts_64 (by omega) ?_
    refine r_aload_n (i0 := 0) C d_R_findParts_65 rfl rfl ?_
    refine r_getI C fl_R_121 d_R_findParts_66 rfl ?_
    refine r_i2l C d_R_findParts_69 ?_
    refine r_lmul C d_R_findParts_70 (by rw [m4]; omega) ?_
    refine r_ldc2 C d_R_findParts_71 k_R_170 (by decide) ?_
    refine r_ldiv C d_R_findParts_74 (by omega) (by rw [m4]; have z1 := Int.neg_le_of_neg_le (show -(h 40 0 15 * h 40 0 16 * 115) ≤ 200000000000 by omega); exact tdiv_rng (by omega) (by omega)) ?_
    refine r_lstore C d_R_findParts_75 (by decide) ?_
    refine r_aload_n (i0 := 0) C d_R_findParts_77 rfl rfl ?_
    refine r_getI C fl_R_41 d_R_findParts_78 rfl ?_
    refine r_if_ge (tgt := 97) C d_R_findParts_81 (by decide) (fun q81 => ?_) (fun q81 => ?_)
    · refine r_lload C d_R_findParts_97 rfl ?_
      refine r_iload_n (i0 := 3) C d_R_findParts_99 rfl rfl ?_
      refine r_i2l C d_R_findParts_100 ?_
      refine r_lcmp_ge (tgt := 110) C d_R_findParts_101 d_R_findParts_102 (by decide) (fun q101 => ?_) (fun q101 => ?_)
      · refine r_iload_n (i0 := 3) C d_R_findParts_110 rfl rfl ?_
        refine r_i2l C d_R_findParts_111 ?_
        refine AW.lvs [(0, vO 40 0), (1, vI (sumF (h 40 0 10).toNat (h 48 0) - h 40 0 13)), (2, vI (sumF (h 40 0 10).toNat (ncV (h 40 0 10).toNat (h 48 0) (h 49 0) (h 40 0 13)) + h 40 0 14))] ⟨rfl, rfl, rfl, trivial⟩ (join112 _ ?_)
        unfold waV
        first
          | (rw [if_pos (by omega), tdiv_nn (by omega)]; congr 1; omega)
          | (rw [if_neg (by omega)]; rw [m4, tdiv_nn (show 0 ≤ h 40 0 15 * h 40 0 16 * 115 by have := m5 (by omega); omega), tdiv_nn (show 0 ≤ (sumF (h 40 0 10).toNat (h 48 0) - h 40 0 13) * 400 by omega)] at q101; (first | rw [m4, tdiv_nn (show 0 ≤ h 40 0 15 * h 40 0 16 * 115 by have := m5 (by omega); omega)] | rw [tdiv_nn (show 0 ≤ (sumF (h 40 0 10).toNat (h 48 0) - h 40 0 13) * 400 by omega)]); split <;> omega)
      · refine r_lload C d_R_findParts_105 rfl ?_
        refine r_goto (tgt := 112) C d_R_findParts_107 (by decide) ?_
        refine AW.lvs [(0, vO 40 0), (1, vI (sumF (h 40 0 10).toNat (h 48 0) - h 40 0 13)), (2, vI (sumF (h 40 0 10).toNat (ncV (h 40 0 10).toNat (h 48 0) (h 49 0) (h 40 0 13)) + h 40 0 14))] ⟨rfl, rfl, rfl, trivial⟩ (join112 _ ?_)
        unfold waV
        first
          | (rw [if_pos (by omega), tdiv_nn (by omega)]; congr 1; omega)
          | (rw [if_neg (by omega)]; rw [m4, tdiv_nn (show 0 ≤ h 40 0 15 * h 40 0 16 * 115 by have := m5 (by omega); omega), tdiv_nn (show 0 ≤ (sumF (h 40 0 10).toNat (h 48 0) - h 40 0 13) * 400 by omega)] at q101; (first | rw [m4, tdiv_nn (show 0 ≤ h 40 0 15 * h 40 0 16 * 115 by have := m5 (by omega); omega)] | rw [tdiv_nn (show 0 ≤ (sumF (h 40 0 10).toNat (h 48 0) - h 40 0 13) * 400 by omega)]); split <;> omega)
    · refine r_iload_n (i0 := 1) C d_R_findParts_84 rfl rfl ?_
      refine r_sipush C d_R_findParts_85 (by decide) (by decide) ?_
      refine r_imul C d_R_findParts_88 (by omega) ?_
      refine r_sipush C d_R_findParts_89 (by decide) (by decide) ?_
      refine r_idiv C d_R_findParts_92 (by omega) (by rw [tdiv_nn (by omega)]; omega) ?_
      refine r_i2l C d_R_findParts_93 ?_
      refine r_goto (tgt := 112) C d_R_findParts_94 (by decide) ?_
      refine AW.lvs [(0, vO 40 0), (1, vI (sumF (h 40 0 10).toNat (h 48 0) - h 40 0 13)), (2, vI (sumF (h 40 0 10).toNat (ncV (h 40 0 10).toNat (h 48 0) (h 49 0) (h 40 0 13)) + h 40 0 14))] ⟨rfl, rfl, rfl, trivial⟩ (join112 _ ?_)
      unfold waV
      first
        | (rw [if_pos (by omega), tdiv_nn (by omega)]; congr 1; omega)
        | (rw [if_neg (by omega)]; rw [m4, tdiv_nn (show 0 ≤ h 40 0 15 * h 40 0 16 * 115 by have := m5 (by omega); omega), tdiv_nn (show 0 ≤ (sumF (h 40 0 10).toNat (h 48 0) - h 40 0 13) * 400 by omega)] at q101; (first | rw [m4, tdiv_nn (show 0 ≤ h 40 0 15 * h 40 0 16 * 115 by have := m5 (by omega); omega)] | rw [tdiv_nn (show 0 ≤ (sumF (h 40 0 10).toNat (h 48 0) - h 40 0 13) * 400 by omega)]); split <;> omega)
  have loop : ∀ (m : Nat) (i A : Int), 0 ≤ i → i ≤ h 40 0 10 → (h 40 0 10 - i).toNat = m → A = sumF i.toNat (ncV (h 40 0 10).toNat (h 48 0) (h 49 0) (h 40 0 13)) + h 40 0 14 → AW x w 8 true 0 0 (AQ x w false 0 0 (RetP none (fun h' => h' = partsH h 51 (sumF (h 40 0 10).toNat (h 48 0) - h 40 0 13) (sumF (h 40 0 10).toNat (ncV (h 40 0 10).toNat (h 48 0) (h 49 0) (h 40 0 13)) + h 40 0 14) (p2V (sumF (h 40 0 10).toNat (ncV (h 40 0 10).toNat (h 48 0) (h 49 0) (h 40 0 13)) + h 40 0 14) (waV (h 40 0 15) (h 40 0 16) (sumF (h 40 0 10).toNat (h 48 0) - h 40 0 13)) (sumF (h 40 0 10).toNat (h 48 0) - h 40 0 13)) (p3V (sumF (h 40 0 10).toNat (ncV (h 40 0 10).toNat (h 48 0) (h 49 0) (h 40 0 13)) + h 40 0 14) (p2V (sumF (h 40 0 10).toNat (ncV (h 40 0 10).toNat (h 48 0) (h 49 0) (h 40 0 13)) + h 40 0 14) (waV (h 40 0 15) (h 40 0 16) (sumF (h 40 0 10).toNat (h 48 0) - h 40 0 13)) (sumF (h 40 0 10).toNat (h 48 0) - h 40 0 13)) (h 40 0 17))))) 17 [(3, vI i), (2, vI A), (1, vI (sumF (h 40 0 10).toNat (h 48 0) - h 40 0 13)), (0, vO 40 0)] [] h := by
    intro m
    induction m using Nat.strongRecOn with
    | _ m ih =>
    intro i A hi0 hi1 hm hA
    refine r_iload_n (i0 := 3) C d_R_findParts_17 rfl rfl ?_
    refine r_aload_n (i0 := 0) C d_R_findParts_18 rfl rfl ?_
    refine r_getI C fl_R_110 d_R_findParts_19 rfl ?_
    refine r_icmp_ge (tgt := 46) C d_R_findParts_22 (by decide) (fun q22 => ?_) (fun q22 => ?_)
    · have e : i.toNat = (h 40 0 10).toNat := (by omega)
      rw [e] at hA
      subst hA
      exact AW.lvs [(0, vO 40 0), (1, vI (sumF (h 40 0 10).toNat (h 48 0) - h 40 0 13)), (2, vI (sumF (h 40 0 10).toNat (ncV (h 40 0 10).toNat (h 48 0) (h 49 0) (h 40 0 13)) + h 40 0 14))] ⟨rfl, rfl, rfl, trivial⟩ tail
    · refine r_iload_n (i0 := 2) C d_R_findParts_25 rfl rfl ?_
      refine r_aload_n (i0 := 0) C d_R_findParts_26 rfl rfl ?_
      refine r_getO C fl_R_34 d_R_findParts_27 rfl rfl (fun hi => hi) ?_
      refine r_iload_n (i0 := 3) C d_R_findParts_30 rfl rfl ?_
      refine r_iaload (ln := 12) C d_R_findParts_31 rfl (fun _ => rfl) rfl (by omega) ?_
      refine r_iadd C d_R_findParts_32 (by have s2 := nc_bd (s := h 40 0 13) hU (n := i.toNat) (by omega); have c2 := hU.2 i.toNat (by omega); omega) ?_
      refine r_aload_n (i0 := 0) C d_R_findParts_33 rfl rfl ?_
      refine r_iload_n (i0 := 3) C d_R_findParts_34 rfl rfl ?_
      refine r_callVp C cl_R_165 im_R_centsInStock rfl rfl (c_R_centsInStock hx hL hU hs (by omega)) rfl rfl d_R_findParts_35 (by decide) (Nat.le_of_ble_eq_true rfl) ?_
      refine r_isub C d_R_findParts_38 (by have s2 := nc_bd (s := h 40 0 13) hU (n := i.toNat) (by omega); have c2 := hU.2 i.toNat (by omega); have c1 := ciV_bd (s := h 40 0 13) hU (k := i.toNat) (by omega); omega) ?_
      refine r_istore_n (i0 := 2) C d_R_findParts_39 rfl (by decide) ?_
      refine r_iinc C d_R_findParts_40 rfl (by decide) (by omega) ?_
      refine r_goto (tgt := 17) C d_R_findParts_43 (by decide) ?_
      refine AW.lvs [(3, _), (2, _), (1, _), (0, _)] ⟨rfl, rfl, rfl, rfl, trivial⟩ (ih (m - 1) (by omega) (i + 1) _ (by omega) (by omega) (by omega) (by rw [sumF_int hi0, hA]; unfold ncV; omega))
  refine r_aload_n (i0 := 0) C d_R_findParts_0 rfl rfl ?_
  refine r_callVp C cl_R_113 im_R_allUnits rfl rfl (c_R_allUnits hx (by omega) (fun k hk => by have := hU.2 k (by omega); omega)) rfl rfl d_R_findParts_1 (by decide) (Nat.le_of_ble_eq_true rfl) ?_
  refine r_aload_n (i0 := 0) C d_R_findParts_4 rfl rfl ?_
  refine r_getI C fl_R_37 d_R_findParts_5 rfl ?_
  refine r_isub C d_R_findParts_8 (by omega) ?_
  refine r_istore_n (i0 := 1) C d_R_findParts_9 rfl (by decide) ?_
  refine r_aload_n (i0 := 0) C d_R_findParts_10 rfl rfl ?_
  refine r_getI C fl_R_117 d_R_findParts_11 rfl ?_
  refine r_istore_n (i0 := 2) C d_R_findParts_14 rfl (by decide) ?_
  refine r_iconst C d_R_findParts_15 (by decide) ?_
  refine r_istore_n (i0 := 3) C d_R_findParts_16 rfl (by decide) ?_
  exact loop _ 0 _ (by omega) (by omega) rfl (by show h 40 0 14 = 0 + h 40 0 14; omega)
def degF (d : Nat → Int) (a b : Nat) : Int := sumF b d - sumF a d
theorem degF_bd {d : Nat → Int} {a b : Nat} (hd : ∀ k : Nat, k < 12 → 0 ≤ d k ∧ d k ≤ 100) (hab : a ≤ b) (hb : b ≤ 12) : 0 ≤ degF d a b ∧ degF d a b ≤ 100 * ((b : Int) - a) := by
  unfold degF
  induction b with
  | zero => have e : a = 0 := by omega
            subst e; simp [sumF]
  | succ b ih =>
    by_cases z : a = b + 1
    · subst z; omega
    · have h1 := ih (by omega) (by omega)
      have h2 := hd b (by omega)
      rw [sumF_succ]
      omega
set_option maxHeartbeats 1000000 in
theorem c_R_degreesOf {l : Launch} (hl : l.stackTraces = false) {w : XW} {h : AH} {a b : Int} (hd : ∀ k : Nat, k < 12 → 0 ≤ h 50 0 k ∧ h 50 0 k ≤ 100) (ha : 0 ≤ a ∧ a ≤ b ∧ b ≤ 12) : AM l y_R_degreesOf (wsM y_R_degreesOf b_R_degreesOf 5 (some .int) []) true (rmV 0 0) w [vO 40 0, vI a, vI b] h (Ret (some (vI (degF (h 50 0) a.toNat b.toNat))) h) := by
  refine AM.of hl (by decide +kernel) (Nat.le_of_ble_eq_true rfl) fun x hx C _ => ?_
  have loop : ∀ (m : Nat) (i A : Int), a ≤ i → i ≤ b → (b - i).toNat = m → A = degF (h 50 0) a.toNat i.toNat → AW x w 5 true 0 0 (AQ x w true 0 0 (Ret (some (vI (degF (h 50 0) a.toNat b.toNat))) h)) 5 [(4, vI i), (3, vI A), (0, vO 40 0), (2, vI b)] [] h := by
    intro m
    induction m using Nat.strongRecOn with
    | _ m ih =>
    intro i A hi0 hi1 hm hA
    refine r_iload C d_R_degreesOf_5 rfl ?_
    refine r_iload_n (i0 := 2) C d_R_degreesOf_7 rfl rfl ?_
    refine r_icmp_ge (tgt := 27) C d_R_degreesOf_8 (by decide) (fun q8 => ?_) (fun q8 => ?_)
    · refine r_iload_n (i0 := 3) C d_R_degreesOf_27 rfl rfl ?_
      exact r_iret C d_R_degreesOf_28 (fun _ => ⟨vi_e (by rw [hA, show i.toNat = b.toNat by omega]), rfl⟩) (by decide) (fun _ => ⟨rfl, rfl, rfl⟩)
    · refine r_iload_n (i0 := 3) C d_R_degreesOf_11 rfl rfl ?_
      refine r_aload_n (i0 := 0) C d_R_degreesOf_12 rfl rfl ?_
      refine r_getO C fl_R_47 d_R_degreesOf_13 rfl rfl (fun hi => hi) ?_
      refine r_iload C d_R_degreesOf_16 rfl ?_
      refine r_iaload (ln := 12) C d_R_degreesOf_18 rfl (fun _ => rfl) rfl (by omega) ?_
      refine r_iadd C d_R_degreesOf_19 (by have s1 := degF_bd (a := a.toNat) (b := i.toNat) hd (by omega) (by omega); have s2 := hd i.toNat (by omega); omega) ?_
      refine r_istore_n (i0 := 3) C d_R_degreesOf_20 rfl (by decide) ?_
      refine r_iinc C d_R_degreesOf_21 rfl (by decide) (by omega) ?_
      refine r_goto (tgt := 5) C d_R_degreesOf_24 (by decide) ?_
      refine AW.lvs [(4, _), (3, _), (0, _), (2, _)] ⟨rfl, rfl, rfl, rfl, trivial⟩ (ih (m - 1) (by omega) (i + 1) _ (by omega) (by omega) (by omega) (by unfold degF at *; rw [sumF_int (show 0 ≤ i by omega), hA]; omega))
  refine r_iconst C d_R_degreesOf_0 (by decide) ?_
  refine r_istore_n (i0 := 3) C d_R_degreesOf_1 rfl (by decide) ?_
  refine r_iload_n (i0 := 1) C d_R_degreesOf_2 rfl rfl ?_
  refine r_istore C d_R_degreesOf_3 (by decide) ?_
  refine AW.lvs [(4, _), (3, _), (0, _), (2, _)] ⟨rfl, rfl, rfl, rfl, trivial⟩ (loop _ _ _ (by omega) (by omega) rfl (by unfold degF; omega))
set_option maxHeartbeats 1000000 in
theorem c_S_sumBetween {l : Launch} (hl : l.stackTraces = false) {w : XW} {h : AH} {a b : Int} (hd : ∀ k : Nat, k < 12 → 0 ≤ h 29 0 k ∧ h 29 0 k ≤ 100) (ha : 0 ≤ a ∧ a ≤ b ∧ b ≤ 12) : AM l y_S_sumBetween (wsM y_S_sumBetween b_S_sumBetween 5 (some .int) []) true (rmV 0 0) w [vO 29 0, vI a, vI b] h (Ret (some (vI (degF (h 29 0) a.toNat b.toNat))) h) := by
  refine AM.of hl (by decide +kernel) (Nat.le_of_ble_eq_true rfl) fun x hx C _ => ?_
  have loop : ∀ (m : Nat) (i A : Int), a ≤ i → i ≤ b → (b - i).toNat = m → A = degF (h 29 0) a.toNat i.toNat → AW x w 5 true 0 0 (AQ x w true 0 0 (Ret (some (vI (degF (h 29 0) a.toNat b.toNat))) h)) 5 [(4, vI i), (3, vI A), (0, vO 29 0), (2, vI b)] [] h := by
    intro m
    induction m using Nat.strongRecOn with
    | _ m ih =>
    intro i A hi0 hi1 hm hA
    refine r_iload C d_S_sumBetween_5 rfl ?_
    refine r_iload_n (i0 := 2) C d_S_sumBetween_7 rfl rfl ?_
    refine r_icmp_ge (tgt := 24) C d_S_sumBetween_8 (by decide) (fun q8 => ?_) (fun q8 => ?_)
    · refine r_iload_n (i0 := 3) C d_S_sumBetween_24 rfl rfl ?_
      exact r_iret C d_S_sumBetween_25 (fun _ => ⟨vi_e (by rw [hA, show i.toNat = b.toNat by omega]), rfl⟩) (by decide) (fun _ => ⟨rfl, rfl, rfl⟩)
    · refine r_iload_n (i0 := 3) C d_S_sumBetween_11 rfl rfl ?_
      refine r_aload_n (i0 := 0) C d_S_sumBetween_12 rfl rfl ?_
      refine r_iload C d_S_sumBetween_13 rfl ?_
      refine r_iaload (ln := 12) C d_S_sumBetween_15 rfl (fun _ => rfl) rfl (by omega) ?_
      refine r_iadd C d_S_sumBetween_16 (by have s1 := degF_bd (a := a.toNat) (b := i.toNat) hd (by omega) (by omega); have s2 := hd i.toNat (by omega); omega) ?_
      refine r_istore_n (i0 := 3) C d_S_sumBetween_17 rfl (by decide) ?_
      refine r_iinc C d_S_sumBetween_18 rfl (by decide) (by omega) ?_
      refine r_goto (tgt := 5) C d_S_sumBetween_21 (by decide) ?_
      refine AW.lvs [(4, _), (3, _), (0, _), (2, _)] ⟨rfl, rfl, rfl, rfl, trivial⟩ (ih (m - 1) (by omega) (i + 1) _ (by omega) (by omega) (by omega) (by unfold degF at *; rw [sumF_int (show 0 ≤ i by omega), hA]; omega))
  refine r_iconst C d_S_sumBetween_0 (by decide) ?_
  refine r_istore_n (i0 := 3) C d_S_sumBetween_1 rfl (by decide) ?_
  refine r_iload_n (i0 := 1) C d_S_sumBetween_2 rfl rfl ?_
  refine r_istore C d_S_sumBetween_3 (by decide) ?_
  refine AW.lvs [(4, _), (3, _), (0, _), (2, _)] ⟨rfl, rfl, rfl, rfl, trivial⟩ (loop _ _ _ (by omega) (by omega) rfl (by unfold degF; omega))
set_option maxHeartbeats 1000000 in
theorem c_H_hasDegreesOfYear {l : Launch} (hl : l.stackTraces = false) {w : XW} {h : AH} (hd : ∀ k : Nat, k < 12 → 0 ≤ h 29 0 k ∧ h 29 0 k ≤ 100) : AM l y_H_hasDegreesOfYear (wsM y_H_hasDegreesOfYear b_H_hasDegreesOfYear 3 (some .boolean) []) true (rmV 0 0) w [vO 1 0] h (Ret (some (vI (if degF (h 29 0) 0 12 = 100 then 1 else 0))) h) := by
  refine AM.of hl (by decide +kernel) (Nat.le_of_ble_eq_true rfl) fun x hx C _ => ?_
  have loop : ∀ (m : Nat) (i A : Int), 0 ≤ i → i ≤ 12 → (12 - i).toNat = m → A = degF (h 29 0) 0 i.toNat → AW x w 3 true 0 0 (AQ x w true 0 0 (Ret (some (vI (if degF (h 29 0) 0 12 = 100 then 1 else 0))) h)) 4 [(2, vI i), (1, vI A), (0, vO 1 0)] [] h := by
    intro m
    induction m using Nat.strongRecOn with
    | _ m ih =>
    intro i A hi0 hi1 hm hA
    refine r_iload_n (i0 := 2) C d_H_hasDegreesOfYear_4 rfl rfl ?_
    refine r_bipush C d_H_hasDegreesOfYear_5 (by decide) (by decide) ?_
    refine r_icmp_ge (tgt := 25) C d_H_hasDegreesOfYear_7 (by decide) (fun q7 => ?_) (fun q7 => ?_)
    · have e : i.toNat = 12 := (by omega)
      rw [e] at hA
      refine r_iload_n (i0 := 1) C d_H_hasDegreesOfYear_25 rfl rfl ?_
      refine r_bipush C d_H_hasDegreesOfYear_26 (by decide) (by decide) ?_
      refine r_icmp_ne (tgt := 35) C d_H_hasDegreesOfYear_28 (by decide) (fun q28 => ?_) (fun q28 => ?_)
      · refine r_iconst C d_H_hasDegreesOfYear_35 (by decide) ?_
        exact r_zret C d_H_hasDegreesOfYear_36 (by omega) (⟨vi_e (by rw [← hA]; split <;> omega), rfl⟩) (by decide) (fun _ => ⟨rfl, rfl, rfl⟩)
      · refine r_iconst C d_H_hasDegreesOfYear_31 (by decide) ?_
        refine r_goto (tgt := 36) C d_H_hasDegreesOfYear_32 (by decide) ?_
        exact r_zret C d_H_hasDegreesOfYear_36 (by omega) (⟨vi_e (by rw [← hA]; split <;> omega), rfl⟩) (by decide) (fun _ => ⟨rfl, rfl, rfl⟩)
    · refine r_iload_n (i0 := 1) C d_H_hasDegreesOfYear_10 rfl rfl ?_
      refine r_aload_n (i0 := 0) C d_H_hasDegreesOfYear_11 rfl rfl ?_
      refine r_getO C fl_H_51 d_H_hasDegreesOfYear_12 rfl rfl (fun hi => hi) ?_
      refine r_iload_n (i0 := 2) C d_H_hasDegreesOfYear_15 rfl rfl ?_
      refine r_iaload (ln := 12) C d_H_hasDegreesOfYear_16 rfl (fun _ => rfl) rfl (by omega) ?_
      refine r_iadd C d_H_hasDegreesOfYear_17 (by have s1 := degF_bd (a := 0) (b := i.toNat) hd (by omega) (by omega); have s2 := hd i.toNat (by omega); omega) ?_
      refine r_istore_n (i0 := 1) C d_H_hasDegreesOfYear_18 rfl (by decide) ?_
      refine r_iinc C d_H_hasDegreesOfYear_19 rfl (by decide) (by omega) ?_
      refine r_goto (tgt := 4) C d_H_hasDegreesOfYear_22 (by decide) ?_
      exact ih (m - 1) (by omega) (i + 1) _ (by omega) (by omega) (by omega) (by unfold degF at *; rw [sumF_int hi0, hA]; omega)
  refine r_iconst C d_H_hasDegreesOfYear_0 (by decide) ?_
  refine r_istore_n (i0 := 1) C d_H_hasDegreesOfYear_1 rfl (by decide) ?_
  refine r_iconst C d_H_hasDegreesOfYear_2 (by decide) ?_
  refine r_istore_n (i0 := 2) C d_H_hasDegreesOfYear_3 rfl (by decide) ?_
  exact loop _ 0 _ (by omega) (by omega) rfl (by unfold degF; rfl)

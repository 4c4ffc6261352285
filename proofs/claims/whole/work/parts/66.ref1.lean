/-! Contracts of the reference: comparing fractions, ends and holders. -/
set_option maxHeartbeats 1000000 in
theorem c_R_isMore {l : Launch} (hl : l.stackTraces = false) {w : XW} {h : AH} {a b c d : Int} (ha : 0 ≤ a ∧ a ≤ 9223372036854775807) (hb : 1 ≤ b ∧ b ≤ 9223372036854775807) (hc : 0 ≤ c ∧ c ≤ 9223372036854775807) (hd : 1 ≤ d ∧ d ≤ 9223372036854775807) : AM l y_R_isMore (wsM y_R_isMore b_R_isMore 21 (some .boolean) []) true (rmV 0 0) w [vL a, vL b, vL c, vL d] h (Ret (some (vI (if c * b < a * d then 1 else 0))) h) := by
  refine AM.of hl (by decide +kernel) (Nat.le_of_ble_eq_true rfl) fun x hx C _ => ?_
  have loop : ∀ (m : Nat) (p q r s tu : Int), (0 ≤ p ∧ p ≤ 9223372036854775807) → (1 ≤ q ∧ q ≤ 9223372036854775807) → (0 ≤ r ∧ r ≤ 9223372036854775807) → (1 ≤ s ∧ s ≤ 9223372036854775807) → (0 ≤ tu ∧ tu ≤ 1) → q.toNat = m → (tu = 0 → (r * q < p * s ↔ c * b < a * d)) → (tu = 1 → (p * s < r * q ↔ c * b < a * d)) → AW x w 21 true 0 0 (AQ x w true 0 0 (Ret (some (vI (if c * b < a * d then 1 else 0))) h)) 17 [(16, vI tu), (14, vL s), (12, vL r), (10, vL q), (8, vL p)] [] h := by
    intro m
    induction m using Nat.strongRecOn with
    | _ m ih =>
    intro p q r s tu hp hq hr hs ht hm I0 I1
    have hq0 : 0 < q := by omega
    have hs0 : 0 < s := by omega
    refine r_lload C d_R_isMore_17 rfl ?_
    refine r_lload C d_R_isMore_19 rfl ?_
    refine r_ldiv C d_R_isMore_21 (by omega) (by rw [tdiv_nn hp.1]; have := ediv_le_self' hp.1 (show 0 < q by omega); have := Int.ediv_nonneg hp.1 (show 0 ≤ q by omega); omega) ?_
    rw [tdiv_nn hp.1]
    refine r_lload C d_R_isMore_22 rfl ?_
    refine r_lload C d_R_isMore_24 rfl ?_
    refine r_ldiv C d_R_isMore_26 (by omega) (by rw [tdiv_nn hr.1]; have := ediv_le_self' hr.1 (show 0 < s by omega); have := Int.ediv_nonneg hr.1 (show 0 ≤ s by omega); omega) ?_
    rw [tdiv_nn hr.1]
    refine r_lcmp_ne (tgt := 125) C d_R_isMore_27 d_R_isMore_28 (by decide) (fun q27 => ?_) (fun q27 => ?_)
    · have hne : ¬ p / q = r / s := (by omega)
      refine r_iload C d_R_isMore_125 rfl ?_
      refine r_if_eq (tgt := 152) C d_R_isMore_127 (by decide) (fun q127 => ?_) (fun q127 => ?_)
      · refine r_lload C d_R_isMore_152 rfl ?_
        refine r_lload C d_R_isMore_154 rfl ?_
        refine r_ldiv C d_R_isMore_156 (by omega) (by rw [tdiv_nn hp.1]; have := ediv_le_self' hp.1 (show 0 < q by omega); have := Int.ediv_nonneg hp.1 (show 0 ≤ q by omega); omega) ?_
        rw [tdiv_nn hp.1]
        refine r_lload C d_R_isMore_157 rfl ?_
        refine r_lload C d_R_isMore_159 rfl ?_
        refine r_ldiv C d_R_isMore_161 (by omega) (by rw [tdiv_nn hr.1]; have := ediv_le_self' hr.1 (show 0 < s by omega); have := Int.ediv_nonneg hr.1 (show 0 ≤ s by omega); omega) ?_
        rw [tdiv_nn hr.1]
        refine r_lcmp_le (tgt := 170) C d_R_isMore_162 d_R_isMore_163 (by decide) (fun q162 => ?_) (fun q162 => ?_)
        · refine r_iconst C d_R_isMore_170 (by decide) ?_
          exact r_zret C d_R_isMore_171 (by omega) (⟨vi_e (by have z := euc_end hq0 hs0 hne; first | (rw [if_pos ((I0 (by omega)).mp (z.1.mpr (by omega)))]; done) | (rw [if_pos ((I1 (by omega)).mp (z.2.mpr (by omega)))]; done) | (rw [if_neg (fun t => by have w1 := z.1.mp ((I0 (by omega)).mpr t); omega)]; done) | (rw [if_neg (fun t => by have w1 := z.2.mp ((I1 (by omega)).mpr t); omega)]; done)), rfl⟩) (by decide) (fun _ => ⟨rfl, rfl, rfl⟩)
        · refine r_iconst C d_R_isMore_166 (by decide) ?_
          refine r_goto (tgt := 171) C d_R_isMore_167 (by decide) ?_
          exact r_zret C d_R_isMore_171 (by omega) (⟨vi_e (by have z := euc_end hq0 hs0 hne; first | (rw [if_pos ((I0 (by omega)).mp (z.1.mpr (by omega)))]; done) | (rw [if_pos ((I1 (by omega)).mp (z.2.mpr (by omega)))]; done) | (rw [if_neg (fun t => by have w1 := z.1.mp ((I0 (by omega)).mpr t); omega)]; done) | (rw [if_neg (fun t => by have w1 := z.2.mp ((I1 (by omega)).mpr t); omega)]; done)), rfl⟩) (by decide) (fun _ => ⟨rfl, rfl, rfl⟩)
      · refine r_lload C d_R_isMore_130 rfl ?_
        refine r_lload C d_R_isMore_132 rfl ?_
        refine r_ldiv C d_R_isMore_134 (by omega) (by rw [tdiv_nn hp.1]; have := ediv_le_self' hp.1 (show 0 < q by omega); have := Int.ediv_nonneg hp.1 (show 0 ≤ q by omega); omega) ?_
        rw [tdiv_nn hp.1]
        refine r_lload C d_R_isMore_135 rfl ?_
        refine r_lload C d_R_isMore_137 rfl ?_
        refine r_ldiv C d_R_isMore_139 (by omega) (by rw [tdiv_nn hr.1]; have := ediv_le_self' hr.1 (show 0 < s by omega); have := Int.ediv_nonneg hr.1 (show 0 ≤ s by omega); omega) ?_
        rw [tdiv_nn hr.1]
        refine r_lcmp_ge (tgt := 148) C d_R_isMore_140 d_R_isMore_141 (by decide) (fun q140 => ?_) (fun q140 => ?_)
        · refine r_iconst C d_R_isMore_148 (by decide) ?_
          refine r_goto (tgt := 171) C d_R_isMore_149 (by decide) ?_
          exact r_zret C d_R_isMore_171 (by omega) (⟨vi_e (by have z := euc_end hq0 hs0 hne; first | (rw [if_pos ((I0 (by omega)).mp (z.1.mpr (by omega)))]; done) | (rw [if_pos ((I1 (by omega)).mp (z.2.mpr (by omega)))]; done) | (rw [if_neg (fun t => by have w1 := z.1.mp ((I0 (by omega)).mpr t); omega)]; done) | (rw [if_neg (fun t => by have w1 := z.2.mp ((I1 (by omega)).mpr t); omega)]; done)), rfl⟩) (by decide) (fun _ => ⟨rfl, rfl, rfl⟩)
        · refine r_iconst C d_R_isMore_144 (by decide) ?_
          refine r_goto (tgt := 171) C d_R_isMore_145 (by decide) ?_
          exact r_zret C d_R_isMore_171 (by omega) (⟨vi_e (by have z := euc_end hq0 hs0 hne; first | (rw [if_pos ((I0 (by omega)).mp (z.1.mpr (by omega)))]; done) | (rw [if_pos ((I1 (by omega)).mp (z.2.mpr (by omega)))]; done) | (rw [if_neg (fun t => by have w1 := z.1.mp ((I0 (by omega)).mpr t); omega)]; done) | (rw [if_neg (fun t => by have w1 := z.2.mp ((I1 (by omega)).mpr t); omega)]; done)), rfl⟩) (by decide) (fun _ => ⟨rfl, rfl, rfl⟩)
    · have he : p / q = r / s := (by omega)
      have x0 := Int.emod_nonneg p (show q ≠ 0 by omega)
      have y0 := Int.emod_nonneg r (show s ≠ 0 by omega)
      have x1 := Int.emod_lt_of_pos p hq0
      have y1 := Int.emod_lt_of_pos r hs0
      refine r_lload C d_R_isMore_31 rfl ?_
      refine r_lload C d_R_isMore_33 rfl ?_
      refine r_lrem C d_R_isMore_35 (by omega) (by rw [tdiv_nn hp.1]; have := ediv_le_self' hp.1 (show 0 < q by omega); have := Int.ediv_nonneg hp.1 (show 0 ≤ q by omega); omega) (by rw [tmod_nn hp.1]; have := Int.emod_nonneg p (show q ≠ 0 by omega); have := Int.emod_lt_of_pos p (show 0 < q by omega); omega) ?_
      rw [tmod_nn hp.1]
      refine r_lstore C d_R_isMore_36 (by decide) ?_
      refine r_lload C d_R_isMore_38 rfl ?_
      refine r_lload C d_R_isMore_40 rfl ?_
      refine r_lrem C d_R_isMore_42 (by omega) (by rw [tdiv_nn hr.1]; have := ediv_le_self' hr.1 (show 0 < s by omega); have := Int.ediv_nonneg hr.1 (show 0 ≤ s by omega); omega) (by rw [tmod_nn hr.1]; have := Int.emod_nonneg r (show s ≠ 0 by omega); have := Int.emod_lt_of_pos r (show 0 < s by omega); omega) ?_
      rw [tmod_nn hr.1]
      refine r_lstore C d_R_isMore_43 (by decide) ?_
      refine r_lload C d_R_isMore_45 rfl ?_
      refine r_lconst C 0 d_R_isMore_47 (by decide) (by decide) ?_
      refine r_lcmp_eq (tgt := 59) C d_R_isMore_48 d_R_isMore_49 (by decide) (fun q48 => ?_) (fun q48 => ?_)
      · refine r_iload C d_R_isMore_59 rfl ?_
        refine r_if_eq (tgt := 80) C d_R_isMore_61 (by decide) (fun q61 => ?_) (fun q61 => ?_)
        · refine r_lload C d_R_isMore_80 rfl ?_
          refine r_lload C d_R_isMore_82 rfl ?_
          refine r_lcmp_le (tgt := 92) C d_R_isMore_84 d_R_isMore_85 (by decide) (fun q84 => ?_) (fun q84 => ?_)
          · refine r_iconst C d_R_isMore_92 (by decide) ?_
            exact r_zret C d_R_isMore_93 (by omega) (⟨vi_e (by have z := euc_step hq0 hs0 he; have y := euc_zero hq0 hs0 x0 y0 (by omega); first | (rw [if_pos ((I0 (by omega)).mp (z.1.mpr (y.1.mpr (by omega))))]; done) | (rw [if_pos ((I1 (by omega)).mp (z.2.mpr (y.2.mpr (by omega))))]; done) | (rw [if_neg (fun t => by have w1 := y.1.mp (z.1.mp ((I0 (by omega)).mpr t)); omega)]; done) | (rw [if_neg (fun t => by have w1 := y.2.mp (z.2.mp ((I1 (by omega)).mpr t)); omega)]; done)), rfl⟩) (by decide) (fun _ => ⟨rfl, rfl, rfl⟩)
          · refine r_iconst C d_R_isMore_88 (by decide) ?_
            refine r_goto (tgt := 93) C d_R_isMore_89 (by decide) ?_
            exact r_zret C d_R_isMore_93 (by omega) (⟨vi_e (by have z := euc_step hq0 hs0 he; have y := euc_zero hq0 hs0 x0 y0 (by omega); first | (rw [if_pos ((I0 (by omega)).mp (z.1.mpr (y.1.mpr (by omega))))]; done) | (rw [if_pos ((I1 (by omega)).mp (z.2.mpr (y.2.mpr (by omega))))]; done) | (rw [if_neg (fun t => by have w1 := y.1.mp (z.1.mp ((I0 (by omega)).mpr t)); omega)]; done) | (rw [if_neg (fun t => by have w1 := y.2.mp (z.2.mp ((I1 (by omega)).mpr t)); omega)]; done)), rfl⟩) (by decide) (fun _ => ⟨rfl, rfl, rfl⟩)
        · refine r_lload C d_R_isMore_64 rfl ?_
          refine r_lload C d_R_isMore_66 rfl ?_
          refine r_lcmp_ge (tgt := 76) C d_R_isMore_68 d_R_isMore_69 (by decide) (fun q68 => ?_) (fun q68 => ?_)
          · refine r_iconst C d_R_isMore_76 (by decide) ?_
            refine r_goto (tgt := 93) C d_R_isMore_77 (by decide) ?_
            exact r_zret C d_R_isMore_93 (by omega) (⟨vi_e (by have z := euc_step hq0 hs0 he; have y := euc_zero hq0 hs0 x0 y0 (by omega); first | (rw [if_pos ((I0 (by omega)).mp (z.1.mpr (y.1.mpr (by omega))))]; done) | (rw [if_pos ((I1 (by omega)).mp (z.2.mpr (y.2.mpr (by omega))))]; done) | (rw [if_neg (fun t => by have w1 := y.1.mp (z.1.mp ((I0 (by omega)).mpr t)); omega)]; done) | (rw [if_neg (fun t => by have w1 := y.2.mp (z.2.mp ((I1 (by omega)).mpr t)); omega)]; done)), rfl⟩) (by decide) (fun _ => ⟨rfl, rfl, rfl⟩)
          · refine r_iconst C d_R_isMore_72 (by decide) ?_
            refine r_goto (tgt := 93) C d_R_isMore_73 (by decide) ?_
            exact r_zret C d_R_isMore_93 (by omega) (⟨vi_e (by have z := euc_step hq0 hs0 he; have y := euc_zero hq0 hs0 x0 y0 (by omega); first | (rw [if_pos ((I0 (by omega)).mp (z.1.mpr (y.1.mpr (by omega))))]; done) | (rw [if_pos ((I1 (by omega)).mp (z.2.mpr (y.2.mpr (by omega))))]; done) | (rw [if_neg (fun t => by have w1 := y.1.mp (z.1.mp ((I0 (by omega)).mpr t)); omega)]; done) | (rw [if_neg (fun t => by have w1 := y.2.mp (z.2.mp ((I1 (by omega)).mpr t)); omega)]; done)), rfl⟩) (by decide) (fun _ => ⟨rfl, rfl, rfl⟩)
      · refine r_lload C d_R_isMore_52 rfl ?_
        refine r_lconst C 0 d_R_isMore_54 (by decide) (by decide) ?_
        refine r_lcmp_ne (tgt := 94) C d_R_isMore_55 d_R_isMore_56 (by decide) (fun q55 => ?_) (fun q55 => ?_)
        · refine r_lload C d_R_isMore_94 rfl ?_
          refine r_lstore C d_R_isMore_96 (by decide) ?_
          refine r_lload C d_R_isMore_98 rfl ?_
          refine r_lstore C d_R_isMore_100 (by decide) ?_
          refine r_lload C d_R_isMore_102 rfl ?_
          refine r_lstore C d_R_isMore_104 (by decide) ?_
          refine r_lload C d_R_isMore_106 rfl ?_
          refine r_lstore C d_R_isMore_108 (by decide) ?_
          refine r_iload C d_R_isMore_110 rfl ?_
          refine r_if_ne (tgt := 119) C d_R_isMore_112 (by decide) (fun q112 => ?_) (fun q112 => ?_)
          · refine r_iconst C d_R_isMore_119 (by decide) ?_
            refine r_istore C d_R_isMore_120 (by decide) ?_
            refine r_goto (tgt := 17) C d_R_isMore_122 (by decide) ?_
            refine AW.lvs [(16, _), (14, _), (12, _), (10, _), (8, _)] ⟨rfl, rfl, rfl, rfl, rfl, trivial⟩ (ih (p % q).toNat (by omega) q (p % q) s (r % s) _ (by omega) (by omega) (by omega) (by omega) (by omega) rfl ?_ ?_)
            · intro t0; have z := euc_step hq0 hs0 he; have k := I1 (by omega); rw [Int.mul_comm s, Int.mul_comm q, ← z.2]; exact k
            · intro t0; have z := euc_step hq0 hs0 he; have k := I0 (by omega); rw [Int.mul_comm s, Int.mul_comm q, ← z.1]; exact k
          · refine r_iconst C d_R_isMore_115 (by decide) ?_
            refine r_goto (tgt := 120) C d_R_isMore_116 (by decide) ?_
            refine r_istore C d_R_isMore_120 (by decide) ?_
            refine r_goto (tgt := 17) C d_R_isMore_122 (by decide) ?_
            refine AW.lvs [(16, _), (14, _), (12, _), (10, _), (8, _)] ⟨rfl, rfl, rfl, rfl, rfl, trivial⟩ (ih (p % q).toNat (by omega) q (p % q) s (r % s) _ (by omega) (by omega) (by omega) (by omega) (by omega) rfl ?_ ?_)
            · intro t0; have z := euc_step hq0 hs0 he; have k := I1 (by omega); rw [Int.mul_comm s, Int.mul_comm q, ← z.2]; exact k
            · intro t0; have z := euc_step hq0 hs0 he; have k := I0 (by omega); rw [Int.mul_comm s, Int.mul_comm q, ← z.1]; exact k
        · refine r_iload C d_R_isMore_59 rfl ?_
          refine r_if_eq (tgt := 80) C d_R_isMore_61 (by decide) (fun q61 => ?_) (fun q61 => ?_)
          · refine r_lload C d_R_isMore_80 rfl ?_
            refine r_lload C d_R_isMore_82 rfl ?_
            refine r_lcmp_le (tgt := 92) C d_R_isMore_84 d_R_isMore_85 (by decide) (fun q84 => ?_) (fun q84 => ?_)
            · refine r_iconst C d_R_isMore_92 (by decide) ?_
              exact r_zret C d_R_isMore_93 (by omega) (⟨vi_e (by have z := euc_step hq0 hs0 he; have y := euc_zero hq0 hs0 x0 y0 (by omega); first | (rw [if_pos ((I0 (by omega)).mp (z.1.mpr (y.1.mpr (by omega))))]; done) | (rw [if_pos ((I1 (by omega)).mp (z.2.mpr (y.2.mpr (by omega))))]; done) | (rw [if_neg (fun t => by have w1 := y.1.mp (z.1.mp ((I0 (by omega)).mpr t)); omega)]; done) | (rw [if_neg (fun t => by have w1 := y.2.mp (z.2.mp ((I1 (by omega)).mpr t)); omega)]; done)), rfl⟩) (by decide) (fun _ => ⟨rfl, rfl, rfl⟩)
            · refine r_iconst C d_R_isMore_88 (by decide) ?_
              refine r_goto (tgt := 93) C d_R_isMore_89 (by decide) ?_
              exact r_zret C d_R_isMore_93 (by omega) (⟨vi_e (by have z := euc_step hq0 hs0 he; have y := euc_zero hq0 hs0 x0 y0 (by omega); first | (rw [if_pos ((I0 (by omega)).mp (z.1.mpr (y.1.mpr (by omega))))]; done) | (rw [if_pos ((I1 (by omega)).mp (z.2.mpr (y.2.mpr (by omega))))]; done) | (rw [if_neg (fun t => by have w1 := y.1.mp (z.1.mp ((I0 (by omega)).mpr t)); omega)]; done) | (rw [if_neg (fun t => by have w1 := y.2.mp (z.2.mp ((I1 (by omega)).mpr t)); omega)]; done)), rfl⟩) (by decide) (fun _ => ⟨rfl, rfl, rfl⟩)
          · refine r_lload C d_R_isMore_64 rfl ?_
            refine r_lload C d_R_isMore_66 rfl ?_
            refine r_lcmp_ge (tgt := 76) C d_R_isMore_68 d_R_isMore_69 (by decide) (fun q68 => ?_) (fun q68 => ?_)
            · refine r_iconst C d_R_isMore_76 (by decide) ?_
              refine r_goto (tgt := 93) C d_R_isMore_77 (by decide) ?_
              exact r_zret C d_R_isMore_93 (by omega) (⟨vi_e (by have z := euc_step hq0 hs0 he; have y := euc_zero hq0 hs0 x0 y0 (by omega); first | (rw [if_pos ((I0 (by omega)).mp (z.1.mpr (y.1.mpr (by omega))))]; done) | (rw [if_pos ((I1 (by omega)).mp (z.2.mpr (y.2.mpr (by omega))))]; done) | (rw [if_neg (fun t => by have w1 := y.1.mp (z.1.mp ((I0 (by omega)).mpr t)); omega)]; done) | (rw [if_neg (fun t => by have w1 := y.2.mp (z.2.mp ((I1 (by omega)).mpr t)); omega)]; done)), rfl⟩) (by decide) (fun _ => ⟨rfl, rfl, rfl⟩)
            · refine r_iconst C d_R_isMore_72 (by decide) ?_
              refine r_goto (tgt := 93) C d_R_isMore_73 (by decide) ?_
              exact r_zret C d_R_isMore_93 (by omega) (⟨vi_e (by have z := euc_step hq0 hs0 he; have y := euc_zero hq0 hs0 x0 y0 (by omega); first | (rw [if_pos ((I0 (by omega)).mp (z.1.mpr (y.1.mpr (by omega))))]; done) | (rw [if_pos ((I1 (by omega)).mp (z.2.mpr (y.2.mpr (by omega))))]; done) | (rw [if_neg (fun t => by have w1 := y.1.mp (z.1.mp ((I0 (by omega)).mpr t)); omega)]; done) | (rw [if_neg (fun t => by have w1 := y.2.mp (z.2.mp ((I1 (by omega)).mpr t)); omega)]; done)), rfl⟩) (by decide) (fun _ => ⟨rfl, rfl, rfl⟩)
  refine r_lload_n (i0 := 0) C d_R_isMore_0 rfl rfl ?_
  refine r_lstore C d_R_isMore_1 (by decide) ?_
  refine r_lload_n (i0 := 2) C d_R_isMore_3 rfl rfl ?_
  refine r_lstore C d_R_isMore_4 (by decide) ?_
  refine r_lload C d_R_isMore_6 rfl ?_
  refine r_lstore C d_R_isMore_8 (by decide) ?_
  refine r_lload C d_R_isMore_10 rfl ?_
  refine r_lstore C d_R_isMore_12 (by decide) ?_
  refine r_iconst C d_R_isMore_14 (by decide) ?_
  refine r_istore C d_R_isMore_15 (by decide) ?_
  exact AW.lvs [(16, _), (14, _), (12, _), (10, _), (8, _)] ⟨rfl, rfl, rfl, rfl, rfl, trivial⟩ (loop _ a b c d 0 ha hb hc hd (by omega) rfl (fun _ => Iff.rfl) (fun z => by omega))
def rHs (h : AH) (f : Nat) : Nat → Bool := fun t => decide (h 45 0 (12 * f + t) ≠ -5)
abbrev rVl (h : AH) (f : Nat) : Nat → Int := fun t => h 45 0 (12 * f + t)
theorem rch_ix (h : AH) {a t : Int} (ha : 0 ≤ a) (ht : 0 ≤ t) : h 45 0 (12 * a + t).toNat = rVl h a.toNat t.toNat := by
  have e : (12 * a + t).toNat = 12 * a.toNat + t.toNat := by omega
  rw [e]
theorem nxB_yes {bd : Nat → Bool} {k t : Nat} (hk : 1 ≤ k) (h : bd (t + 1) = true) : nxB bd k t = t + 1 := by
  obtain ⟨q, rfl⟩ : ∃ q, k = q + 1 := ⟨k - 1, by omega⟩
  unfold nxB; rw [if_pos h]
theorem nxB_no {bd : Nat → Bool} {k t : Nat} (hk : 1 ≤ k) (h : bd (t + 1) = false) : nxB bd k t = nxB bd (k - 1) (t + 1) := by
  obtain ⟨q, rfl⟩ : ∃ q, k = q + 1 := ⟨k - 1, by omega⟩
  conv => lhs; unfold nxB
  rw [if_neg (by rw [h]; decide)]
  rfl

/-! Contracts of the reference: comparing fractions, ends and holders. -/
set_option maxHeartbeats 1000000 in
theorem c_R_isMore {l : Launch} (hl : l.stackTraces = false) {w : XW} {h : AH} {a b c d : Int} (ha : 0 ≤ a ∧ a ≤ 9223372036854775807) (hb : 1 ≤ b ∧ b ≤ 9223372036854775807) (hc : 0 ≤ c ∧ c ≤ 9223372036854775807) (hd : 1 ≤ d ∧ d ≤ 9223372036854775807) : AM l y_R_isMore (wsM y_R_isMore b_R_isMore 21 (some .boolean) []) true (rmV 0 0) w [vL a, vL b, vL c, vL d] h (Ret (some (vI (if c * b < a * d then 1 else 0))) h) := by
  refine AM.of hl (by decide +kernel) (Nat.le_of_ble_eq_true rfl) fun x hx C _ => ?_
  have loop : ∀ (m : Nat) (p q r s tu : Int), (0 ≤ p ∧ p ≤ 9223372036854775807) → (1 ≤ q ∧ q ≤ 9223372036854775807) → (0 ≤ r ∧ r ≤ 9223372036854775807) → (1 ≤ s ∧ s ≤ 9223372036854775807) → (0 ≤ tu ∧ tu ≤ 1) → q.toNat = m → (tu = 0 → (r * q < p * s ↔ c * b < a * d)) → (tu = 1 → (p * s < r * q ↔ c * b < a * d)) → AW x w 21 true 0 0 (AQ x w true 0 0 (Ret (some (vI (if c * b < a * d then 1 else 0))) h)) 17 [(16, vI tu), (14, vL s), (12, vL r), (10, vL q), (8, vL p)] [] h := by
    intro m
    induction m using Nat.strongRecOn with
    | _ m ih =>
    intro p q r s tu hp hq hr hs ht hm I0 I1
    have hq0 : 0 < q := by omega
    have hs0 : 0 < s := by omega
    refine r_lload C d_R_isMore_17 rfl ?_
    refine r_lload C d_R_isMore_19 rfl ?_
    refine r_ldiv C d_R_isMore_21 (by omega) (by rw [tdiv_nn hp.1]; have := ediv_le_self' hp.1 (show 0 < q by omega); have := Int.ediv_nonneg hp.1 (show 0 ≤ q by omega); omega) ?_
    rw [tdiv_nn hp.1]
    refine r_lload C d_R_isMore_22 rfl ?_
    refine r_lload C d_R_isMore_24 rfl ?_
    refine r_ldiv C d_R_isMore_26 (by omega) (by rw [tdiv_nn hr.1]; have := ediv_le_self' hr.1 (show 0 < s by omega); have := Int.ediv_nonneg hr.1 (show 0 ≤ s by omega); omega) ?_
    rw [tdiv_nn hr.1]
    refine r_lcmp_ne (tgt := 125) C d_R_isMore_27 d_R_isMore_28 (by decide) (fun q27 => ?_) (fun q27 => ?_)
    · have hne : ¬ p / q = r / s := (by omega)
      refine r_iload C d_R_isMore_125 rfl ?_
      refine r_if_eq (tgt := 152) C d_R_isMore_127 (by decide) (fun q127 => ?_) (fun q127 => ?_)
      · refine r_lload C d_R_isMore_152 rfl ?_
        refine r_lload C d_R_isMore_154 rfl ?_
        refine r_ldiv C d_R_isMore_156 (by omega) (by rw [tdiv_nn hp.1]; have := ediv_le_self' hp.1 (show 0 < q by omega); have := Int.ediv_nonneg hp.1 (show 0 ≤ q by omega); omega) ?_
        rw [tdiv_nn hp.1]
        refine r_lload C d_R_isMore_157 rfl ?_
        refine r_lload C d_R_isMore_159 rfl ?_
        refine r_ldiv C d_R_isMore_161 (by omega) (by rw [tdiv_nn hr.1]; have := ediv_le_self' hr.1 (show 0 < s by omega); have := Int.ediv_nonneg hr.1 (show 0 ≤ s by omega); omega) ?_
        rw [tdiv_nn hr.1]
        refine r_lcmp_le (tgt := 170) C d_R_isMore_162 d_R_isMore_163 (by decide) (fun q162 => ?_) (fun q162 => ?_)
        · refine r_iconst C d_R_isMore_170 (by decide) ?_
          exact r_zret C d_R_isMore_171 (by omega) (⟨vi_e (by have z := euc_end hq0 hs0 hne; first | (rw [if_pos ((I0 (by omega)).mp (z.1.mpr (by omega)))]; done) | (rw [if_pos ((I1 (by omega)).mp (z.2.mpr (by omega)))]; done) | (rw [if_neg (fun t => by have w1 := z.1.mp ((I0 (by omega)).mpr t); omega)]; done) | (rw [if_neg (fun t => by have w1 := z.2.mp ((I1 (by omega)).mpr t); omega)]; done)), rfl⟩) (by decide) (fun _ => ⟨rfl, rfl, rfl⟩)
        · refine r_iconst C d_R_isMore_166 (by decide) ?_
          refine r_goto (tgt := 171) C d_R_isMore_167 (by decide) ?_
          exact r_zret C d_R_isMore_171 (by omega) (⟨vi_e (by have z := euc_end hq0 hs0 hne; first | (rw [if_pos ((I0 (by omega)).mp (z.1.mpr (by omega)))]; done) | (rw [if_pos ((I1 (by omega)).mp (z.2.mpr (by omega)))]; done) | (rw [if_neg (fun t => by have w1 := z.1.mp ((I0 (by omega)).mpr t); omega)]; done) | (rw [if_neg (fun t => by have w1 := z.2.mp ((I1 (by omega)).mpr t); omega)]; done)), rfl⟩) (by decide) (fun _ => ⟨rfl, rfl, rfl⟩)
      · refine r_lload C d_R_isMore_130 rfl ?_
        refine r_lload C d_R_isMore_132 rfl ?_
        refine r_ldiv C d_R_isMore_134 (by omega) (by rw [tdiv_nn hp.1]; have := ediv_le_self' hp.1 (show 0 < q by omega); have := Int.ediv_nonneg hp.1 (show 0 ≤ q by omega); omega) ?_
        rw [tdiv_nn hp.1]
        refine r_lload C d_R_isMore_135 rfl ?_
        refine r_lload C d_R_isMore_137 rfl ?_
        refine r_ldiv C d_R_isMore_139 (by omega) (by rw [tdiv_nn hr.1]; have := ediv_le_self' hr.1 (show 0 < s by omega); have := Int.ediv_nonneg hr.1 (show 0 ≤ s by omega); omega) ?_
        rw [tdiv_nn hr.1]
        refine r_lcmp_ge (tgt := 148) C d_R_isMore_140 d_R_isMore_141 (by decide) (fun q140 => ?_) (fun q140 => ?_)
        · refine r_iconst C d_R_isMore_148 (by decide) ?_
          refine r_goto (tgt := 171) C d_R_isMore_149 (by decide) ?_
          exact r_zret C d_R_isMore_171 (by omega) (⟨vi_e (by have z := euc_end hq0 hs0 hne; first | (rw [if_pos ((I0 (by omega)).mp (z.1.mpr (by omega)))]; done) | (rw [if_pos ((I1 (by omega)).mp (z.2.mpr (by omega)))]; done) | (rw [if_neg (fun t => by have w1 := z.1.mp ((I0 (by omega)).mpr t); omega)]; done) | (rw [if_neg (fun t => by have w1 := z.2.mp ((I1 (by omega)).mpr t); omega)]; done)), rfl⟩) (by decide) (fun _ => ⟨rfl, rfl, rfl⟩)
        · refine r_iconst C d_R_isMore_144 (by decide) ?_
          refine r_goto (tgt := 171) C d_R_isMore_145 (by decide) ?_
          exact r_zret C d_R_isMore_171 (by omega) (⟨vi_e (by have z := euc_end hq0 hs0 hne; first | (rw [if_pos ((I0 (by omega)).mp (z.1.mpr (by omega)))]; done) | (rw [if_pos ((I1 (by omega)).mp (z.2.mpr (by omega)))]; done) | (rw [if_neg (fun t => by have w1 := z.1.mp ((I0 (by omega)).mpr t); omega)]; done) | (rw [if_neg (fun t => by have w1 := z.2.mp ((I1 (by omega)).mpr t); omega)]; done)), rfl⟩) (by decide) (fun _ => ⟨rfl, rfl, rfl⟩)
    · have he : p / q = r / s := (by omega)
      have x0 := Int.emod_nonneg p (show q ≠ 0 by omega)
      have y0 := Int.emod_nonneg r (show s ≠ 0 by omega)
      have x1 := Int.emod_lt_of_pos p hq0
      have y1 := Int.emod_lt_of_pos r hs0
      refine r_lload C d_R_isMore_31 rfl ?_
      refine r_lload C d_R_isMore_33 rfl ?_
      refine r_lrem C d_R_isMore_35 (by omega) (by rw [tdiv_nn hp.1]; have := ediv_le_self' hp.1 (show 0 < q by omega); have := Int.ediv_nonneg hp.1 (show 0 ≤ q by omega); omega) (by rw [tmod_nn hp.1]; have := Int.emod_nonneg p (show q ≠ 0 by omega); have := Int.emod_lt_of_pos p (show 0 < q by omega); omega) ?_
      rw [tmod_nn hp.1]
      refine r_lstore C d_R_isMore_36 (by decide) ?_
      refine r_lload C d_R_isMore_38 rfl ?_
      refine r_lload C d_R_isMore_40 rfl ?_
      refine r_lrem C d_R_isMore_42 (by omega) (by rw [tdiv_nn hr.1]; have := ediv_le_self' hr.1 (show 0 < s by omega); have := Int.ediv_nonneg hr.1 (show 0 ≤ s by omega); omega) (by rw [tmod_nn hr.1]; have := Int.emod_nonneg r (show s ≠ 0 by omega); have := Int.emod_lt_of_pos r (show 0 < s by omega); omega) ?_
      rw [tmod_nn hr.1]
      refine r_lstore C d_R_isMore_43 (by decide) ?_
      refine r_lload C d_R_isMore_45 rfl ?_
      refine r_lconst C 0 d_R_isMore_47 (by decide) (by decide) ?_
      refine r_lcmp_eq (tgt := 59) C d_R_isMore_48 d_R_isMore_49 (by decide) (fun q48 => ?_) (fun q48 => ?_)
      · refine r_iload C d_R_isMore_59 rfl ?_
        refine r_if_eq (tgt := 80) C d_R_isMore_61 (by decide) (fun q61 => ?_) (fun q61 => ?_)
        · refine r_lload C d_R_isMore_80 rfl ?_
          refine r_lload C d_R_isMore_82 rfl ?_
          refine r_lcmp_le (tgt := 92) C d_R_isMore_84 d_R_isMore_85 (by decide) (fun q84 => ?_) (fun q84 => ?_)
          · refine r_iconst C d_R_isMore_92 (by decide) ?_
            exact r_zret C d_R_isMore_93 (by omega) (⟨vi_e (by have z := euc_step hq0 hs0 he; have y := euc_zero hq0 hs0 x0 y0 (by omega); first | (rw [if_pos ((I0 (by omega)).mp (z.1.mpr (y.1.mpr (by omega))))]; done) | (rw [if_pos ((I1 (by omega)).mp (z.2.mpr (y.2.mpr (by omega))))]; done) | (rw [if_neg (fun t => by have w1 := y.1.mp (z.1.mp ((I0 (by omega)).mpr t)); omega)]; done) | (rw [if_neg (fun t => by have w1 := y.2.mp (z.2.mp ((I1 (by omega)).mpr t)); omega)]; done)), rfl⟩) (by decide) (fun _ => ⟨rfl, rfl, rfl⟩)
          · refine r_iconst C d_R_isMore_88 (by decide) ?_
            refine r_goto (tgt := 93) C d_R_isMore_89 (by decide) ?_
            exact r_zret C d_R_isMore_93 (by omega) (⟨vi_e (by have z := euc_step hq0 hs0 he; have y := euc_zero hq0 hs0 x0 y0 (by omega); first | (rw [if_pos ((I0 (by omega)).mp (z.1.mpr (y.1.mpr (by omega))))]; done) | (rw [if_pos ((I1 (by omega)).mp (z.2.mpr (y.2.mpr (by omega))))]; done) | (rw [if_neg (fun t => by have w1 := y.1.mp (z.1.mp ((I0 (by omega)).mpr t)); omega)]; done) | (rw [if_neg (fun t => by have w1 := y.2.mp (z.2.mp ((I1 (by omega)).mpr t)); omega)]; done)), rfl⟩) (by decide) (fun _ => ⟨rfl, rfl, rfl⟩)
        · refine r_lload C d_R_isMore_64 rfl ?_
          refine r_lload C d_R_isMore_66 rfl ?_
          refine r_lcmp_ge (tgt := 76) C d_R_isMore_68 d_R_isMore_69 (by decide) (fun q68 => ?_) (fun q68 => ?_)
          · refine r_iconst C d_R_isMore_76 (by decide) ?_
            refine r_goto (tgt := 93) C d_R_isMore_77 (by decide) ?_
            exact r_zret C d_R_isMore_93 (by omega) (⟨vi_e (by have z := euc_step hq0 hs0 he; have y := euc_zero hq0 hs0 x0 y0 (by omega); first | (rw [if_pos ((I0 (by omega)).mp (z.1.mpr (y.1.mpr (by omega))))]; done) | (rw [if_pos ((I1 (by omega)).mp (z.2.mpr (y.2.mpr (by omega))))]; done) | (rw [if_neg (fun t => by have w1 := y.1.mp (z.1.mp ((I0 (by omega)).mpr t)); omega)]; done) | (rw [if_neg (fun t => by have w1 := y.2.mp (z.2.mp ((I1 (by omega)).mpr t)); omega)]; done)), rfl⟩) (by decide) (fun _ => ⟨rfl, rfl, rfl⟩)
          · refine r_iconst C d_R_isMore_72 (by decide) ?_
            refine r_goto (tgt := 93) C d_R_isMore_73 (by decide) ?_
            exact r_zret C d_R_isMore_93 (by omega) (⟨vi_e (by have z := euc_step hq0 hs0 he; have y := euc_zero hq0 hs0 x0 y0 (by omega); first | (rw [if_pos ((I0 (by omega)).mp (z.1.mpr (y.1.mpr (by omega))))]; done) | (rw [if_pos ((I1 (by omega)).mp (z.2.mpr (y.2.mpr (by omega))))]; done) | (rw [if_neg (fun t => by have w1 := y.1.mp (z.1.mp ((I0 (by omega)).mpr t)); omega)]; done) | (rw [if_neg (fun t => by have w1 := y.2.mp (z.2.mp ((I1 (by omega)).mpr t)); omega)]; done)), rfl⟩) (by decide) (fun _ => ⟨rfl, rfl, rfl⟩)
      · refine r_lload C d_R_isMore_52 rfl ?_
        refine r_lconst C 0 d_R_isMore_54 (by decide) (by decide) ?_
        refine r_lcmp_ne (tgt := 94) C d_R_isMore_55 d_R_isMore_56 (by decide) (fun q55 => ?_) (fun q55 => ?_)
        · refine r_lload C d_R_isMore_94 rfl ?_
          refine r_lstore C d_R_isMore_96 (by decide) ?_
          refine r_lload C d_R_isMore_98 rfl ?_
          refine r_lstore C d_R_isMore_100 (by decide) ?_
          refine r_lload C d_R_isMore_102 rfl ?_
          refine r_lstore C d_R_isMore_104 (by decide) ?_
          refine r_lload C d_R_isMore_106 rfl ?_
          refine r_lstore C d_R_isMore_108 (by decide) ?_
          refine r_iload C d_R_isMore_110 rfl ?_
          refine r_if_ne (tgt := 119) C d_R_isMore_112 (by decide) (fun q112 => ?_) (fun q112 => ?_)
          · refine r_iconst C d_R_isMore_119 (by decide) ?_
            refine r_istore C d_R_isMore_120 (by decide) ?_
            refine r_goto (tgt := 17) C d_R_isMore_122 (by decide) ?_
            refine AW.lvs [(16, _), (14, _), (12, _), (10, _), (8, _)] ⟨rfl, rfl, rfl, rfl, rfl, trivial⟩ (ih (p % q).toNat (by omega) q (p % q) s (r % s) _ (by omega) (by omega) (by omega) (by omega) (by omega) rfl ?_ ?_)
            · intro t0; have z := euc_step hq0 hs0 he; have k := I1 (by omega); rw [Int.mul_comm s, Int.mul_comm q, ← z.2]; exact k
            · intro t0; have z := euc_step hq0 hs0 he; have k := I0 (by omega); rw [Int.mul_comm s, Int.mul_comm q, ← z.1]; exact k
          · refine r_iconst C d_R_isMore_115 (by decide) ?_
            refine r_goto (tgt := 120) C d_R_isMore_116 (by decide) ?_
            refine r_istore C d_R_isMore_120 (by decide) ?_
            refine r_goto (tgt := 17) C d_R_isMore_122 (by decide) ?_
            refine AW.lvs [(16, _), (14, _), (12, _), (10, _), (8, _)] ⟨rfl, rfl, rfl, rfl, rfl, trivial⟩ (ih (p % q).toNat (by omega) q (p % q) s (r % s) _ (by omega) (by omega) (by omega) (by omega) (by omega) rfl ?_ ?_)
            · intro t0; have z := euc_step hq0 hs0 he; have k := I1 (by omega); rw [Int.mul_comm s, Int.mul_comm q, ← z.2]; exact k
            · intro t0; have z := euc_step hq0 hs0 he; have k := I0 (by omega); rw [Int.mul_comm s, Int.mul_comm q, ← z.1]; exact k
        · refine r_iload C d_R_isMore_59 rfl ?_
          refine r_if_eq (tgt := 80) C d_R_isMore_61 (by decide) (fun q61 => ?_) (fun q61 => ?_)
          · refine r_lload C d_R_isMore_80 rfl ?_
            refine r_lload C d_R_isMore_82 rfl ?_
            refine r_lcmp_le (tgt := 92) C d_R_isMore_84 d_R_isMore_85 (by decide) (fun q84 => ?_) (fun q84 => ?_)
            · refine r_iconst C d_R_isMore_92 (by decide) ?_
              exact r_zret C d_R_isMore_93 (by omega) (⟨vi_e (by have z := euc_step hq0 hs0 he; have y := euc_zero hq0 hs0 x0 y0 (by omega); first | (rw [if_pos ((I0 (by omega)).mp (z.1.mpr (y.1.mpr (by omega))))]; done) | (rw [if_pos ((I1 (by omega)).mp (z.2.mpr (y.2.mpr (by omega))))]; done) | (rw [if_neg (fun t => by have w1 := y.1.mp (z.1.mp ((I0 (by omega)).mpr t)); omega)]; done) | (rw [if_neg (fun t => by have w1 := y.2.mp (z.2.mp ((I1 (by omega)).mpr t)); omega)]; done)), rfl⟩) (by decide) (fun _ => ⟨rfl, rfl, rfl⟩)
            · refine r_iconst C d_R_isMore_88 (by decide) ?_
              refine r_goto (tgt := 93) C d_R_isMore_89 (by decide) ?_
              exact r_zret C d_R_isMore_93 (by omega) (⟨vi_e (by have z := euc_step hq0 hs0 he; have y := euc_zero hq0 hs0 x0 y0 (by omega); first | (rw [if_pos ((I0 (by omega)).mp (z.1.mpr (y.1.mpr (by omega))))]; done) | (rw [if_pos ((I1 (by omega)).mp (z.2.mpr (y.2.mpr (by omega))))]; done) | (rw [if_neg (fun t => by have w1 := y.1.mp (z.1.mp ((I0 (by omega)).mpr t)); omega)]; done) | (rw [if_neg (fun t => by have w1 := y.2.mp (z.2.mp ((I1 (by omega)).mpr t)); omega)]; done)), rfl⟩) (by decide) (fun _ => ⟨rfl, rfl, rfl⟩)
          · refine r_lload C d_R_isMore_64 rfl ?_
            refine r_lload C d_R_isMore_66 rfl ?_
            refine r_lcmp_ge (tgt := 76) C d_R_isMore_68 d_R_isMore_69 (by decide) (fun q68 => ?_) (fun q68 => ?_)
            · refine r_iconst C d_R_isMore_76 (by decide) ?_
              refine r_goto (tgt := 93) C d_R_isMore_77 (by decide) ?_
              exact r_zret C d_R_isMore_93 (by omega) (⟨vi_e (by have z := euc_step hq0 hs0 he; have y := euc_zero hq0 hs0 x0 y0 (by omega); first | (rw [if_pos ((I0 (by omega)).mp (z.1.mpr (y.1.mpr (by omega))))]; done) | (rw [if_pos ((I1 (by omega)).mp (z.2.mpr (y.2.mpr (by omega))))]; done) | (rw [if_neg (fun t => by have w1 := y.1.mp (z.1.mp ((I0 (by omega)).mpr t)); omega)]; done) | (rw [if_neg (fun t => by have w1 := y.2.mp (z.2.mp ((I1 (by omega)).mpr t)); omega)]; done)), rfl⟩) (by decide) (fun _ => ⟨rfl, rfl, rfl⟩)
            · refine r_iconst C d_R_isMore_72 (by decide) ?_
              refine r_goto (tgt := 93) C d_R_isMore_73 (by decide) ?_
              exact r_zret C d_R_isMore_93 (by omega) (⟨vi_e (by have z := euc_step hq0 hs0 he; have y := euc_zero hq0 hs0 x0 y0 (by omega); first | (rw [if_pos ((I0 (by omega)).mp (z.1.mpr (y.1.mpr (by omega))))]; done) | (rw [if_pos ((I1 (by omega)).mp (z.2.mpr (y.2.mpr (by omega))))]; done) | (rw [if_neg (fun t => by have w1 := y.1.mp (z.1.mp ((I0 (by omega)).mpr t)); omega)]; done) | (rw [if_neg (fun t => by have w1 := y.2.mp (z.2.mp ((I1 (by omega)).mpr t)); omega)]; done)), rfl⟩) (by decide) (fun _ => ⟨rfl, rfl, rfl⟩)
  refine r_lload_n (i0 := 0) C d_R_isMore_0 rfl rfl ?_
  refine r_lstore C d_R_isMore_1 (by decide) ?_
  refine r_lload_n (i0 := 2) C d_R_isMore_3 rfl rfl ?_
  refine r_lstore C d_R_isMore_4 (by decide) ?_
  refine r_lload C d_R_isMore_6 rfl ?_
  refine r_lstore C d_R_isMore_8 (by decide) ?_
  refine r_lload C d_R_isMore_10 rfl ?_
  refine r_lstore C d_R_isMore_12 (by decide) ?_
  refine r_iconst C d_R_isMore_14 (by decide) ?_
  refine r_istore C d_R_isMore_15 (by decide) ?_
  exact AW.lvs [(16, _), (14, _), (12, _), (10, _), (8, _)] ⟨rfl, rfl, rfl, rfl, rfl, trivial⟩ (loop _ a b c d 0 ha hb hc hd (by omega) rfl (fun _ => Iff.rfl) (fun z => by omega))
def rHs (h : AH) (f : Nat) : Nat → Bool := fun t => decide (h 45 0 (12 * f + t) ≠ -5)
abbrev rVl (h : AH) (f : Nat) : Nat → Int := fun t => h 45 0 (12 * f + t)
theorem rch_ix (h : AH) {a t : Int} (ha : 0 ≤ a) (ht : 0 ≤ t) : h 45 0 (12 * a + t).toNat = rVl h a.toNat t.toNat := by
  have e : (12 * a + t).toNat = 12 * a.toNat + t.toNat := by omega
  rw [e]
theorem nxB_yes {bd : Nat → Bool} {k t : Nat} (hk : 1 ≤ k) (h : bd (t + 1) = true) : nxB bd k t = t + 1 := by
  obtain ⟨q, rfl⟩ : ∃ q, k = q + 1 := ⟨k - 1, by omega⟩
  unfold nxB; rw [if_pos h]
theorem nxB_no {bd : Nat → Bool} {k t : Nat} (hk : 1 ≤ k) (h : bd (t + 1) = false) : nxB bd k t = nxB bd (k - 1) (t + 1) := by
  obtain ⟨q, rfl⟩ : ∃ q, k = q + 1 := ⟨k - 1, by omega⟩
  conv => lhs; unfold nxB
  rw [if_neg (by rw [h]; decide)]
  rfl
theorem nx_11 (bd : Nat → Bool) : nxB bd 1 11 = 12 := by unfold nxB; split <;> rfl
set_option maxHeartbeats 1000000 in
theorem c_R_endOf {l : Launch} (hl : l.stackTraces = false) {w : XW} {h : AH} {a b : Int} (ha : 0 ≤ a ∧ a < 6) (hb : 0 ≤ b ∧ b < 12) : AM l y_R_endOf (wsM y_R_endOf b_R_endOf 4 (some .int) []) true (rmV 1 0) w [vO 40 0, vI a, vI b] h (Ret (some (vI ((nxB (rHs h a.toNat) (12 - b).toNat b.toNat : Nat) : Int))) h) := by
  refine AM.of hl (by decide +kernel) (Nat.le_of_ble_eq_true rfl) fun x hx C _ => ?_
  have loop : ∀ (m : Nat) (t : Int), b + 1 ≤ t → t ≤ 12 → (12 - t).toNat = m → ((nxB (rHs h a.toNat) (12 - b).toNat b.toNat : Nat) : Int) = ((nxB (rHs h a.toNat) (12 - (t - 1)).toNat (t - 1).toNat : Nat) : Int) → AW x w 4 true 0 0 (AQ x w true 0 0 (Ret (some (vI ((nxB (rHs h a.toNat) (12 - b).toNat b.toNat : Nat) : Int))) h)) 4 [(3, vI t), (0, vO 40 0), (1, vI a)] [] h := by
    intro m
    induction m using Nat.strongRecOn with
    | _ m ih =>
    intro t ht0 ht1 hm hE
    refine r_iload_n (i0 := 3) C d_R_endOf_4 rfl rfl ?_
    refine r_bipush C d_R_endOf_5 (by decide) (by decide) ?_
    refine r_icmp_ge (tgt := 27) C d_R_endOf_7 (by decide) (fun q7 => ?_) (fun q7 => ?_)
    · refine r_iload_n (i0 := 3) C d_R_endOf_27 rfl rfl ?_
      exact r_iret C d_R_endOf_28 (fun _ => ⟨vi_e (by first | (rw [hE, show (12 - (t - 1)).toNat = 1 by omega, show (t - 1).toNat = 11 by omega, nx_11]; omega) | (rw [hE, nxB_yes (by omega) (by rw [show (t - 1).toNat + 1 = t.toNat by omega]; exact hh)]; omega)), rfl⟩) (by decide) (fun _ => ⟨rfl, rfl, rfl⟩)
    · refine r_aload_n (i0 := 0) C d_R_endOf_10 rfl rfl ?_
      refine r_iload_n (i0 := 1) C d_R_endOf_11 rfl rfl ?_
      refine r_iload_n (i0 := 3) C d_R_endOf_12 rfl rfl ?_
      refine r_callVp C cl_R_174 im_R_changeAt rfl rfl (c_R_changeAt hx ha (by omega)) rfl rfl d_R_endOf_13 (by decide) (Nat.le_of_ble_eq_true rfl) ?_
      rw [rch_ix h ha.1 (by omega)]
      refine r_bipush C d_R_endOf_16 (by decide) (by decide) ?_
      refine r_icmp_ne (tgt := 27) C d_R_endOf_18 (by decide) (fun q18 => ?_) (fun q18 => ?_)
      · have hh : rHs h a.toNat t.toNat = true := (by unfold rHs; simp only [decide_eq_true_eq]; exact q18)
        refine r_iload_n (i0 := 3) C d_R_endOf_27 rfl rfl ?_
        exact r_iret C d_R_endOf_28 (fun _ => ⟨vi_e (by first | (rw [hE, show (12 - (t - 1)).toNat = 1 by omega, show (t - 1).toNat = 11 by omega, nx_11]; omega) | (rw [hE, nxB_yes (by omega) (by rw [show (t - 1).toNat + 1 = t.toNat by omega]; exact hh)]; omega)), rfl⟩) (by decide) (fun _ => ⟨rfl, rfl, rfl⟩)
      · have hh : rHs h a.toNat t.toNat = false := (by unfold rHs; simp only [decide_eq_false_iff_not]; exact fun z => z (by first | exact q18 | exact Decidable.not_not.mp q18))
        refine r_iinc C d_R_endOf_21 rfl (by decide) (by omega) ?_
        refine r_goto (tgt := 4) C d_R_endOf_24 (by decide) ?_
        refine AW.lvs [(3, _), (0, _), (1, _)] ⟨rfl, rfl, rfl, trivial⟩ (ih (m - 1) (by omega) (t + 1) (by omega) (by omega) (by omega) ?_)
        rw [hE, nxB_no (by omega) (by rw [show (t - 1).toNat + 1 = t.toNat by omega]; exact hh), show (12 - (t - 1)).toNat - 1 = (12 - (t + 1 - 1)).toNat by omega, show (t - 1).toNat + 1 = (t + 1 - 1).toNat by omega]
  refine r_iload_n (i0 := 2) C d_R_endOf_0 rfl rfl ?_
  refine r_iconst C d_R_endOf_1 (by decide) ?_
  refine r_iadd C d_R_endOf_2 (by omega) ?_
  refine r_istore_n (i0 := 3) C d_R_endOf_3 rfl (by decide) ?_
  exact AW.lvs [(3, _), (0, _), (1, _)] ⟨rfl, rfl, rfl, trivial⟩ (loop _ (b + 1) (by omega) (by omega) rfl (by rw [show b + 1 - 1 = b by omega]))
theorem hoE_yes {hs : Nat → Bool} {vl : Nat → Int} {fh : Int} {n : Nat} (h : hs n = true) : hoE hs vl fh (n + 1) = vl n := by
  conv => lhs; unfold hoE
  rw [if_pos h]
theorem hoE_no {hs : Nat → Bool} {vl : Nat → Int} {fh : Int} {n : Nat} (h : hs n = false) : hoE hs vl fh (n + 1) = hoE hs vl fh n := by
  conv => lhs; unfold hoE
  rw [if_neg (by rw [h]; decide)]
set_option maxHeartbeats 1000000 in
theorem c_R_holderAt {l : Launch} (hl : l.stackTraces = false) {w : XW} {h : AH} {a b : Int} (ha : 0 ≤ a ∧ a < 6) (hb : 0 ≤ b ∧ b < 12) : AM l y_R_holderAt (wsM y_R_holderAt b_R_holderAt 4 (some .int) []) true (rmV 1 0) w [vO 40 0, vI a, vI b] h (Ret (some (vI (hoE (rHs h a.toNat) (rVl h a.toNat) (h 46 0 a.toNat) (b + 1).toNat))) h) := by
  refine AM.of hl (by decide +kernel) (Nat.le_of_ble_eq_true rfl) fun x hx C _ => ?_
  have loop : ∀ (m : Nat) (t : Int), -1 ≤ t → t ≤ b → (t + 1).toNat = m → (hoE (rHs h a.toNat) (rVl h a.toNat) (h 46 0 a.toNat) (b + 1).toNat) = (hoE (rHs h a.toNat) (rVl h a.toNat) (h 46 0 a.toNat) (t + 1).toNat) → AW x w 4 true 0 0 (AQ x w true 0 0 (Ret (some (vI (hoE (rHs h a.toNat) (rVl h a.toNat) (h 46 0 a.toNat) (b + 1).toNat))) h)) 2 [(3, vI t), (0, vO 40 0), (1, vI a)] [] h := by
    intro m
    induction m using Nat.strongRecOn with
    | _ m ih =>
    intro t ht0 ht1 hm hE
    refine r_iload_n (i0 := 3) C d_R_holderAt_2 rfl rfl ?_
    refine r_if_lt (tgt := 23) C d_R_holderAt_3 (by decide) (fun q3 => ?_) (fun q3 => ?_)
    · refine r_iload_n (i0 := 3) C d_R_holderAt_23 rfl rfl ?_
      refine r_if_ge (tgt := 36) C d_R_holderAt_24 (by decide) (fun q24 => ?_) (fun q24 => ?_)
      · refine r_aload_n (i0 := 0) C d_R_holderAt_36 rfl rfl ?_
        refine r_iload_n (i0 := 1) C d_R_holderAt_37 rfl rfl ?_
        refine r_iload_n (i0 := 3) C d_R_holderAt_38 rfl rfl ?_
        refine r_callVp C cl_R_174 im_R_changeAt rfl rfl (c_R_changeAt hx ha (by omega)) rfl rfl d_R_holderAt_39 (by decide) (Nat.le_of_ble_eq_true rfl) ?_
        rw [rch_ix h ha.1 (by omega)]
        exact r_iret C d_R_holderAt_42 (fun _ => ⟨vi_e (by first | (rw [hE, show (t + 1).toNat = 0 by omega]; rfl) | (exfalso; omega) | (rw [hE, show (t + 1).toNat = t.toNat + 1 by omega, hoE_yes hh])), rfl⟩) (by decide) (fun _ => ⟨rfl, rfl, rfl⟩)
      · refine r_aload_n (i0 := 0) C d_R_holderAt_27 rfl rfl ?_
        refine r_getO C fl_R_25 d_R_holderAt_28 rfl rfl (fun hi => hi) ?_
        refine r_iload_n (i0 := 1) C d_R_holderAt_31 rfl rfl ?_
        refine r_iaload (ln := 6) C d_R_holderAt_32 rfl (fun _ => rfl) rfl (by omega) ?_
        refine r_goto (tgt := 42) C d_R_holderAt_33 (by decide) ?_
        exact r_iret C d_R_holderAt_42 (fun _ => ⟨vi_e (by first | (rw [hE, show (t + 1).toNat = 0 by omega]; rfl) | (exfalso; omega) | (rw [hE, show (t + 1).toNat = t.toNat + 1 by omega, hoE_yes hh])), rfl⟩) (by decide) (fun _ => ⟨rfl, rfl, rfl⟩)
    · refine r_aload_n (i0 := 0) C d_R_holderAt_6 rfl rfl ?_
      refine r_iload_n (i0 := 1) C d_R_holderAt_7 rfl rfl ?_
      refine r_iload_n (i0 := 3) C d_R_holderAt_8 rfl rfl ?_
      refine r_callVp C cl_R_174 im_R_changeAt rfl rfl (c_R_changeAt hx ha (by omega)) rfl rfl d_R_holderAt_9 (by decide) (Nat.le_of_ble_eq_true rfl) ?_
      rw [rch_ix h ha.1 (by omega)]
      refine r_bipush C d_R_holderAt_12 (by decide) (by decide) ?_
      refine r_icmp_ne (tgt := 23) C d_R_holderAt_14 (by decide) (fun q14 => ?_) (fun q14 => ?_)
      · have hh : rHs h a.toNat t.toNat = true := (by unfold rHs; simp only [decide_eq_true_eq]; exact q14)
        refine r_iload_n (i0 := 3) C d_R_holderAt_23 rfl rfl ?_
        refine r_if_ge (tgt := 36) C d_R_holderAt_24 (by decide) (fun q24 => ?_) (fun q24 => ?_)
        · refine r_aload_n (i0 := 0) C d_R_holderAt_36 rfl rfl ?_
          refine r_iload_n (i0 := 1) C d_R_holderAt_37 rfl rfl ?_
          refine r_iload_n (i0 := 3) C d_R_holderAt_38 rfl rfl ?_
          refine r_callVp C cl_R_174 im_R_changeAt rfl rfl (c_R_changeAt hx ha (by omega)) rfl rfl d_R_holderAt_39 (by decide) (Nat.le_of_ble_eq_true rfl) ?_
          rw [rch_ix h ha.1 (by omega)]
          exact r_iret C d_R_holderAt_42 (fun _ => ⟨vi_e (by first | (rw [hE, show (t + 1).toNat = 0 by omega]; rfl) | (exfalso; omega) | (rw [hE, show (t + 1).toNat = t.toNat + 1 by omega, hoE_yes hh])), rfl⟩) (by decide) (fun _ => ⟨rfl, rfl, rfl⟩)
        · refine r_aload_n (i0 := 0) C d_R_holderAt_27 rfl rfl ?_
          refine r_getO C fl_R_25 d_R_holderAt_28 rfl rfl (fun hi => hi) ?_
          refine r_iload_n (i0 := 1) C d_R_holderAt_31 rfl rfl ?_
          refine r_iaload (ln := 6) C d_R_holderAt_32 rfl (fun _ => rfl) rfl (by omega) ?_
          refine r_goto (tgt := 42) C d_R_holderAt_33 (by decide) ?_
          exact r_iret C d_R_holderAt_42 (fun _ => ⟨vi_e (by first | (rw [hE, show (t + 1).toNat = 0 by omega]; rfl) | (exfalso; omega) | (rw [hE, show (t + 1).toNat = t.toNat + 1 by omega, hoE_yes hh])), rfl⟩) (by decide) (fun _ => ⟨rfl, rfl, rfl⟩)
      · have hh : rHs h a.toNat t.toNat = false := (by unfold rHs; simp only [decide_eq_false_iff_not]; exact fun z => z (by first | exact q14 | exact Decidable.not_not.mp q14))
        refine r_iinc C d_R_holderAt_17 rfl (by decide) (by omega) ?_
        refine r_goto (tgt := 2) C d_R_holderAt_20 (by decide) ?_
        refine AW.lvs [(3, _), (0, _), (1, _)] ⟨rfl, rfl, rfl, trivial⟩ (ih (m - 1) (by omega) (t - 1) (by omega) (by omega) (by omega) ?_)
        rw [hE, show (t + 1).toNat = t.toNat + 1 by omega, hoE_no hh, show (t - 1 + 1).toNat = t.toNat by omega]
  refine r_iload_n (i0 := 2) C d_R_holderAt_0 rfl rfl ?_
  refine r_istore_n (i0 := 3) C d_R_holderAt_1 rfl (by decide) ?_
  exact AW.lvs [(3, _), (0, _), (1, _)] ⟨rfl, rfl, rfl, trivial⟩ (loop _ b (by omega) (by omega) rfl rfl)
set_option maxHeartbeats 1000000 in
theorem c_R_weight {l : Launch} (hl : l.stackTraces = false) {w : XW} {h : AH} {a b c d : Int} (hd : ∀ k : Nat, k < 12 → 0 ≤ h 50 0 k ∧ h 50 0 k ≤ 100) (ha : 0 ≤ a ∧ a ≤ b ∧ b ≤ 12) (hc : 0 ≤ c ∧ c ≤ d ∧ d ≤ 12) : AM l y_R_weight (wsM y_R_weight b_R_weight 5 (some .int) []) true (rmV 1 0) w [vO 40 0, vI a, vI b, vI c, vI d] h (Ret (some (vI (owF (h 50 0) c d a b))) h) := by
  refine AM.of hl (by decide +kernel) (Nat.le_of_ble_eq_true rfl) fun x hx C _ => ?_
  refine r_aload_n (i0 := 0) C d_R_weight_0 rfl rfl ?_
  refine r_iload_n (i0 := 3) C d_R_weight_1 rfl rfl ?_
  refine r_iload C d_R_weight_2 rfl ?_
  refine r_callVp C cl_R_192 im_R_degreesOf rfl rfl (c_R_degreesOf hx hd (by omega)) rfl rfl d_R_weight_4 (by decide) (Nat.le_of_ble_eq_true rfl) ?_
  refine r_if_le (tgt := 19) C d_R_weight_7 (by decide) (fun q7 => ?_) (fun q7 => ?_)
  · refine r_iload_n (i0 := 2) C d_R_weight_19 rfl rfl ?_
    refine r_iload_n (i0 := 1) C d_R_weight_20 rfl rfl ?_
    refine r_isub C d_R_weight_21 (by omega) ?_
    exact r_iret C d_R_weight_22 (fun _ => ⟨vi_e (by have dd := degF_bd hd (a := c.toNat) (b := d.toNat) (by omega) (by omega); unfold owF; first | (rw [if_pos (by omega)]; done) | (rw [if_neg (by omega)]; done)), rfl⟩) (by decide) (fun _ => ⟨rfl, rfl, rfl⟩)
  · refine r_aload_n (i0 := 0) C d_R_weight_10 rfl rfl ?_
    refine r_iload_n (i0 := 1) C d_R_weight_11 rfl rfl ?_
    refine r_iload_n (i0 := 2) C d_R_weight_12 rfl rfl ?_
    refine r_callVp C cl_R_192 im_R_degreesOf rfl rfl (c_R_degreesOf hx hd (by omega)) rfl rfl d_R_weight_13 (by decide) (Nat.le_of_ble_eq_true rfl) ?_
    refine r_goto (tgt := 22) C d_R_weight_16 (by decide) ?_
    exact r_iret C d_R_weight_22 (fun _ => ⟨vi_e (by have dd := degF_bd hd (a := c.toNat) (b := d.toNat) (by omega) (by omega); unfold owF; first | (rw [if_pos (by omega)]; done) | (rw [if_neg (by omega)]; done)), rfl⟩) (by decide) (fun _ => ⟨rfl, rfl, rfl⟩)
theorem bd_no {k : Int} {r : Nat → Int} {t : Nat} (h1 : t ≠ 12) (h2 : k ≠ 0 ∨ r t = -1) : bdF k r t = false := by
  unfold bdF esI
  rw [if_neg]
  · rfl
  · intro z
    rw [Int.toNat_natCast] at z
    rcases z with z | z
    · omega
    · rcases h2 with y | y
      · exact y z.1
      · exact z.2 y
theorem bd_yes {k : Int} {r : Nat → Int} {t : Nat} (h : t = 12 ∨ (k = 0 ∧ r t ≠ -1)) : bdF k r t = true := by
  unfold bdF esI
  rw [if_pos]
  · rfl
  · rw [Int.toNat_natCast]
    rcases h with z | z
    · left; omega
    · right; exact z
set_option maxHeartbeats 1000000 in
theorem c_R_stretchOf {l : Launch} (hl : l.stackTraces = false) {w : XW} {h : AH} {a b c k : Int} (ha : 0 ≤ a ∧ a < 6) (hb : 0 ≤ b ∧ b < 12) (hc : c = 0 ∨ c = 1) (hk : k = 0 ↔ rdI (rdR h a.toNat) = 1) (hr : ∀ t : Nat, t < 13 → -1 ≤ rdR h a.toNat t ∧ rdR h a.toNat t ≤ 99) : AM l y_R_stretchOf (wsM y_R_stretchOf b_R_stretchOf 5 (some .int) []) true (rmV 1 0) w [vO 40 0, vI a, vI b, vI c] h (Ret (some (vI (if c = 1 then ((nxB (bdF k (rdR h a.toNat)) (12 - b).toNat b.toNat : Nat) : Int) else ((lsB (bdF k (rdR h a.toNat)) b.toNat : Nat) : Int)))) h) := by
  refine AM.of hl (by decide +kernel) (Nat.le_of_ble_eq_true rfl) fun x hx C _ => ?_
  have up : rdI (rdR h a.toNat) = 1 → k = 0 → c = 1 → ∀ (m : Nat) (t : Int), b + 1 ≤ t → t ≤ 12 → (12 - t).toNat = m → (∀ x, b.toNat < x → x < t.toNat → (bdF k (rdR h a.toNat)) x = false) → AW x w 5 true 0 0 (AQ x w true 0 0 (Ret (some (vI (if c = 1 then ((nxB (bdF k (rdR h a.toNat)) (12 - b).toNat b.toNat : Nat) : Int) else ((lsB (bdF k (rdR h a.toNat)) b.toNat : Nat) : Int)))) h)) 32 [(4, vI t), (0, vO 40 0), (1, vI a), (3, vI c)] [] h := by
    intro hR hk hc1
    intro m
    induction m using Nat.strongRecOn with
    | _ m ih =>
    intro t ht0 ht1 hm hno
    have rr := rdI_le hR
    have rb := hr t.toNat (by omega)
    have r12 : t = 12 → rdR h a.toNat t.toNat ≠ -1 := fun z => by subst z; exact rr.2.2
    refine r_aload_n (i0 := 0) C d_R_stretchOf_32 rfl rfl ?_
    refine r_getO C fl_R_19 d_R_stretchOf_33 rfl rfl (fun hi => hi) ?_
    refine r_bipush C d_R_stretchOf_36 (by decide) (by decide) ?_
    refine r_iload_n (i0 := 1) C d_R_stretchOf_38 rfl rfl ?_
    refine r_imul C d_R_stretchOf_39 (by omega) ?_
    refine r_iload C d_R_stretchOf_40 rfl ?_
    refine r_iadd C d_R_stretchOf_42 (by omega) ?_
    refine r_iaload (ln := 78) C d_R_stretchOf_43 rfl (fun _ => rfl) rfl (by omega) ?_
    rw [rdR_ix h ha.1 (by omega)]
    refine r_if_ge (tgt := 67) C d_R_stretchOf_44 (by decide) (fun q44 => ?_) (fun q44 => ?_)
    · refine r_iload C d_R_stretchOf_67 rfl ?_
      exact r_iret C d_R_stretchOf_69 (fun _ => ⟨vi_e (by rw [if_pos (by omega), nxB_at (e := t.toNat) (bd_yes (by right; exact ⟨hk, by omega⟩)) _ _ (by omega) (by omega) (fun x h1 h2 => hno x h1 h2)]; omega), rfl⟩) (by decide) (fun _ => ⟨rfl, rfl, rfl⟩)
    · refine r_iload_n (i0 := 3) C d_R_stretchOf_47 rfl rfl ?_
      refine r_if_eq (tgt := 58) C d_R_stretchOf_48 (by decide) (fun q48 => ?_) (fun q48 => ?_)
      · exfalso; omega 
      · refine r_iload C d_R_stretchOf_51 rfl ?_
        refine r_iconst C d_R_stretchOf_53 (by decide) ?_
        refine r_iadd C d_R_stretchOf_54 (by omega) ?_
        refine r_goto (tgt := 62) C d_R_stretchOf_55 (by decide) ?_
        refine r_istore C d_R_stretchOf_62 (by decide) ?_
        refine r_goto (tgt := 32) C d_R_stretchOf_64 (by decide) ?_
        refine AW.lvs [(4, _), (0, _), (1, _), (3, _)] ⟨rfl, rfl, rfl, rfl, trivial⟩ (ih (m - 1) (by omega) (t + 1) (by omega) (by omega) (by omega) (fun x h1 h2 => ?_))
        by_cases e : x = t.toNat
        · subst e; exact bd_no (by intro z; have := r12 (by omega); omega) (Or.inr (by omega))
        · exact hno x h1 (by omega)
  have dn : rdI (rdR h a.toNat) = 1 → k = 0 → c = 0 → ∀ (m : Nat) (t : Int), 0 ≤ t → t ≤ b → t.toNat = m → (∀ x, t.toNat < x → x ≤ b.toNat → (bdF k (rdR h a.toNat)) x = false) → AW x w 5 true 0 0 (AQ x w true 0 0 (Ret (some (vI (if c = 1 then ((nxB (bdF k (rdR h a.toNat)) (12 - b).toNat b.toNat : Nat) : Int) else ((lsB (bdF k (rdR h a.toNat)) b.toNat : Nat) : Int)))) h)) 32 [(4, vI t), (0, vO 40 0), (1, vI a), (3, vI c)] [] h := by
    intro hR hk hc1
    intro m
    induction m using Nat.strongRecOn with
    | _ m ih =>
    intro t ht0 ht1 hm hno
    have rr := rdI_le hR
    have rb := hr t.toNat (by omega)
    have r0 : t = 0 → rdR h a.toNat t.toNat ≠ -1 := fun z => by subst z; exact rr.2.1
    refine r_aload_n (i0 := 0) C d_R_stretchOf_32 rfl rfl ?_
    refine r_getO C fl_R_19 d_R_stretchOf_33 rfl rfl (fun hi => hi) ?_
    refine r_bipush C d_R_stretchOf_36 (by decide) (by decide) ?_
    refine r_iload_n (i0 := 1) C d_R_stretchOf_38 rfl rfl ?_
    refine r_imul C d_R_stretchOf_39 (by omega) ?_
    refine r_iload C d_R_stretchOf_40 rfl ?_
    refine r_iadd C d_R_stretchOf_42 (by omega) ?_
    refine r_iaload (ln := 78) C d_R_stretchOf_43 rfl (fun _ => rfl) rfl (by omega) ?_
    rw [rdR_ix h ha.1 (by omega)]
    refine r_if_ge (tgt := 67) C d_R_stretchOf_44 (by decide) (fun q44 => ?_) (fun q44 => ?_)
    · refine r_iload C d_R_stretchOf_67 rfl ?_
      exact r_iret C d_R_stretchOf_69 (fun _ => ⟨vi_e (by rw [if_neg (by omega), lsB_at (s := t.toNat) (by right; exact bd_yes (by right; exact ⟨hk, by omega⟩)) _ (by omega) (fun x h1 h2 => hno x h1 h2)]; omega), rfl⟩) (by decide) (fun _ => ⟨rfl, rfl, rfl⟩)
    · refine r_iload_n (i0 := 3) C d_R_stretchOf_47 rfl rfl ?_
      refine r_if_eq (tgt := 58) C d_R_stretchOf_48 (by decide) (fun q48 => ?_) (fun q48 => ?_)
      · refine r_iload C d_R_stretchOf_58 rfl ?_
        refine r_iconst C d_R_stretchOf_60 (by decide) ?_
        refine r_isub C d_R_stretchOf_61 (by omega) ?_
        refine r_istore C d_R_stretchOf_62 (by decide) ?_
        refine r_goto (tgt := 32) C d_R_stretchOf_64 (by decide) ?_
        refine AW.lvs [(4, _), (0, _), (1, _), (3, _)] ⟨rfl, rfl, rfl, rfl, trivial⟩ (ih (m - 1) (by omega) (t - 1) (by omega) (by omega) (by omega) (fun x h1 h2 => ?_))
        by_cases e : x = t.toNat
        · subst e; exact bd_no (by omega) (Or.inr (by omega))
        · exact hno x (by omega) h2
      · exfalso; omega 
  refine r_aload_n (i0 := 0) C d_R_stretchOf_0 rfl rfl ?_
  refine r_iload_n (i0 := 1) C d_R_stretchOf_1 rfl rfl ?_
  refine r_callVp C cl_R_128 im_R_isRead rfl rfl (c_R_isRead hx ha hr) rfl rfl d_R_stretchOf_2 (by decide) (Nat.le_of_ble_eq_true rfl) ?_
  refine r_if_ne (tgt := 19) C d_R_stretchOf_5 (by decide) (fun q5 => ?_) (fun q5 => ?_)
  · have hR : rdI (rdR h a.toNat) = 1 := (by have := rdI_01 (rdR h a.toNat); omega)
    have hk0 := hk.mpr hR
    refine r_iload_n (i0 := 3) C d_R_stretchOf_19 rfl rfl ?_
    refine r_if_eq (tgt := 29) C d_R_stretchOf_20 (by decide) (fun q20 => ?_) (fun q20 => ?_)
    · refine r_iload_n (i0 := 2) C d_R_stretchOf_29 rfl rfl ?_
      refine r_istore C d_R_stretchOf_30 (by decide) ?_
      first
        | exact AW.lvs [(4, _), (0, _), (1, _), (3, _)] ⟨rfl, rfl, rfl, rfl, trivial⟩ (up hR hk0 (by omega) _ (b + 1) (by omega) (by omega) rfl (fun x h1 h2 => by omega))
        | exact AW.lvs [(4, _), (0, _), (1, _), (3, _)] ⟨rfl, rfl, rfl, rfl, trivial⟩ (dn hR hk0 (by omega) _ b (by omega) (by omega) rfl (fun x h1 h2 => by omega))
    · refine r_iload_n (i0 := 2) C d_R_stretchOf_23 rfl rfl ?_
      refine r_iconst C d_R_stretchOf_24 (by decide) ?_
      refine r_iadd C d_R_stretchOf_25 (by omega) ?_
      refine r_goto (tgt := 30) C d_R_stretchOf_26 (by decide) ?_
      refine r_istore C d_R_stretchOf_30 (by decide) ?_
      first
        | exact AW.lvs [(4, _), (0, _), (1, _), (3, _)] ⟨rfl, rfl, rfl, rfl, trivial⟩ (up hR hk0 (by omega) _ (b + 1) (by omega) (by omega) rfl (fun x h1 h2 => by omega))
        | exact AW.lvs [(4, _), (0, _), (1, _), (3, _)] ⟨rfl, rfl, rfl, rfl, trivial⟩ (dn hR hk0 (by omega) _ b (by omega) (by omega) rfl (fun x h1 h2 => by omega))
  · have hk0 : k ≠ 0 := fun z => by have := hk.mp z; omega
    refine r_iload_n (i0 := 3) C d_R_stretchOf_8 rfl rfl ?_
    refine r_if_eq (tgt := 17) C d_R_stretchOf_9 (by decide) (fun q9 => ?_) (fun q9 => ?_)
    · refine r_iconst C d_R_stretchOf_17 (by decide) ?_
      exact r_iret C d_R_stretchOf_18 (fun _ => ⟨vi_e (by first | (rw [if_pos (by omega), nxB_at (e := 12) (bdF_12 _ _) _ _ (by omega) (by omega) (fun x h1 h2 => bd_no (by omega) (Or.inl hk0))]; rfl) | (rw [if_neg (by omega), lsB_at (s := 0) (Or.inl rfl) _ (by omega) (fun x h1 h2 => bd_no (by omega) (Or.inl hk0))]; rfl)), rfl⟩) (by decide) (fun _ => ⟨rfl, rfl, rfl⟩)
    · refine r_bipush C d_R_stretchOf_12 (by decide) (by decide) ?_
      refine r_goto (tgt := 18) C d_R_stretchOf_14 (by decide) ?_
      exact r_iret C d_R_stretchOf_18 (fun _ => ⟨vi_e (by first | (rw [if_pos (by omega), nxB_at (e := 12) (bdF_12 _ _) _ _ (by omega) (by omega) (fun x h1 h2 => bd_no (by omega) (Or.inl hk0))]; rfl) | (rw [if_neg (by omega), lsB_at (s := 0) (Or.inl rfl) _ (by omega) (fun x h1 h2 => bd_no (by omega) (Or.inl hk0))]; rfl)), rfl⟩) (by decide) (fun _ => ⟨rfl, rfl, rfl⟩)

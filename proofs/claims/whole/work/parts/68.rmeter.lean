/-! Contracts of the reference: a span by meter. -/
theorem sm_un {bd : Nat → Bool} {V dg : Nat → Int} (hd : ∀ k : Nat, k < 12 → 0 ≤ dg k ∧ dg k ≤ 100) {s e fr : Nat} (H : isSt bd s e) {W A Un : Int} (I : FF * (W * Un + A) = Un * (GA bd V dg s - GA bd V dg fr)) : FF * ((W + (V e - V s)) * Un + A) = Un * (GA bd V dg e - GA bd V dg fr) := by
  have g := GA_full (V := V) hd H
  rw [show (W + (V e - V s)) * Un + A = (W * Un + A) + (V e - V s) * Un by rw [Int.add_mul]; omega, Int.mul_add, I, show GA bd V dg e - GA bd V dg fr = (GA bd V dg s - GA bd V dg fr) + (GA bd V dg e - GA bd V dg s) by omega, Int.mul_add, g]
  congr 1
  ac_rfl
theorem sm_cut {bd : Nat → Bool} {V dg : Nat → Int} (hd : ∀ k : Nat, k < 12 → 0 ≤ dg k ∧ dg k ≤ 100) {s e t L fr : Nat} (H : isSt bd s e) (h1 : s ≤ t) (h2 : t ≤ L) (h3 : L ≤ e) (ha : alN dg s e ≤ 100) {W A Un : Int} (I : FF * (W * Un + A) = Un * (GA bd V dg t - GA bd V dg fr)) : FF * (W * (Un * alN dg s e) + (A * alN dg s e + (V e - V s) * (muF dg s e L - muF dg s e t) * Un)) = Un * alN dg s e * (GA bd V dg L - GA bd V dg fr) := by
  have g := GA_st (V := V) (dg := dg) H h1 h2 h3
  have a1 := al_pos hd H.2.1 H.2.2.1
  have fd := FF_dvd a1 ha
  have ps : psF dg s e L - psF dg s e t = FF / alN dg s e * (muF dg s e L - muF dg s e t) := by
    unfold psF
    rw [if_pos ha, if_pos ha, ← Int.mul_sub]
    congr 1
    omega
  rw [ps] at g
  rw [show W * (Un * alN dg s e) + (A * alN dg s e + (V e - V s) * (muF dg s e L - muF dg s e t) * Un) = (W * Un + A) * alN dg s e + (V e - V s) * (muF dg s e L - muF dg s e t) * Un by rw [Int.add_mul, Int.mul_assoc W Un]; omega, Int.mul_add, ← Int.mul_assoc, I, show GA bd V dg L - GA bd V dg fr = (GA bd V dg t - GA bd V dg fr) + (GA bd V dg L - GA bd V dg t) by omega, g, Int.mul_add]
  congr 1
  · ac_rfl
  · conv => lhs; rw [← fd]
    ac_rfl
theorem RSF_rd (h : AH) (n : Nat) (wh up dn : Nat → Int) (f : Nat) : rdR (RSF h n wh up dn) f = rdR h f := by
  funext t; unfold rdR; rw [RSF_fr _ _ _ _ _ (by decide)]
theorem mu_bd {dg : Nat → Int} (hd : ∀ k : Nat, k < 12 → 0 ≤ dg k ∧ dg k ≤ 100) (s e : Nat) {x y : Nat} (h1 : x ≤ y) (h2 : y ≤ 12) : 0 ≤ muF dg s e y - muF dg s e x ∧ muF dg s e y - muF dg s e x ≤ 1200 := by
  have z := degF_bd hd h1 h2
  unfold muF
  split
  · omega
  · unfold degF at z; omega
theorem RSF_43 (h : AH) (n : Nat) (wh up dn : Nat → Int) : RSF h n wh up dn 43 = h 43 := RSF_fr _ _ _ _ _ (by decide)
theorem RSF_44 (h : AH) (n : Nat) (wh up dn : Nat → Int) : RSF h n wh up dn 44 = h 44 := RSF_fr _ _ _ _ _ (by decide)
theorem RSF_50 (h : AH) (n : Nat) (wh up dn : Nat → Int) : RSF h n wh up dn 50 = h 50 := RSF_fr _ _ _ _ _ (by decide)
theorem RSF_56 (h : AH) (n : Nat) (wh up dn : Nat → Int) : RSF h n wh up dn 56 = h 56 := RSF_fr _ _ _ _ _ (by decide)
set_option maxHeartbeats 1000000 in
theorem c_R_spanByMeter {l : Launch} (hl : l.stackTraces = false) {w : XW} {h : AH} {n : Nat} {wh up dn : Nat → Int} {f fr to p al k : Int} (hn : n < 72) (hf : 0 ≤ f ∧ f < 6) (hft : 0 ≤ fr ∧ fr < to ∧ to ≤ 12) (hp : 0 ≤ p ∧ p ≤ 260000) (hal : 0 ≤ al ∧ al ≤ 432000000) (hk : k = 0 ↔ rdI (rdR h f.toNat) = 1) (hr : ∀ t : Nat, t < 13 → -1 ≤ (rdR h f.toNat) t ∧ (rdR h f.toNat) t ≤ 99) (hfc : 0 ≤ (h 43 0 f.toNat) ∧ (h 43 0 f.toNat) ≤ 2) (hbe : 0 ≤ (h 40 0 30) ∧ (h 40 0 30) ≤ 360000) (hd : ∀ k : Nat, k < 12 → 0 ≤ h 50 0 k ∧ h 50 0 k ≤ 100) (hM : MOK k (h 43 0 f.toNat) (h 40 0 30) (h 56 0 f.toNat) (rdR h f.toNat)) (hcut : ∀ s e, isSt (bdF k (rdR h f.toNat)) s e → (s < fr.toNat ∧ fr.toNat < e) ∨ (s < to.toNat ∧ to.toNat < e) → alN (h 50 0) s e ≤ 100) : AM l y_R_spanByMeter (wsM y_R_spanByMeter b_R_spanByMeter 22 none []) false (rmV 2 0) w [vO 40 0, vI f, vI fr, vI to, vL p, vL al] (RSF h n wh up dn) (RetP none (fun h' => ∃ X Y : Int, (1 ≤ Y ∧ Y ≤ 10000) ∧ 0 ≤ X ∧ X ≤ (h 56 0 f.toNat) * Y ∧ FF * X = Y * (GA (bdF k (rdR h f.toNat)) (VF k (h 43 0 f.toNat) (h 40 0 30) (h 56 0 f.toNat) (rdR h f.toNat)) (h 50 0) to.toNat - GA (bdF k (rdR h f.toNat)) (VF k (h 43 0 f.toNat) (h 40 0 30) (h 56 0 f.toNat) (rdR h f.toNat)) (h 50 0) fr.toNat) ∧ h' = RSF h (n + 1) (upI wh n (hoE (rHs h f.toNat) (rVl h f.toNat) (h 46 0 f.toNat) (fr + 1).toNat)) (upI up n (p * X)) (upI dn n (al * Y)))) := by
  refine AM.of hl (by decide +kernel) (Nat.le_of_ble_eq_true rfl) fun x hx C _ => ?_
  have loop : ∀ (m : Nat) (t W A Un : Int), fr ≤ t → t ≤ to → (to - t).toNat = m → 0 ≤ W → 0 ≤ A → (1 ≤ Un ∧ Un ≤ 10000) → FF * (W * Un + A) = Un * (GA (bdF k (rdR h f.toNat)) (VF k (h 43 0 f.toNat) (h 40 0 30) (h 56 0 f.toNat) (rdR h f.toNat)) (h 50 0) t.toNat - GA (bdF k (rdR h f.toNat)) (VF k (h 43 0 f.toNat) (h 40 0 30) (h 56 0 f.toNat) (rdR h f.toNat)) (h 50 0) fr.toNat) → (t < to → Un ≤ (if fr < t then 100 else 1)) → (fr < t → t < to → t.toNat = 0 ∨ (bdF k (rdR h f.toNat)) t.toNat = true) → AW x w 22 true 0 0 (AQ x w false 0 0 (RetP none (fun h' => ∃ X Y : Int, (1 ≤ Y ∧ Y ≤ 10000) ∧ 0 ≤ X ∧ X ≤ (h 56 0 f.toNat) * Y ∧ FF * X = Y * (GA (bdF k (rdR h f.toNat)) (VF k (h 43 0 f.toNat) (h 40 0 30) (h 56 0 f.toNat) (rdR h f.toNat)) (h 50 0) to.toNat - GA (bdF k (rdR h f.toNat)) (VF k (h 43 0 f.toNat) (h 40 0 30) (h 56 0 f.toNat) (rdR h f.toNat)) (h 50 0) fr.toNat) ∧ h' = RSF h (n + 1) (upI wh n (hoE (rHs h f.toNat) (rVl h f.toNat) (h 46 0 f.toNat) (fr + 1).toNat)) (upI up n (p * X)) (upI dn n (al * Y))))) 12 [(14, vI t), (12, vL Un), (10, vL A), (8, vL W), (0, vO 40 0), (1, vI f), (2, vI fr), (3, vI to), (4, vL p), (6, vL al)] [] (RSF h n wh up dn) := by
    intro m
    induction m using Nat.strongRecOn with
    | _ m ih =>
    intro t W A Un ht0 ht1 hm hW hA hUn hI hU1 hbd
    refine r_iload C d_R_spanByMeter_12 rfl ?_
    refine r_iload_n (i0 := 3) C d_R_spanByMeter_14 rfl rfl ?_
    refine r_icmp_ge (tgt := 190) C d_R_spanByMeter_15 (by decide) (fun q15 => ?_) (fun q15 => ?_)
    · have et : t = to := (by omega)
      subst et
      have gr := GA_rng hM hd (x := fr.toNat) (y := t.toNat) (by omega) (by omega)
      have xb : W * Un + A ≤ (h 56 0 f.toNat) * Un := by
        have z := Int.mul_le_mul_of_nonneg_left gr.2 (show 0 ≤ Un by omega)
        rw [← hI, Int.mul_comm FF, show Un * ((h 56 0 f.toNat) * FF) = (h 56 0 f.toNat) * Un * FF by ac_rfl] at z
        exact Int.le_of_mul_le_mul_right z FF_pos
      have tb := mulN (A := 72000000) (B := 10000) (a := (h 56 0 f.toNat)) (b := Un) hM.2.1 (by omega)
      have wu := Int.mul_nonneg hW (show 0 ≤ Un by omega)
      have px := mulN (A := 260000) (B := 720000000000) (a := p) (b := W * Un + A) hp (by omega)
      have py := mulN (A := 432000000) (B := 10000) (a := al) (b := Un) hal (by omega)
      refine r_aload_n (i0 := 0) C d_R_spanByMeter_190 rfl rfl ?_
      refine r_aload_n (i0 := 0) C d_R_spanByMeter_191 rfl rfl ?_
      refine r_iload_n (i0 := 1) C d_R_spanByMeter_192 rfl rfl ?_
      refine r_iload_n (i0 := 2) C d_R_spanByMeter_193 rfl rfl ?_
      refine r_callVp C cl_R_180 im_R_holderAt rfl rfl (c_R_holderAt hx hf (by omega)) rfl rfl d_R_spanByMeter_194 (by decide) (Nat.le_of_ble_eq_true rfl) ?_
      simp only [RSF_hs, RSF_vl, RSF_46, RSF_rd, RSF_43, RSF_44, RSF_50, RSF_56, RSF_40 h n wh up dn (show (30 : Nat) ≠ 32 by decide)]
      refine r_lload C d_R_spanByMeter_197 rfl ?_
      refine r_lload C d_R_spanByMeter_199 rfl ?_
      refine r_lload C d_R_spanByMeter_201 rfl ?_
      refine r_lmul C d_R_spanByMeter_203 (by omega) ?_
      refine r_lload C d_R_spanByMeter_204 rfl ?_
      refine r_ladd C d_R_spanByMeter_206 (by omega) ?_
      refine r_lmul C d_R_spanByMeter_207 (by omega) ?_
      refine r_lload C d_R_spanByMeter_208 rfl ?_
      refine r_lload C d_R_spanByMeter_210 rfl ?_
      refine r_lmul C d_R_spanByMeter_212 (by omega) ?_
      refine r_callVw C cl_R_188 im_R_span rfl rfl (c_R_span hx hn) rfl rfl d_R_spanByMeter_213 (by decide) (by decide) (Nat.le_of_ble_eq_true rfl) (fun h213 p213 => ?_)
      subst p213
      exact r_vret C d_R_spanByMeter_216 (⟨rfl, W * Un + A, Un, hUn, by omega, xb, hI, rfl⟩) (by decide) (fun q => nomatch q)
    · obtain ⟨HS, hlt⟩ := isSt_at (bd := (bdF k (rdR h f.toNat))) (bdF_12 _ _) (show t.toNat < 12 by omega)
      have hls := lsB_le (bdF k (rdR h f.toNat)) t.toNat
      have e12 : 12 - t.toNat = (12 - t).toNat := by omega
      rw [e12] at HS hlt
      generalize hSd : lsB (bdF k (rdR h f.toNat)) t.toNat = S at *
      generalize hEd : nxB (bdF k (rdR h f.toNat)) (12 - t).toNat t.toNat = E at *
      have hE12 := HS.2.2.1
      have su := st_u hM hd HS
      rw [suS_V k _ _ _ _ HS] at su
      have hu : 0 ≤ (VF k (h 43 0 f.toNat) (h 40 0 30) (h 56 0 f.toNat) (rdR h f.toNat)) E - (VF k (h 43 0 f.toNat) (h 40 0 30) (h 56 0 f.toNat) (rdR h f.toNat)) S ∧ (VF k (h 43 0 f.toNat) (h 40 0 30) (h 56 0 f.toNat) (rdR h f.toNat)) E - (VF k (h 43 0 f.toNat) (h 40 0 30) (h 56 0 f.toNat) (rdR h f.toNat)) S ≤ 72000000 := ⟨su.1, by have := hM.2.1.2; omega⟩
      have gr := GA_rng hM hd (x := fr.toNat) (y := t.toNat) (by omega) (by omega)
      have xb : W * Un + A ≤ (h 56 0 f.toNat) * Un := by
        have z := Int.mul_le_mul_of_nonneg_left gr.2 (show 0 ≤ Un by omega)
        rw [← hI, Int.mul_comm FF, show Un * ((h 56 0 f.toNat) * FF) = (h 56 0 f.toNat) * Un * FF by ac_rfl] at z
        exact Int.le_of_mul_le_mul_right z FF_pos
      have tb := mulN (A := 72000000) (B := 10000) (a := (h 56 0 f.toNat)) (b := Un) hM.2.1 (by omega)
      have wu := Int.mul_nonneg hW (show 0 ≤ Un by omega)
      have hA2 : A ≤ 720000000000 := by omega
      have w1 := Int.mul_le_mul_of_nonneg_left (show 1 ≤ Un by omega) hW
      have hW2 : W ≤ 720000000000 := by omega
      have j108 : ∀ nv L : Int, nv = (VF k (h 43 0 f.toNat) (h 40 0 30) (h 56 0 f.toNat) (rdR h f.toNat)) E - (VF k (h 43 0 f.toNat) (h 40 0 30) (h 56 0 f.toNat) (rdR h f.toNat)) S → L = (if ((E : Nat) : Int) < to then ((E : Nat) : Int) else to) → AW x w 22 true 0 0 (AQ x w false 0 0 (RetP none (fun h' => ∃ X Y : Int, (1 ≤ Y ∧ Y ≤ 10000) ∧ 0 ≤ X ∧ X ≤ (h 56 0 f.toNat) * Y ∧ FF * X = Y * (GA (bdF k (rdR h f.toNat)) (VF k (h 43 0 f.toNat) (h 40 0 30) (h 56 0 f.toNat) (rdR h f.toNat)) (h 50 0) to.toNat - GA (bdF k (rdR h f.toNat)) (VF k (h 43 0 f.toNat) (h 40 0 30) (h 56 0 f.toNat) (rdR h f.toNat)) (h 50 0) fr.toNat) ∧ h' = RSF h (n + 1) (upI wh n (hoE (rHs h f.toNat) (rVl h f.toNat) (h 46 0 f.toNat) (fr + 1).toNat)) (upI up n (p * X)) (upI dn n (al * Y))))) 108 [(17, vI L), (16, vI ((E : Nat) : Int)), (15, vI ((S : Nat) : Int)), (14, vI t), (12, vL Un), (10, vL A), (8, vL W), (0, vO 40 0), (1, vI f), (2, vI fr), (3, vI to), (4, vL p), (6, vL al)] [vL nv] (RSF h n wh up dn) := by
        intro nv L hnv hL
        subst hnv
        have hL2 : t < L ∧ L ≤ ((E : Nat) : Int) ∧ L ≤ to ∧ (L = ((E : Nat) : Int) ∨ L = to) := by rw [hL]; split <;> omega
        have mm := mu_bd hd S E (x := t.toNat) (y := L.toNat) (by omega) (by omega)
        have ma := mu_bd hd S E (x := S) (y := E) (by omega) (by omega)
        have ma2 : 0 ≤ alN (h 50 0) S E ∧ alN (h 50 0) S E ≤ 1200 := ma
        have k1 := mulN (A := 720000000000) (B := 1200) (a := A) (b := alN (h 50 0) S E) ⟨hA, hA2⟩ ma2
        have k2 := mulN (A := 72000000) (B := 1200) (a := (VF k (h 43 0 f.toNat) (h 40 0 30) (h 56 0 f.toNat) (rdR h f.toNat)) E - (VF k (h 43 0 f.toNat) (h 40 0 30) (h 56 0 f.toNat) (rdR h f.toNat)) S) (b := muF (h 50 0) S E L.toNat - muF (h 50 0) S E t.toNat) hu mm
        have k3 := mulN (A := 86400000000) (B := 10000) (a := ((VF k (h 43 0 f.toNat) (h 40 0 30) (h 56 0 f.toNat) (rdR h f.toNat)) E - (VF k (h 43 0 f.toNat) (h 40 0 30) (h 56 0 f.toNat) (rdR h f.toNat)) S) * (muF (h 50 0) S E L.toNat - muF (h 50 0) S E t.toNat)) (b := Un) (by omega) (by omega)
        have k4 := mulN (A := 10000) (B := 1200) (a := Un) (b := alN (h 50 0) S E) (by omega) ma2
        have cc : fr < t → S < t.toNat → False := fun z1 z2 => by
          rcases hbd z1 (by omega) with y | y
          · omega
          · have := HS.2.2.2.2 t.toNat z2 (by omega); rw [this] at y; cases y
        have ub2 : alN (h 50 0) S E ≤ 100 → Un * alN (h 50 0) S E ≤ 10000 := fun z => by
          have y := hU1 (by omega)
          have y2 : Un ≤ 100 := by revert y; split <;> omega
          have := Int.mul_le_mul y2 z (by omega) (by omega)
          omega
        have ub3 : alN (h 50 0) S E ≤ 100 → L < to → ¬ (S = t.toNat ∧ ((E : Nat) : Int) = L) → Un * alN (h 50 0) S E ≤ 100 := fun z zl zn => by
          have y := hU1 (by omega)
          have y2 : Un ≤ 1 := by
            by_cases c : fr < t
            · have ns : ¬ S < t.toNat := fun z => cc c z
              exact absurd ⟨by omega, by omega⟩ zn
            · rw [if_neg c] at y; exact y
          have := Int.mul_le_mul y2 z (by omega) (by omega)
          omega
        have cutc : ∀ L : Int, (t < L ∧ L ≤ ((E : Nat) : Int) ∧ L ≤ to ∧ (L = ((E : Nat) : Int) ∨ L = to)) → ¬ (S = t.toNat ∧ ((E : Nat) : Int) = L) → (S < fr.toNat ∧ fr.toNat < E) ∨ (S < to.toNat ∧ to.toNat < E) := by
          intro L hq hne
          by_cases c : S < t.toNat
          · left
            have e2 : ¬ fr < t := fun z => cc z c
            omega
          · right; omega
        refine r_lstore C d_R_spanByMeter_108 (by decide) ?_
        refine r_iload C d_R_spanByMeter_110 rfl ?_
        refine r_iload C d_R_spanByMeter_112 rfl ?_
        refine r_icmp_ne (tgt := 134) C d_R_spanByMeter_114 (by decide) (fun q114 => ?_) (fun q114 => ?_)
        · refine r_aload_n (i0 := 0) C d_R_spanByMeter_134 rfl rfl ?_
          refine r_iload C d_R_spanByMeter_135 rfl ?_
          refine r_iload C d_R_spanByMeter_137 rfl ?_
          refine r_iload C d_R_spanByMeter_139 rfl ?_
          refine r_iload C d_R_spanByMeter_141 rfl ?_
          refine r_callVp C cl_R_199 im_R_weight rfl rfl (c_R_weight hx (by simp only [RSF_50]; exact hd) (by omega) (by omega)) rfl rfl d_R_spanByMeter_143 (by decide) (Nat.le_of_ble_eq_true rfl) ?_
          simp only [RSF_hs, RSF_vl, RSF_46, RSF_rd, RSF_43, RSF_44, RSF_50, RSF_56, RSF_40 h n wh up dn (show (30 : Nat) ≠ 32 by decide)]
          rw [show owF (h 50 0) ((S : Nat) : Int) ((E : Nat) : Int) ((S : Nat) : Int) ((E : Nat) : Int) = alN (h 50 0) S E from owF_N _ _ _ _ _]
          refine r_i2l C d_R_spanByMeter_146 ?_
          refine r_lstore C d_R_spanByMeter_147 (by decide) ?_
          refine r_lload C d_R_spanByMeter_149 rfl ?_
          refine r_lload C d_R_spanByMeter_151 rfl ?_
          refine r_lmul C d_R_spanByMeter_153 (by omega) ?_
          refine r_lload C d_R_spanByMeter_154 rfl ?_
          refine r_aload_n (i0 := 0) C d_R_spanByMeter_156 rfl rfl ?_
          refine r_iload C d_R_spanByMeter_157 rfl ?_
          refine r_iload C d_R_spanByMeter_159 rfl ?_
          refine r_iload C d_R_spanByMeter_161 rfl ?_
          refine r_iload C d_R_spanByMeter_163 rfl ?_
          refine r_callVp C cl_R_199 im_R_weight rfl rfl (c_R_weight hx (by simp only [RSF_50]; exact hd) (by omega) (by omega)) rfl rfl d_R_spanByMeter_165 (by decide) (Nat.le_of_ble_eq_true rfl) ?_
          simp only [RSF_hs, RSF_vl, RSF_46, RSF_rd, RSF_43, RSF_44, RSF_50, RSF_56, RSF_40 h n wh up dn (show (30 : Nat) ≠ 32 by decide)]
          rw [show owF (h 50 0) ((S : Nat) : Int) ((E : Nat) : Int) t L = muF (h 50 0) S E L.toNat - muF (h 50 0) S E t.toNat by rw [← owF_N, show ((t.toNat : Nat) : Int) = t by omega, show ((L.toNat : Nat) : Int) = L by omega]]
          refine r_i2l C d_R_spanByMeter_168 ?_
          refine r_lmul C d_R_spanByMeter_169 (by omega) ?_
          refine r_lload C d_R_spanByMeter_170 rfl ?_
          refine r_lmul C d_R_spanByMeter_172 (by omega) ?_
          refine r_ladd C d_R_spanByMeter_173 (by omega) ?_
          refine r_lstore C d_R_spanByMeter_174 (by decide) ?_
          refine r_lload C d_R_spanByMeter_176 rfl ?_
          refine r_lload C d_R_spanByMeter_178 rfl ?_
          refine r_lmul C d_R_spanByMeter_180 (by omega) ?_
          refine r_lstore C d_R_spanByMeter_181 (by decide) ?_
          refine r_iload C d_R_spanByMeter_183 rfl ?_
          refine r_istore C d_R_spanByMeter_185 (by decide) ?_
          refine r_goto (tgt := 12) C d_R_spanByMeter_187 (by decide) ?_
          first
            | (have eS : S = t.toNat := by omega
               have eE : E = L.toNat := by omega
               have I2 := sm_un (V := (VF k (h 43 0 f.toNat) (h 40 0 30) (h 56 0 f.toNat) (rdR h f.toNat))) hd HS (fr := fr.toNat) (W := W) (A := A) (Un := Un) (by rw [eS]; exact hI)
               exact AW.lvs [(14, _), (12, _), (10, _), (8, _), (0, _), (1, _), (2, _), (3, _), (4, _), (6, _)] ⟨rfl, rfl, rfl, rfl, rfl, rfl, rfl, rfl, rfl, rfl, trivial⟩ (ih (to - L).toNat (by omega) L (W + ((VF k (h 43 0 f.toNat) (h 40 0 30) (h 56 0 f.toNat) (rdR h f.toNat)) E - (VF k (h 43 0 f.toNat) (h 40 0 30) (h 56 0 f.toNat) (rdR h f.toNat)) S)) A Un (by omega) (by omega) rfl (by omega) (by omega) (by omega) (by rw [← eE]; exact I2) (fun z => by rw [if_pos (by omega)]; have y := hU1 (by omega); revert y; split <;> omega) (fun z1 z2 => by rw [← eE]; exact Or.inr HS.2.2.2.1)))
            | (have hal := hcut S E HS (cutc L hL2 (by omega))
               have I2 := sm_cut (V := (VF k (h 43 0 f.toNat) (h 40 0 30) (h 56 0 f.toNat) (rdR h f.toNat))) hd HS (fr := fr.toNat) (t := t.toNat) (L := L.toNat) (by omega) (by omega) (by omega) hal hI
               have al1 := al_pos hd HS.2.1 HS.2.2.1
               have u1 := Int.mul_le_mul (show 1 ≤ Un by omega) al1 (by omega) (by omega)
               have pn := Int.mul_nonneg (Int.mul_nonneg hu.1 mm.1) (show 0 ≤ Un by omega)
               have pa := Int.mul_nonneg hA (show 0 ≤ alN (h 50 0) S E by omega)
               exact AW.lvs [(14, _), (12, _), (10, _), (8, _), (0, _), (1, _), (2, _), (3, _), (4, _), (6, _)] ⟨rfl, rfl, rfl, rfl, rfl, rfl, rfl, rfl, rfl, rfl, trivial⟩ (ih (to - L).toNat (by omega) L W _ (Un * alN (h 50 0) S E) (by omega) (by omega) rfl (by omega) (by omega) ⟨by omega, ub2 hal⟩ I2 (fun z => by rw [if_pos (by omega)]; exact ub3 hal z (by omega)) (fun z1 z2 => by have : L.toNat = E := (by omega); rw [this]; exact Or.inr HS.2.2.2.1)))
        · refine r_iload C d_R_spanByMeter_117 rfl ?_
          refine r_iload C d_R_spanByMeter_119 rfl ?_
          refine r_icmp_ne (tgt := 134) C d_R_spanByMeter_121 (by decide) (fun q121 => ?_) (fun q121 => ?_)
          · refine r_aload_n (i0 := 0) C d_R_spanByMeter_134 rfl rfl ?_
            refine r_iload C d_R_spanByMeter_135 rfl ?_
            refine r_iload C d_R_spanByMeter_137 rfl ?_
            refine r_iload C d_R_spanByMeter_139 rfl ?_
            refine r_iload C d_R_spanByMeter_141 rfl ?_
            refine r_callVp C cl_R_199 im_R_weight rfl rfl (c_R_weight hx (by simp only [RSF_50]; exact hd) (by omega) (by omega)) rfl rfl d_R_spanByMeter_143 (by decide) (Nat.le_of_ble_eq_true rfl) ?_
            simp only [RSF_hs, RSF_vl, RSF_46, RSF_rd, RSF_43, RSF_44, RSF_50, RSF_56, RSF_40 h n wh up dn (show (30 : Nat) ≠ 32 by decide)]
            rw [show owF (h 50 0) ((S : Nat) : Int) ((E : Nat) : Int) ((S : Nat) : Int) ((E : Nat) : Int) = alN (h 50 0) S E from owF_N _ _ _ _ _]
            refine r_i2l C d_R_spanByMeter_146 ?_
            refine r_lstore C d_R_spanByMeter_147 (by decide) ?_
            refine r_lload C d_R_spanByMeter_149 rfl ?_
            refine r_lload C d_R_spanByMeter_151 rfl ?_
            refine r_lmul C d_R_spanByMeter_153 (by omega) ?_
            refine r_lload C d_R_spanByMeter_154 rfl ?_
            refine r_aload_n (i0 := 0) C d_R_spanByMeter_156 rfl rfl ?_
            refine r_iload C d_R_spanByMeter_157 rfl ?_
            refine r_iload C d_R_spanByMeter_159 rfl ?_
            refine r_iload C d_R_spanByMeter_161 rfl ?_
            refine r_iload C d_R_spanByMeter_163 rfl ?_
            refine r_callVp C cl_R_199 im_R_weight rfl rfl (c_R_weight hx (by simp only [RSF_50]; exact hd) (by omega) (by omega)) rfl rfl d_R_spanByMeter_165 (by decide) (Nat.le_of_ble_eq_true rfl) ?_
            simp only [RSF_hs, RSF_vl, RSF_46, RSF_rd, RSF_43, RSF_44, RSF_50, RSF_56, RSF_40 h n wh up dn (show (30 : Nat) ≠ 32 by decide)]
            rw [show owF (h 50 0) ((S : Nat) : Int) ((E : Nat) : Int) t L = muF (h 50 0) S E L.toNat - muF (h 50 0) S E t.toNat by rw [← owF_N, show ((t.toNat : Nat) : Int) = t by omega, show ((L.toNat : Nat) : Int) = L by omega]]
            refine r_i2l C d_R_spanByMeter_168 ?_
            refine r_lmul C d_R_spanByMeter_169 (by omega) ?_
            refine r_lload C d_R_spanByMeter_170 rfl ?_
            refine r_lmul C d_R_spanByMeter_172 (by omega) ?_
            refine r_ladd C d_R_spanByMeter_173 (by omega) ?_
            refine r_lstore C d_R_spanByMeter_174 (by decide) ?_
            refine r_lload C d_R_spanByMeter_176 rfl ?_
            refine r_lload C d_R_spanByMeter_178 rfl ?_
            refine r_lmul C d_R_spanByMeter_180 (by omega) ?_
            refine r_lstore C d_R_spanByMeter_181 (by decide) ?_
            refine r_iload C d_R_spanByMeter_183 rfl ?_
            refine r_istore C d_R_spanByMeter_185 (by decide) ?_
            refine r_goto (tgt := 12) C d_R_spanByMeter_187 (by decide) ?_
            first
              | (have eS : S = t.toNat := by omega
                 have eE : E = L.toNat := by omega
                 have I2 := sm_un (V := (VF k (h 43 0 f.toNat) (h 40 0 30) (h 56 0 f.toNat) (rdR h f.toNat))) hd HS (fr := fr.toNat) (W := W) (A := A) (Un := Un) (by rw [eS]; exact hI)
                 exact AW.lvs [(14, _), (12, _), (10, _), (8, _), (0, _), (1, _), (2, _), (3, _), (4, _), (6, _)] ⟨rfl, rfl, rfl, rfl, rfl, rfl, rfl, rfl, rfl, rfl, trivial⟩ (ih (to - L).toNat (by omega) L (W + ((VF k (h 43 0 f.toNat) (h 40 0 30) (h 56 0 f.toNat) (rdR h f.toNat)) E - (VF k (h 43 0 f.toNat) (h 40 0 30) (h 56 0 f.toNat) (rdR h f.toNat)) S)) A Un (by omega) (by omega) rfl (by omega) (by omega) (by omega) (by rw [← eE]; exact I2) (fun z => by rw [if_pos (by omega)]; have y := hU1 (by omega); revert y; split <;> omega) (fun z1 z2 => by rw [← eE]; exact Or.inr HS.2.2.2.1)))
              | (have hal := hcut S E HS (cutc L hL2 (by omega))
                 have I2 := sm_cut (V := (VF k (h 43 0 f.toNat) (h 40 0 30) (h 56 0 f.toNat) (rdR h f.toNat))) hd HS (fr := fr.toNat) (t := t.toNat) (L := L.toNat) (by omega) (by omega) (by omega) hal hI
                 have al1 := al_pos hd HS.2.1 HS.2.2.1
                 have u1 := Int.mul_le_mul (show 1 ≤ Un by omega) al1 (by omega) (by omega)
                 have pn := Int.mul_nonneg (Int.mul_nonneg hu.1 mm.1) (show 0 ≤ Un by omega)
                 have pa := Int.mul_nonneg hA (show 0 ≤ alN (h 50 0) S E by omega)
                 exact AW.lvs [(14, _), (12, _), (10, _), (8, _), (0, _), (1, _), (2, _), (3, _), (4, _), (6, _)] ⟨rfl, rfl, rfl, rfl, rfl, rfl, rfl, rfl, rfl, rfl, trivial⟩ (ih (to - L).toNat (by omega) L W _ (Un * alN (h 50 0) S E) (by omega) (by omega) rfl (by omega) (by omega) ⟨by omega, ub2 hal⟩ I2 (fun z => by rw [if_pos (by omega)]; exact ub3 hal z (by omega)) (fun z1 z2 => by have : L.toNat = E := (by omega); rw [this]; exact Or.inr HS.2.2.2.1)))
          · refine r_lload C d_R_spanByMeter_124 rfl ?_
            refine r_lload C d_R_spanByMeter_126 rfl ?_
            refine r_ladd C d_R_spanByMeter_128 (by omega) ?_
            refine r_lstore C d_R_spanByMeter_129 (by decide) ?_
            refine r_goto (tgt := 183) C d_R_spanByMeter_131 (by decide) ?_
            refine r_iload C d_R_spanByMeter_183 rfl ?_
            refine r_istore C d_R_spanByMeter_185 (by decide) ?_
            refine r_goto (tgt := 12) C d_R_spanByMeter_187 (by decide) ?_
            first
              | (have eS : S = t.toNat := by omega
                 have eE : E = L.toNat := by omega
                 have I2 := sm_un (V := (VF k (h 43 0 f.toNat) (h 40 0 30) (h 56 0 f.toNat) (rdR h f.toNat))) hd HS (fr := fr.toNat) (W := W) (A := A) (Un := Un) (by rw [eS]; exact hI)
                 exact AW.lvs [(14, _), (12, _), (10, _), (8, _), (0, _), (1, _), (2, _), (3, _), (4, _), (6, _)] ⟨rfl, rfl, rfl, rfl, rfl, rfl, rfl, rfl, rfl, rfl, trivial⟩ (ih (to - L).toNat (by omega) L (W + ((VF k (h 43 0 f.toNat) (h 40 0 30) (h 56 0 f.toNat) (rdR h f.toNat)) E - (VF k (h 43 0 f.toNat) (h 40 0 30) (h 56 0 f.toNat) (rdR h f.toNat)) S)) A Un (by omega) (by omega) rfl (by omega) (by omega) (by omega) (by rw [← eE]; exact I2) (fun z => by rw [if_pos (by omega)]; have y := hU1 (by omega); revert y; split <;> omega) (fun z1 z2 => by rw [← eE]; exact Or.inr HS.2.2.2.1)))
              | (have hal := hcut S E HS (cutc L hL2 (by omega))
                 have I2 := sm_cut (V := (VF k (h 43 0 f.toNat) (h 40 0 30) (h 56 0 f.toNat) (rdR h f.toNat))) hd HS (fr := fr.toNat) (t := t.toNat) (L := L.toNat) (by omega) (by omega) (by omega) hal hI
                 have al1 := al_pos hd HS.2.1 HS.2.2.1
                 have u1 := Int.mul_le_mul (show 1 ≤ Un by omega) al1 (by omega) (by omega)
                 have pn := Int.mul_nonneg (Int.mul_nonneg hu.1 mm.1) (show 0 ≤ Un by omega)
                 have pa := Int.mul_nonneg hA (show 0 ≤ alN (h 50 0) S E by omega)
                 exact AW.lvs [(14, _), (12, _), (10, _), (8, _), (0, _), (1, _), (2, _), (3, _), (4, _), (6, _)] ⟨rfl, rfl, rfl, rfl, rfl, rfl, rfl, rfl, rfl, rfl, trivial⟩ (ih (to - L).toNat (by omega) L W _ (Un * alN (h 50 0) S E) (by omega) (by omega) rfl (by omega) (by omega) ⟨by omega, ub2 hal⟩ I2 (fun z => by rw [if_pos (by omega)]; exact ub3 hal z (by omega)) (fun z1 z2 => by have : L.toNat = E := (by omega); rw [this]; exact Or.inr HS.2.2.2.1)))
      refine r_aload_n (i0 := 0) C d_R_spanByMeter_18 rfl rfl ?_
      refine r_iload_n (i0 := 1) C d_R_spanByMeter_19 rfl rfl ?_
      refine r_iload C d_R_spanByMeter_20 rfl ?_
      refine r_iconst C d_R_spanByMeter_22 (by decide) ?_
      refine r_callVp C cl_R_195 im_R_stretchOf rfl rfl (c_R_stretchOf hx (k := k) hf (by omega) (by omega) (by rw [RSF_rd]; exact hk) (by rw [RSF_rd]; exact hr)) rfl rfl d_R_spanByMeter_23 (by decide) (Nat.le_of_ble_eq_true rfl) ?_
      simp only [RSF_hs, RSF_vl, RSF_46, RSF_rd, RSF_43, RSF_44, RSF_50, RSF_56, RSF_40 h n wh up dn (show (30 : Nat) ≠ 32 by decide)]
      rw [if_neg (by omega), hSd]
      refine r_istore C d_R_spanByMeter_26 (by decide) ?_
      refine r_aload_n (i0 := 0) C d_R_spanByMeter_28 rfl rfl ?_
      refine r_iload_n (i0 := 1) C d_R_spanByMeter_29 rfl rfl ?_
      refine r_iload C d_R_spanByMeter_30 rfl ?_
      refine r_iconst C d_R_spanByMeter_32 (by decide) ?_
      refine r_callVp C cl_R_195 im_R_stretchOf rfl rfl (c_R_stretchOf hx (k := k) hf (by omega) (by omega) (by rw [RSF_rd]; exact hk) (by rw [RSF_rd]; exact hr)) rfl rfl d_R_spanByMeter_33 (by decide) (Nat.le_of_ble_eq_true rfl) ?_
      simp only [RSF_hs, RSF_vl, RSF_46, RSF_rd, RSF_43, RSF_44, RSF_50, RSF_56, RSF_40 h n wh up dn (show (30 : Nat) ≠ 32 by decide)]
      rw [if_pos trivial, hEd]
      refine r_istore C d_R_spanByMeter_36 (by decide) ?_
      refine r_iload C d_R_spanByMeter_38 rfl ?_
      refine r_iload_n (i0 := 3) C d_R_spanByMeter_40 rfl rfl ?_
      refine r_icmp_ge (tgt := 49) C d_R_spanByMeter_41 (by decide) (fun q41 => ?_) (fun q41 => ?_)
      · refine r_iload_n (i0 := 3) C d_R_spanByMeter_49 rfl rfl ?_
        refine r_istore C d_R_spanByMeter_50 (by decide) ?_
        refine r_aload_n (i0 := 0) C d_R_spanByMeter_52 rfl rfl ?_
        refine r_iload_n (i0 := 1) C d_R_spanByMeter_53 rfl rfl ?_
        refine r_callVp C cl_R_128 im_R_isRead rfl rfl (c_R_isRead hx hf (by rw [RSF_rd]; exact hr)) rfl rfl d_R_spanByMeter_54 (by decide) (Nat.le_of_ble_eq_true rfl) ?_
        simp only [RSF_hs, RSF_vl, RSF_46, RSF_rd, RSF_43, RSF_44, RSF_50, RSF_56, RSF_40 h n wh up dn (show (30 : Nat) ≠ 32 by decide)]
        refine r_if_eq (tgt := 102) C d_R_spanByMeter_57 (by decide) (fun q57 => ?_) (fun q57 => ?_)
        · refine r_aload_n (i0 := 0) C d_R_spanByMeter_102 rfl rfl ?_
          refine r_getO C fl_R_65 d_R_spanByMeter_103 rfl rfl (fun hi => hi) ?_
          refine r_iload_n (i0 := 1) C d_R_spanByMeter_106 rfl rfl ?_
          refine r_laload (ln := 6) C d_R_spanByMeter_107 rfl (fun _ => rfl) rfl (by omega) ?_
          simp only [RSF_hs, RSF_vl, RSF_46, RSF_rd, RSF_43, RSF_44, RSF_50, RSF_56, RSF_40 h n wh up dn (show (30 : Nat) ≠ 32 by decide)]
          refine AW.lvs [(17, _), (16, _), (15, _), (14, _), (12, _), (10, _), (8, _), (0, _), (1, _), (2, _), (3, _), (4, _), (6, _)] ⟨rfl, rfl, rfl, rfl, rfl, rfl, rfl, rfl, rfl, rfl, rfl, rfl, rfl, trivial⟩ (j108 _ _ ?_ ?_)
          · rw [← suS_V k _ _ _ _ HS]
            unfold suS
            first
              | (rw [if_pos (hk.mpr (by have := rdI_01 (rdR h f.toNat); omega))]; simp only [Int.toNat_natCast]; ac_rfl)
              | (rw [if_neg (fun z => by have := hk.mp z; omega)])
          · first | (rw [if_pos (by omega)]; done) | (rw [if_neg (by omega)]; done)
        · refine r_aload_n (i0 := 0) C d_R_spanByMeter_60 rfl rfl ?_
          refine r_getL C fl_R_150 d_R_spanByMeter_61 rfl ?_
          simp only [RSF_hs, RSF_vl, RSF_46, RSF_rd, RSF_43, RSF_44, RSF_50, RSF_56, RSF_40 h n wh up dn (show (30 : Nat) ≠ 32 by decide)]
          refine r_aload_n (i0 := 0) C d_R_spanByMeter_64 rfl rfl ?_
          refine r_getO C fl_R_16 d_R_spanByMeter_65 rfl rfl (fun hi => hi) ?_
          refine r_iload_n (i0 := 1) C d_R_spanByMeter_68 rfl rfl ?_
          refine r_iaload (ln := 6) C d_R_spanByMeter_69 rfl (fun _ => rfl) rfl (by omega) ?_
          simp only [RSF_hs, RSF_vl, RSF_46, RSF_rd, RSF_43, RSF_44, RSF_50, RSF_56, RSF_40 h n wh up dn (show (30 : Nat) ≠ 32 by decide)]
          refine r_i2l C d_R_spanByMeter_70 ?_
          refine r_lmul C d_R_spanByMeter_71 (by have := mulN (A := 360000) (B := 2) (a := (h 40 0 30)) (b := (h 43 0 f.toNat)) hbe hfc; omega) ?_
          refine r_aload_n (i0 := 0) C d_R_spanByMeter_72 rfl rfl ?_
          refine r_getO C fl_R_19 d_R_spanByMeter_73 rfl rfl (fun hi => hi) ?_
          refine r_bipush C d_R_spanByMeter_76 (by decide) (by decide) ?_
          refine r_iload_n (i0 := 1) C d_R_spanByMeter_78 rfl rfl ?_
          refine r_imul C d_R_spanByMeter_79 (by omega) ?_
          refine r_iload C d_R_spanByMeter_80 rfl ?_
          refine r_iadd C d_R_spanByMeter_82 (by omega) ?_
          refine r_iaload (ln := 78) C d_R_spanByMeter_83 rfl (fun _ => rfl) rfl (by omega) ?_
          rw [rdR_ix (RSF h n wh up dn) hf.1 (show 0 ≤ ((E : Nat) : Int) by omega)]
          simp only [RSF_hs, RSF_vl, RSF_46, RSF_rd, RSF_43, RSF_44, RSF_50, RSF_56, RSF_40 h n wh up dn (show (30 : Nat) ≠ 32 by decide)]
          refine r_aload_n (i0 := 0) C d_R_spanByMeter_84 rfl rfl ?_
          refine r_getO C fl_R_19 d_R_spanByMeter_85 rfl rfl (fun hi => hi) ?_
          refine r_bipush C d_R_spanByMeter_88 (by decide) (by decide) ?_
          refine r_iload_n (i0 := 1) C d_R_spanByMeter_90 rfl rfl ?_
          refine r_imul C d_R_spanByMeter_91 (by omega) ?_
          refine r_iload C d_R_spanByMeter_92 rfl ?_
          refine r_iadd C d_R_spanByMeter_94 (by omega) ?_
          refine r_iaload (ln := 78) C d_R_spanByMeter_95 rfl (fun _ => rfl) rfl (by omega) ?_
          rw [rdR_ix (RSF h n wh up dn) hf.1 (show 0 ≤ ((S : Nat) : Int) by omega)]
          simp only [RSF_hs, RSF_vl, RSF_46, RSF_rd, RSF_43, RSF_44, RSF_50, RSF_56, RSF_40 h n wh up dn (show (30 : Nat) ≠ 32 by decide)]
          refine r_isub C d_R_spanByMeter_96 (by have r1 := hr E (by omega); have r2 := hr S (by omega); simp only [Int.toNat_natCast]; omega) ?_
          refine r_i2l C d_R_spanByMeter_97 ?_
          refine r_lmul C d_R_spanByMeter_98 (by have r1 := hr E (by omega); have r2 := hr S (by omega); have m1 := mulN (A := 360000) (B := 2) (a := (h 40 0 30)) (b := (h 43 0 f.toNat)) hbe hfc; have m2 := mulB (A := 720000) (B := 100) (a := (h 40 0 30) * (h 43 0 f.toNat)) (b := (rdR h f.toNat) E - (rdR h f.toNat) S) (by omega) (by omega); simp only [Int.toNat_natCast]; omega) ?_
          refine r_goto (tgt := 108) C d_R_spanByMeter_99 (by decide) ?_
          refine AW.lvs [(17, _), (16, _), (15, _), (14, _), (12, _), (10, _), (8, _), (0, _), (1, _), (2, _), (3, _), (4, _), (6, _)] ⟨rfl, rfl, rfl, rfl, rfl, rfl, rfl, rfl, rfl, rfl, rfl, rfl, rfl, trivial⟩ (j108 _ _ ?_ ?_)
          · rw [← suS_V k _ _ _ _ HS]
            unfold suS
            first
              | (rw [if_pos (hk.mpr (by have := rdI_01 (rdR h f.toNat); omega))]; simp only [Int.toNat_natCast]; ac_rfl)
              | (rw [if_neg (fun z => by have := hk.mp z; omega)])
          · first | (rw [if_pos (by omega)]; done) | (rw [if_neg (by omega)]; done)
      · refine r_iload C d_R_spanByMeter_44 rfl ?_
        refine r_goto (tgt := 50) C d_R_spanByMeter_46 (by decide) ?_
        refine r_istore C d_R_spanByMeter_50 (by decide) ?_
        refine r_aload_n (i0 := 0) C d_R_spanByMeter_52 rfl rfl ?_
        refine r_iload_n (i0 := 1) C d_R_spanByMeter_53 rfl rfl ?_
        refine r_callVp C cl_R_128 im_R_isRead rfl rfl (c_R_isRead hx hf (by rw [RSF_rd]; exact hr)) rfl rfl d_R_spanByMeter_54 (by decide) (Nat.le_of_ble_eq_true rfl) ?_
        simp only [RSF_hs, RSF_vl, RSF_46, RSF_rd, RSF_43, RSF_44, RSF_50, RSF_56, RSF_40 h n wh up dn (show (30 : Nat) ≠ 32 by decide)]
        refine r_if_eq (tgt := 102) C d_R_spanByMeter_57 (by decide) (fun q57 => ?_) (fun q57 => ?_)
        · refine r_aload_n (i0 := 0) C d_R_spanByMeter_102 rfl rfl ?_
          refine r_getO C fl_R_65 d_R_spanByMeter_103 rfl rfl (fun hi => hi) ?_
          refine r_iload_n (i0 := 1) C d_R_spanByMeter_106 rfl rfl ?_
          refine r_laload (ln := 6) C d_R_spanByMeter_107 rfl (fun _ => rfl) rfl (by omega) ?_
          simp only [RSF_hs, RSF_vl, RSF_46, RSF_rd, RSF_43, RSF_44, RSF_50, RSF_56, RSF_40 h n wh up dn (show (30 : Nat) ≠ 32 by decide)]
          refine AW.lvs [(17, _), (16, _), (15, _), (14, _), (12, _), (10, _), (8, _), (0, _), (1, _), (2, _), (3, _), (4, _), (6, _)] ⟨rfl, rfl, rfl, rfl, rfl, rfl, rfl, rfl, rfl, rfl, rfl, rfl, rfl, trivial⟩ (j108 _ _ ?_ ?_)
          · rw [← suS_V k _ _ _ _ HS]
            unfold suS
            first
              | (rw [if_pos (hk.mpr (by have := rdI_01 (rdR h f.toNat); omega))]; simp only [Int.toNat_natCast]; ac_rfl)
              | (rw [if_neg (fun z => by have := hk.mp z; omega)])
          · first | (rw [if_pos (by omega)]; done) | (rw [if_neg (by omega)]; done)
        · refine r_aload_n (i0 := 0) C d_R_spanByMeter_60 rfl rfl ?_
          refine r_getL C fl_R_150 d_R_spanByMeter_61 rfl ?_
          simp only [RSF_hs, RSF_vl, RSF_46, RSF_rd, RSF_43, RSF_44, RSF_50, RSF_56, RSF_40 h n wh up dn (show (30 : Nat) ≠ 32 by decide)]
          refine r_aload_n (i0 := 0) C d_R_spanByMeter_64 rfl rfl ?_
          refine r_getO C fl_R_16 d_R_spanByMeter_65 rfl rfl (fun hi => hi) ?_
          refine r_iload_n (i0 := 1) C d_R_spanByMeter_68 rfl rfl ?_
          refine r_iaload (ln := 6) C d_R_spanByMeter_69 rfl (fun _ => rfl) rfl (by omega) ?_
          simp only [RSF_hs, RSF_vl, RSF_46, RSF_rd, RSF_43, RSF_44, RSF_50, RSF_56, RSF_40 h n wh up dn (show (30 : Nat) ≠ 32 by decide)]
          refine r_i2l C d_R_spanByMeter_70 ?_
          refine r_lmul C d_R_spanByMeter_71 (by have := mulN (A := 360000) (B := 2) (a := (h 40 0 30)) (b := (h 43 0 f.toNat)) hbe hfc; omega) ?_
          refine r_aload_n (i0 := 0) C d_R_spanByMeter_72 rfl rfl ?_
          refine r_getO C fl_R_19 d_R_spanByMeter_73 rfl rfl (fun hi => hi) ?_
          refine r_bipush C d_R_spanByMeter_76 (by decide) (by decide) ?_
          refine r_iload_n (i0 := 1) C d_R_spanByMeter_78 rfl rfl ?_
          refine r_imul C d_R_spanByMeter_79 (by omega) ?_
          refine r_iload C d_R_spanByMeter_80 rfl ?_
          refine r_iadd C d_R_spanByMeter_82 (by omega) ?_
          refine r_iaload (ln := 78) C d_R_spanByMeter_83 rfl (fun _ => rfl) rfl (by omega) ?_
          rw [rdR_ix (RSF h n wh up dn) hf.1 (show 0 ≤ ((E : Nat) : Int) by omega)]
          simp only [RSF_hs, RSF_vl, RSF_46, RSF_rd, RSF_43, RSF_44, RSF_50, RSF_56, RSF_40 h n wh up dn (show (30 : Nat) ≠ 32 by decide)]
          refine r_aload_n (i0 := 0) C d_R_spanByMeter_84 rfl rfl ?_
          refine r_getO C fl_R_19 d_R_spanByMeter_85 rfl rfl (fun hi => hi) ?_
          refine r_bipush C d_R_spanByMeter_88 (by decide) (by decide) ?_
          refine r_iload_n (i0 := 1) C d_R_spanByMeter_90 rfl rfl ?_
          refine r_imul C d_R_spanByMeter_91 (by omega) ?_
          refine r_iload C d_R_spanByMeter_92 rfl ?_
          refine r_iadd C d_R_spanByMeter_94 (by omega) ?_
          refine r_iaload (ln := 78) C d_R_spanByMeter_95 rfl (fun _ => rfl) rfl (by omega) ?_
          rw [rdR_ix (RSF h n wh up dn) hf.1 (show 0 ≤ ((S : Nat) : Int) by omega)]
          simp only [RSF_hs, RSF_vl, RSF_46, RSF_rd, RSF_43, RSF_44, RSF_50, RSF_56, RSF_40 h n wh up dn (show (30 : Nat) ≠ 32 by decide)]
          refine r_isub C d_R_spanByMeter_96 (by have r1 := hr E (by omega); have r2 := hr S (by omega); simp only [Int.toNat_natCast]; omega) ?_
          refine r_i2l C d_R_spanByMeter_97 ?_
          refine r_lmul C d_R_spanByMeter_98 (by have r1 := hr E (by omega); have r2 := hr S (by omega); have m1 := mulN (A := 360000) (B := 2) (a := (h 40 0 30)) (b := (h 43 0 f.toNat)) hbe hfc; have m2 := mulB (A := 720000) (B := 100) (a := (h 40 0 30) * (h 43 0 f.toNat)) (b := (rdR h f.toNat) E - (rdR h f.toNat) S) (by omega) (by omega); simp only [Int.toNat_natCast]; omega) ?_
          refine r_goto (tgt := 108) C d_R_spanByMeter_99 (by decide) ?_
          refine AW.lvs [(17, _), (16, _), (15, _), (14, _), (12, _), (10, _), (8, _), (0, _), (1, _), (2, _), (3, _), (4, _), (6, _)] ⟨rfl, rfl, rfl, rfl, rfl, rfl, rfl, rfl, rfl, rfl, rfl, rfl, rfl, trivial⟩ (j108 _ _ ?_ ?_)
          · rw [← suS_V k _ _ _ _ HS]
            unfold suS
            first
              | (rw [if_pos (hk.mpr (by have := rdI_01 (rdR h f.toNat); omega))]; simp only [Int.toNat_natCast]; ac_rfl)
              | (rw [if_neg (fun z => by have := hk.mp z; omega)])
          · first | (rw [if_pos (by omega)]; done) | (rw [if_neg (by omega)]; done)
  refine r_lconst C 0 d_R_spanByMeter_0 (by decide) (by decide) ?_
  refine r_lstore C d_R_spanByMeter_1 (by decide) ?_
  refine r_lconst C 0 d_R_spanByMeter_3 (by decide) (by decide) ?_
  refine r_lstore C d_R_spanByMeter_4 (by decide) ?_
  refine r_lconst C 1 d_R_spanByMeter_6 (by decide) (by decide) ?_
  refine r_lstore C d_R_spanByMeter_7 (by decide) ?_
  refine r_iload_n (i0 := 2) C d_R_spanByMeter_9 rfl rfl ?_
  refine r_istore C d_R_spanByMeter_10 (by decide) ?_
  exact AW.lvs [(14, _), (12, _), (10, _), (8, _), (0, _), (1, _), (2, _), (3, _), (4, _), (6, _)] ⟨rfl, rfl, rfl, rfl, rfl, rfl, rfl, rfl, rfl, rfl, trivial⟩ (loop _ fr 0 0 1 (by omega) (by omega) rfl (by omega) (by omega) (by omega) (by rw [Int.sub_self]; rfl) (fun _ => by split <;> omega) (fun z => by omega))

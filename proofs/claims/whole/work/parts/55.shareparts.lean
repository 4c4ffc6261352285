/-! Contracts: shareParts. -/
/-- outside of what sharing writes -/
def Fr (g h : AH) : Prop := ∀ t : Nat, (t < 18 ∨ 22 < t) → t ≠ 25 → g t = h t
theorem Fr.tr {a b c : AH} (h1 : Fr a b) (h2 : Fr b c) : Fr a c := fun t e1 e2 => (h1 t e1 e2).trans (h2 t e1 e2)
theorem Fr.sp {g h : AH} (F : Fr g h) (H : SPok h) : SPok g := by
  unfold SPok at *
  rw [F 13 (by omega) (by omega), F 14 (by omega) (by omega), F 15 (by omega) (by omega), F 16 (by omega) (by omega), F 17 (by omega) (by omega), F 2 (by omega) (by omega)]
  exact H
theorem Fr.wa {g h : AH} (F : Fr g h) (q : Nat) : waF g q = waF h q := by
  funext j; unfold waF
  rw [F 4 (by omega) (by omega), F 14 (by omega) (by omega), F 15 (by omega) (by omega), F 16 (by omega) (by omega)]
theorem Fr.st {g h : AH} (F : Fr g h) (s t : Nat) : stH g s t = stH h s t := by
  unfold stH
  rw [F 4 (by omega) (by omega), F 5 (by omega) (by omega), F 10 (by omega) (by omega), F 11 (by omega) (by omega), F 12 (by omega) (by omega), F 14 (by omega) (by omega), F 15 (by omega) (by omega), F 16 (by omega) (by omega), F 29 (by omega) (by omega)]
theorem Fr.ok {g h : AH} (F : Fr g h) (H : stOK h) : stOK g := by
  intro s hs t ht
  rw [F 13 (by omega) (by omega)] at hs
  have z := H s hs t ht
  rw [F.st s t, F 4 (by omega) (by omega), F 5 (by omega) (by omega), F 10 (by omega) (by omega), F 11 (by omega) (by omega), F 12 (by omega) (by omega), F 14 (by omega) (by omega)]
  exact z
theorem Fr.fi {g h : AH} (F : Fr g h) (H : FIc h) : FIc g := by
  unfold FIc cAr cFc cKn cRd at *
  rw [F 4 (by omega) (by omega), F 5 (by omega) (by omega)]
  exact H
/-- the weights as values -/
def SPV (n : Nat) (p D : Int) (N : Nat → Int) (A : Int) (wt dv : Nat → Int) : Prop := (1 ≤ n ∧ n ≤ 72) ∧ (0 ≤ p ∧ p ≤ 260000) ∧ 0 < D ∧ (1 ≤ A ∧ A ≤ 432000000) ∧ ∀ s : Nat, s < n → (0 ≤ wt s ∧ wt s ≤ 720000000000) ∧ (1 ≤ dv s ∧ dv s ≤ 10000) ∧ wt s ≤ A * dv s ∧ p * wt s * D = N s * (A * dv s)
def WGo (g : AH) (n : Nat) (A : Int) (wt dv : Nat → Int) : Prop := g 18 0 4 = A ∧ ∀ s : Nat, s < n → g 20 0 s = wt s ∧ g 21 0 s = dv s
theorem SPV.spl {n : Nat} {p D : Int} {N : Nat → Int} {A : Int} {wt dv : Nat → Int} (H : SPV n p D N A wt dv) {g : AH} (W : WGo g n A wt dv) : SPL g n p D N := by
  obtain ⟨h1, h2, h3, h4, h5⟩ := H
  refine ⟨h1, h2, h3, by rw [W.1]; exact h4, fun s hs => ?_⟩
  rw [W.1, (W.2 s hs).1, (W.2 s hs).2]
  exact h5 s hs
theorem WG_o (h : AH) (n : Nat) (wt dv : Nat → Int) (A : Int) : WGo (WG h n wt dv A) n A wt dv := ⟨WG_A _ _ _ _ _, fun s hs => ⟨WG_w _ _ _ _ hs, WG_d _ _ _ _ hs⟩⟩
theorem WG_Fr (h : AH) (n : Nat) (wt dv : Nat → Int) (A : Int) : Fr (WG h n wt dv A) h := fun t e1 e2 => WG_fr _ _ _ _ _ (by omega)
theorem WG_25 (h : AH) (n : Nat) (wt dv : Nat → Int) (A : Int) : WG h n wt dv A 25 = h 25 := WG_fr _ _ _ _ _ (by decide)
theorem CO_Fr (h : AH) (n : Nat) : Fr (CO h n) h := fun t e1 e2 => CO_fr _ _ e2
theorem ac_Fr {g h : AH} (p : ∀ t : Nat, t ≠ 19 → t ≠ 22 → t ≠ 25 → g t = h t) : Fr g h := fun t e1 e2 => p t (by omega) (by omega) e2
theorem WGo.keep {g h : AH} {n : Nat} {A : Int} {wt dv : Nat → Int} (W : WGo h n A wt dv) (p : ∀ t : Nat, t ≠ 19 → t ≠ 22 → t ≠ 25 → g t = h t) : WGo g n A wt dv := by
  unfold WGo at *
  rw [p 18 (by decide) (by decide) (by decide), p 20 (by decide) (by decide) (by decide), p 21 (by decide) (by decide) (by decide)]
  exact W
set_option maxHeartbeats 1000000 in
theorem c_H_shareParts {l : Launch} (hl : l.stackTraces = false) {w : XW} {h : AH} {b D0 D1 D2 : Int} {N0 N1 N2 : Nat → Int} (hb : b = 0 ∨ b = 1) (hc : 0 ≤ h 2 0 1 ∧ h 2 0 1 ≤ 6) (hF : FIc h) (hwa : ∀ f : Nat, f < 6 → 0 ≤ h 4 f 1 ∧ h 4 f 1 ≤ 50) (hS : SPok h) (hM : b = 1 → (1 ≤ h 10 0 2 ∧ h 10 0 2 ≤ 360000) ∧ stOK h) (hd : ∀ k : Nat, k < 12 → 0 ≤ h 29 0 k ∧ h 29 0 k ≤ 100) (q0 : SPV (h 13 0 4).toNat (h 30 0 3) D0 N0 (sumF (h 13 0 4).toNat (waF h 0)) (waF h 0) (fun _ => 1)) (q1a : b = 0 → SPV (h 13 0 4).toNat (h 30 0 4) D1 N1 (sumF (h 13 0 4).toNat (waF h 0)) (waF h 0) (fun _ => 1)) (q2a : anyF (h 2 0 1).toNat (fun f => decide (0 < h 4 f 1)) = false → SPV (h 13 0 4).toNat (h 30 0 2) D2 N2 (sumF (h 13 0 4).toNat (waF h 0)) (waF h 0) (fun _ => 1)) (q2b : anyF (h 2 0 1).toNat (fun f => decide (0 < h 4 f 1)) = true → SPV (h 13 0 4).toNat (h 30 0 2) D2 N2 (sumF (h 13 0 4).toNat (waF h 1)) (waF h 1) (fun _ => 1)) (q1b : b = 1 → SPV (h 13 0 4).toNat (h 30 0 4) D1 N1 (h 10 0 3) (fun s => (stH h s 12).2.1) (fun s => (stH h s 12).2.2)) : AM l y_H_shareParts (wsM y_H_shareParts b_H_shareParts 2 none []) false (rmV 3 0) w [vO 1 0, vI b] h (RetP none (fun h' => Fr h' h ∧ (∀ j : Nat, j < 21 → h' 25 0 j = acF (h 13 0 4).toNat (gvN (h 13 0 4).toNat (h 30 0 3) D0 N0) (h 17 0) j) ∧ (∀ j : Nat, j < 21 → h' 25 1 j = acF (h 13 0 4).toNat (gvN (h 13 0 4).toNat (h 30 0 4) D1 N1) (h 17 0) j) ∧ (∀ j : Nat, j < 21 → h' 25 2 j = acF (h 13 0 4).toNat (gvN (h 13 0 4).toNat (h 30 0 2) D2 N2) (h 17 0) j))) := by
  refine AM.of hl (by decide +kernel) (Nat.le_of_ble_eq_true rfl) fun x hx C _ => ?_
  have j73 : ∀ g : AH, Fr g h → SPL g (h 13 0 4).toNat (h 30 0 2) D2 N2 → (∀ j : Nat, j < 21 → g 25 0 j = acF (h 13 0 4).toNat (gvN (h 13 0 4).toNat (h 30 0 3) D0 N0) (h 17 0) j) → (b = 0 → ∀ j : Nat, j < 21 → g 25 1 j = acF (h 13 0 4).toNat (gvN (h 13 0 4).toNat (h 30 0 4) D1 N1) (h 17 0) j) → (b = 1 → ∀ j : Nat, j < 21 → g 25 1 j = 0) → (∀ j : Nat, j < 21 → g 25 2 j = 0) → AW x w 2 false 0 0 (AQ x w false 0 0 (RetP none (fun h' => Fr h' h ∧ (∀ j : Nat, j < 21 → h' 25 0 j = acF (h 13 0 4).toNat (gvN (h 13 0 4).toNat (h 30 0 3) D0 N0) (h 17 0) j) ∧ (∀ j : Nat, j < 21 → h' 25 1 j = acF (h 13 0 4).toNat (gvN (h 13 0 4).toNat (h 30 0 4) D1 N1) (h 17 0) j) ∧ (∀ j : Nat, j < 21 → h' 25 2 j = acF (h 13 0 4).toNat (gvN (h 13 0 4).toNat (h 30 0 2) D2 N2) (h 17 0) j)))) 73 [(0, vO 1 0), (1, vI b)] [] g := by
    intro g F sq o0 o1a o1b o2
    refine r_aload_n (i0 := 0) C d_H_shareParts_73 rfl rfl ?_
    refine r_aload_n (i0 := 0) C d_H_shareParts_74 rfl rfl ?_
    refine r_getO C fl_H_55 d_H_shareParts_75 rfl rfl (fun hi => hi) ?_
    refine r_iconst C d_H_shareParts_78 (by decide) ?_
    refine r_iaload (ln := 5) C d_H_shareParts_79 rfl (fun _ => rfl) rfl (by omega) ?_
    rw [F 30 (by omega) (by omega)]
    refine r_iconst C d_H_shareParts_80 (by decide) ?_
    refine r_callVw C cl_H_281 im_H_sharePart rfl rfl (c_H_sharePart hx (a := 2) (D := D2) (N := N2) (F.sp hS) (by omega) (by rw [F 13 (by omega) (by omega)]; exact sq) o2) rfl rfl d_H_shareParts_81 (by decide) (by decide) (Nat.le_of_ble_eq_true rfl) (fun h81 p81 => ?_)
    have F81 : Fr h81 h := (ac_Fr p81.1).tr F
    refine r_iload_n (i0 := 1) C d_H_shareParts_84 rfl rfl ?_
    refine r_if_eq (tgt := 122) C d_H_shareParts_85 (by decide) (fun q85 => ?_) (fun q85 => ?_)
    · exact r_vret C d_H_shareParts_122 (by first | exact ⟨rfl, F81, fun j hj => by rw [p81.2.1 0 (by decide)]; exact o0 j hj, fun j hj => by rw [p81.2.1 1 (by decide)]; exact o1a (by omega) j hj, fun j hj => (by have z := p81.2.2 j hj; rw [F 13 (by omega) (by omega), F 17 (by omega) (by omega)] at z; exact z)⟩ | exact ⟨rfl, (ac_Fr p119.1).tr ((WG_Fr _ _ _ _ _).tr F81), fun j hj => by rw [p119.2.1 0 (by decide), WG_25, p81.2.1 0 (by decide)]; exact o0 j hj, fun j hj => by have z := p119.2.2 j hj; rw [WG_13, WG_fr _ _ _ _ _ (by decide), F81 13 (by omega) (by omega), F81 17 (by omega) (by omega)] at z; exact z, fun j hj => by rw [p119.2.1 2 (by decide), WG_25]; exact (by have z := p81.2.2 j hj; rw [F 13 (by omega) (by omega), F 17 (by omega) (by omega)] at z; exact z)⟩) (by decide) (fun q => nomatch q)
    · refine r_aload_n (i0 := 0) C d_H_shareParts_88 rfl rfl ?_
      refine r_getO C fl_H_40 d_H_shareParts_89 rfl rfl (fun hi => hi) ?_
      refine r_aload_n (i0 := 0) C d_H_shareParts_92 rfl rfl ?_
      refine r_getO C fl_H_12 d_H_shareParts_93 rfl rfl (fun hi => hi) ?_
      refine r_aload_n (i0 := 0) C d_H_shareParts_96 rfl rfl ?_
      refine r_getO C fl_H_33 d_H_shareParts_97 rfl rfl (fun hi => hi) ?_
      refine r_aload_n (i0 := 0) C d_H_shareParts_100 rfl rfl ?_
      refine r_getO C fl_H_26 d_H_shareParts_101 rfl rfl (fun hi => hi) ?_
      refine r_aload_n (i0 := 0) C d_H_shareParts_104 rfl rfl ?_
      refine r_getO C fl_H_51 d_H_shareParts_105 rfl rfl (fun hi => hi) ?_
      refine r_callVw C cl_H_290 im_S_weighByMeters rfl rfl (c_S_weighByMeters hx (by rw [F81 2 (by omega) (by omega)]; exact hc) (F81.fi hF) (by rw [F81 10 (by omega) (by omega)]; exact (hM (by omega)).1) (F81.sp hS) (F81.ok (hM (by omega)).2) (by rw [F81 29 (by omega) (by omega)]; exact hd)) rfl rfl d_H_shareParts_108 (by decide) (by decide) (Nat.le_of_ble_eq_true rfl) (fun h108 p108 => ?_)
      subst p108
      simp only [F81.st, F81 13 (by omega) (by omega), F81 10 (by omega) (by omega)]
      refine r_aload_n (i0 := 0) C d_H_shareParts_111 rfl rfl ?_
      refine r_aload_n (i0 := 0) C d_H_shareParts_112 rfl rfl ?_
      refine r_getO C fl_H_55 d_H_shareParts_113 rfl rfl (fun hi => hi) ?_
      refine r_iconst C d_H_shareParts_116 (by decide) ?_
      refine r_iaload (ln := 5) C d_H_shareParts_117 rfl (fun _ => rfl) rfl (by omega) ?_
      rw [WG_fr _ _ _ _ _ (by decide), F81 30 (by omega) (by omega)]
      refine r_iconst C d_H_shareParts_118 (by decide) ?_
      refine r_callVw C cl_H_281 im_H_sharePart rfl rfl (c_H_sharePart hx (a := 1) (D := D1) (N := N1) (((WG_Fr _ _ _ _ _).tr F81).sp hS) (by omega) (by rw [WG_13, F81 13 (by omega) (by omega)]; exact (q1b (by omega)).spl (WG_o _ _ _ _ _)) (by intro j hj; rw [WG_25]; have z := congrFun (p81.2.1 1 (by decide)) j; rw [show (1 : Int).toNat = 1 from rfl, z]; exact o1b (by omega) j hj)) rfl rfl d_H_shareParts_119 (by decide) (by decide) (Nat.le_of_ble_eq_true rfl) (fun h119 p119 => ?_)
      exact r_vret C d_H_shareParts_122 (by first | exact ⟨rfl, F81, fun j hj => by rw [p81.2.1 0 (by decide)]; exact o0 j hj, fun j hj => by rw [p81.2.1 1 (by decide)]; exact o1a (by omega) j hj, fun j hj => (by have z := p81.2.2 j hj; rw [F 13 (by omega) (by omega), F 17 (by omega) (by omega)] at z; exact z)⟩ | exact ⟨rfl, (ac_Fr p119.1).tr ((WG_Fr _ _ _ _ _).tr F81), fun j hj => by rw [p119.2.1 0 (by decide), WG_25, p81.2.1 0 (by decide)]; exact o0 j hj, fun j hj => by have z := p119.2.2 j hj; rw [WG_13, WG_fr _ _ _ _ _ (by decide), F81 13 (by omega) (by omega), F81 17 (by omega) (by omega)] at z; exact z, fun j hj => by rw [p119.2.1 2 (by decide), WG_25]; exact (by have z := p81.2.2 j hj; rw [F 13 (by omega) (by omega), F 17 (by omega) (by omega)] at z; exact z)⟩) (by decide) (fun q => nomatch q)
  have j48 : ∀ g : AH, Fr g h → WGo g (h 13 0 4).toNat (sumF (h 13 0 4).toNat (waF h 0)) (waF h 0) (fun _ => 1) → (∀ j : Nat, j < 21 → g 25 0 j = acF (h 13 0 4).toNat (gvN (h 13 0 4).toNat (h 30 0 3) D0 N0) (h 17 0) j) → (b = 0 → ∀ j : Nat, j < 21 → g 25 1 j = acF (h 13 0 4).toNat (gvN (h 13 0 4).toNat (h 30 0 4) D1 N1) (h 17 0) j) → (b = 1 → ∀ j : Nat, j < 21 → g 25 1 j = 0) → (∀ j : Nat, j < 21 → g 25 2 j = 0) → AW x w 2 false 0 0 (AQ x w false 0 0 (RetP none (fun h' => Fr h' h ∧ (∀ j : Nat, j < 21 → h' 25 0 j = acF (h 13 0 4).toNat (gvN (h 13 0 4).toNat (h 30 0 3) D0 N0) (h 17 0) j) ∧ (∀ j : Nat, j < 21 → h' 25 1 j = acF (h 13 0 4).toNat (gvN (h 13 0 4).toNat (h 30 0 4) D1 N1) (h 17 0) j) ∧ (∀ j : Nat, j < 21 → h' 25 2 j = acF (h 13 0 4).toNat (gvN (h 13 0 4).toNat (h 30 0 2) D2 N2) (h 17 0) j)))) 48 [(0, vO 1 0), (1, vI b)] [] g := by
    intro g F W o0 o1a o1b o2
    refine r_aload_n (i0 := 0) C d_H_shareParts_48 rfl rfl ?_
    refine r_getO C fl_H_12 d_H_shareParts_49 rfl rfl (fun hi => hi) ?_
    refine r_callVp C cl_H_284 im_O_hasWaterArea rfl rfl (c_O_hasWaterArea hx (by rw [F 2 (by omega) (by omega)]; exact hc)) rfl rfl d_H_shareParts_52 (by decide) (Nat.le_of_ble_eq_true rfl) ?_
    simp only [F 2 (by omega) (by omega), F 4 (by omega) (by omega)]
    refine r_if_eq (tgt := 73) C d_H_shareParts_55 (by decide) (fun q55 => ?_) (fun q55 => ?_)
    · first
        | exact j73 _ F ((q2a (by revert q55; split <;> simp_all)).spl W) o0 o1a o1b o2
        | exact j73 _ ((WG_Fr _ _ _ _ _).tr F) ((q2b (by revert q55; split <;> simp_all)).spl (WG_o _ _ _ _ _)) (by rw [WG_25]; exact o0) (by rw [WG_25]; exact o1a) (by rw [WG_25]; exact o1b) (by rw [WG_25]; exact o2)
    · refine r_aload_n (i0 := 0) C d_H_shareParts_58 rfl rfl ?_
      refine r_getO C fl_H_40 d_H_shareParts_59 rfl rfl (fun hi => hi) ?_
      refine r_aload_n (i0 := 0) C d_H_shareParts_62 rfl rfl ?_
      refine r_getO C fl_H_12 d_H_shareParts_63 rfl rfl (fun hi => hi) ?_
      refine r_aload_n (i0 := 0) C d_H_shareParts_66 rfl rfl ?_
      refine r_getO C fl_H_33 d_H_shareParts_67 rfl rfl (fun hi => hi) ?_
      refine r_callVw C cl_H_287 im_S_weighByWaterArea rfl rfl (c_S_weighByWaterArea hx (by rw [F 2 (by omega) (by omega)]; exact hc) (by rw [F 4 (by omega) (by omega)]; exact hwa) (F.sp hS)) rfl rfl d_H_shareParts_70 (by decide) (by decide) (Nat.le_of_ble_eq_true rfl) (fun h70 p70 => ?_)
      subst p70
      simp only [F.wa, F 13 (by omega) (by omega)]
      first
        | exact j73 _ F ((q2a (by revert q55; split <;> simp_all)).spl W) o0 o1a o1b o2
        | exact j73 _ ((WG_Fr _ _ _ _ _).tr F) ((q2b (by revert q55; split <;> simp_all)).spl (WG_o _ _ _ _ _)) (by rw [WG_25]; exact o0) (by rw [WG_25]; exact o1a) (by rw [WG_25]; exact o1b) (by rw [WG_25]; exact o2)
  have FA : Fr (WG (CO h 3) (h 13 0 4).toNat (waF h 0) (fun _ => 1) (sumF (h 13 0 4).toNat (waF h 0))) h := (WG_Fr _ _ _ _ _).tr (CO_Fr h 3)
  refine r_aload_n (i0 := 0) C d_H_shareParts_0 rfl rfl ?_
  refine r_getO C fl_H_47 d_H_shareParts_1 rfl rfl (fun hi => hi) ?_
  refine r_callVw C cl_H_274 im_A_clearOwed rfl rfl (c_A_clearOwed hx) rfl rfl d_H_shareParts_4 (by decide) (by decide) (Nat.le_of_ble_eq_true rfl) (fun h4 p4 => ?_)
  subst p4
  refine r_aload_n (i0 := 0) C d_H_shareParts_7 rfl rfl ?_
  refine r_getO C fl_H_40 d_H_shareParts_8 rfl rfl (fun hi => hi) ?_
  refine r_aload_n (i0 := 0) C d_H_shareParts_11 rfl rfl ?_
  refine r_getO C fl_H_12 d_H_shareParts_12 rfl rfl (fun hi => hi) ?_
  refine r_aload_n (i0 := 0) C d_H_shareParts_15 rfl rfl ?_
  refine r_getO C fl_H_33 d_H_shareParts_16 rfl rfl (fun hi => hi) ?_
  refine r_callVw C cl_H_277 im_S_weighByArea rfl rfl (c_S_weighByArea hx (by rw [CO_fr _ _ (by decide)]; exact hc) (by rw [CO_fr _ _ (by decide)]; exact fun f hf => (hF f hf).1) ((CO_Fr h 3).sp hS)) rfl rfl d_H_shareParts_19 (by decide) (by decide) (Nat.le_of_ble_eq_true rfl) (fun h19 p19 => ?_)
  subst p19
  simp only [(CO_Fr h 3).wa, CO_fr h 3 (show (13 : Nat) ≠ 25 by decide)]
  refine r_aload_n (i0 := 0) C d_H_shareParts_22 rfl rfl ?_
  refine r_aload_n (i0 := 0) C d_H_shareParts_23 rfl rfl ?_
  refine r_getO C fl_H_55 d_H_shareParts_24 rfl rfl (fun hi => hi) ?_
  refine r_iconst C d_H_shareParts_27 (by decide) ?_
  refine r_iaload (ln := 5) C d_H_shareParts_28 rfl (fun _ => rfl) rfl (by omega) ?_
  rw [FA 30 (by omega) (by omega)]
  refine r_iconst C d_H_shareParts_29 (by decide) ?_
  refine r_callVw C cl_H_281 im_H_sharePart rfl rfl (c_H_sharePart hx (a := 0) (D := D0) (N := N0) (FA.sp hS) (by omega) (by rw [FA 13 (by omega) (by omega)]; exact q0.spl (WG_o _ _ _ _ _)) (fun j hj => by rw [WG_25]; exact CO_25 _ (by decide) hj)) rfl rfl d_H_shareParts_30 (by decide) (by decide) (Nat.le_of_ble_eq_true rfl) (fun h30 p30 => ?_)
  have F30 : Fr h30 h := (ac_Fr p30.1).tr FA
  have W30 : WGo h30 (h 13 0 4).toNat (sumF (h 13 0 4).toNat (waF h 0)) (waF h 0) (fun _ => 1) := (WG_o _ _ _ _ _).keep p30.1
  have o30 : ∀ j : Nat, j < 21 → h30 25 0 j = acF (h 13 0 4).toNat (gvN (h 13 0 4).toNat (h 30 0 3) D0 N0) (h 17 0) j := fun j hj => by have z := p30.2.2 j hj; rw [FA 13 (by omega) (by omega), FA 17 (by omega) (by omega)] at z; exact z
  have z1 : ∀ j : Nat, j < 21 → h30 25 1 j = 0 := fun j hj => by rw [p30.2.1 1 (by decide), WG_25]; exact CO_25 _ (by decide) hj
  have z2 : ∀ j : Nat, j < 21 → h30 25 2 j = 0 := fun j hj => by rw [p30.2.1 2 (by decide), WG_25]; exact CO_25 _ (by decide) hj
  refine r_iload_n (i0 := 1) C d_H_shareParts_33 rfl rfl ?_
  refine r_if_ne (tgt := 48) C d_H_shareParts_34 (by decide) (fun q34 => ?_) (fun q34 => ?_)
  · first
      | exact j48 _ F30 W30 o30 (fun e => absurd e (by omega)) (fun _ => z1) z2
      | exact j48 _ ((ac_Fr p45.1).tr F30) (W30.keep p45.1) (fun j hj => by rw [p45.2.1 0 (by decide)]; exact o30 j hj) (fun _ j hj => by have z := p45.2.2 j hj; rw [F30 13 (by omega) (by omega), F30 17 (by omega) (by omega)] at z; exact z) (fun e => absurd e (by omega)) (fun j hj => by rw [p45.2.1 2 (by decide)]; exact z2 j hj)
  · refine r_aload_n (i0 := 0) C d_H_shareParts_37 rfl rfl ?_
    refine r_aload_n (i0 := 0) C d_H_shareParts_38 rfl rfl ?_
    refine r_getO C fl_H_55 d_H_shareParts_39 rfl rfl (fun hi => hi) ?_
    refine r_iconst C d_H_shareParts_42 (by decide) ?_
    refine r_iaload (ln := 5) C d_H_shareParts_43 rfl (fun _ => rfl) rfl (by omega) ?_
    rw [F30 30 (by omega) (by omega)]
    refine r_iconst C d_H_shareParts_44 (by decide) ?_
    refine r_callVw C cl_H_281 im_H_sharePart rfl rfl (c_H_sharePart hx (a := 1) (D := D1) (N := N1) (F30.sp hS) (by omega) (by rw [F30 13 (by omega) (by omega)]; exact (q1a (by omega)).spl W30) z1) rfl rfl d_H_shareParts_45 (by decide) (by decide) (Nat.le_of_ble_eq_true rfl) (fun h45 p45 => ?_)
    first
      | exact j48 _ F30 W30 o30 (fun e => absurd e (by omega)) (fun _ => z1) z2
      | exact j48 _ ((ac_Fr p45.1).tr F30) (W30.keep p45.1) (fun j hj => by rw [p45.2.1 0 (by decide)]; exact o30 j hj) (fun _ j hj => by have z := p45.2.2 j hj; rw [F30 13 (by omega) (by omega), F30 17 (by omega) (by omega)] at z; exact z) (fun e => absurd e (by omega)) (fun j hj => by rw [p45.2.1 2 (by decide)]; exact z2 j hj)

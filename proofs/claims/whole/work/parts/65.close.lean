/-! Contracts: closeYear. -/
/-- the accounts of a new year -/
def ayH (h : AH) : AH := hfill (hfill (hfill (PO h (h 23 0 4 + 1).toNat) 26 0 0 21 0) 28 0 0 21 0) 27 0 0 20 0
theorem ayH_fr (h : AH) {t : Nat} (e : t ≠ 26 ∧ t ≠ 27 ∧ t ≠ 28) : ayH h t = h t := by
  unfold ayH; rw [hfill_tag _ _ _ _ _ e.2.1, hfill_tag _ _ _ _ _ e.2.2, hfill_tag _ _ _ _ _ e.1, PO_fr _ _ ⟨e.1, e.2.2⟩]
/-- the first i flats in their next year -/
def CY (g : AH) (wh : Nat → Int) (i : Nat) : AH := fun t f j => if f < i ∧ t = 4 ∧ j = 3 then hoE (cHs g f) (cVl g f) (g 4 f 3) 12 else if f < i ∧ t = 4 ∧ j = 4 then wh f else if f < i ∧ t = 5 ∧ j < 13 then (if j = 0 then g 5 f 12 else -1) else if f < i ∧ t = 6 ∧ j < 12 then -2 else g t f j
theorem CY_fr (g : AH) (wh : Nat → Int) (i : Nat) {t : Nat} (e : t ≠ 4 ∧ t ≠ 5 ∧ t ≠ 6) : CY g wh i t = g t := by
  funext f j; unfold CY; rw [if_neg (by omega), if_neg (by omega), if_neg (by omega), if_neg (by omega)]
theorem CY_hi (g : AH) (wh : Nat → Int) {i f : Nat} (e : i ≤ f) (t : Nat) : CY g wh i t f = g t f := by
  funext j; unfold CY; rw [if_neg (by omega), if_neg (by omega), if_neg (by omega), if_neg (by omega)]
theorem CY_zero (g : AH) (wh : Nat → Int) : g = CY g wh 0 := by
  funext t f j; exact (congrFun (CY_hi g wh (Nat.zero_le f) t) j).symm
theorem SY_at (h : AH) (f : Nat) (u : Int) (t i j : Nat) : SY h f u t i j = if i = f ∧ t = 4 ∧ j = 3 then hoE (cHs h f) (cVl h f) (h 4 f 3) 12 else if i = f ∧ t = 4 ∧ j = 4 then u else if i = f ∧ t = 5 ∧ j < 13 then (if j = 0 then h 5 f 12 else -1) else if i = f ∧ t = 6 ∧ j < 12 then -2 else h t i j := by
  unfold SY hfill hset
  by_cases e : i = f
  · subst e
    by_cases t4 : t = 4
    · subst t4
      by_cases j3 : j = 3
      · subst j3; simp
      · by_cases j4 : j = 4
        · subst j4; simp
        · simp [j3, j4]
    · by_cases t5 : t = 5
      · subst t5
        by_cases j0 : j = 0
        · subst j0; simp
        · by_cases jl : j < 13
          · simp [j0, jl]
          · simp [j0, jl]
      · by_cases t6 : t = 6
        · subst t6
          by_cases jl : j < 12 <;> simp [jl]
        · simp [t4, t5, t6]
  · simp [e]
theorem CY_step (g : AH) (wh : Nat → Int) (i : Nat) : SY (CY g wh i) i (wh i) = CY g wh (i + 1) := by
  have e6 := CY_hi g wh (Nat.le_refl i) 6
  have e4 := CY_hi g wh (Nat.le_refl i) 4
  have e5 := CY_hi g wh (Nat.le_refl i) 5
  have eh : cHs (CY g wh i) i = cHs g i := by funext t; unfold cHs; rw [e6]
  have ev : cVl (CY g wh i) i = cVl g i := by funext t; show CY g wh i 6 i t = g 6 i t; rw [e6]
  funext t f j
  rw [SY_at, eh, ev, e4, e5]
  by_cases e : f = i
  · subst e
    have e' := congrFun (CY_hi g wh (Nat.le_refl f) t) j
    rw [e']
    unfold CY
    simp only [true_and, show f < f + 1 by omega]
  · rw [if_neg (fun z => e z.1), if_neg (fun z => e z.1), if_neg (fun z => e z.1), if_neg (fun z => e z.1)]
    have lt : (f < i + 1) = (f < i) := by apply propext; omega
    unfold CY
    simp only [lt]
theorem vK_fr {g h : AH} (e7 : g 7 = h 7) (e8 : g 8 = h 8) : vK g = vK h := by unfold vK; rw [e7, e8]
theorem qK_fr {g h : AH} (e7 : g 7 = h 7) (e8 : g 8 = h 8) (e9 : g 9 = h 9) : qK g = qK h := by unfold qK; rw [e7, e8, e9]
/-- a flat's units as the next year knows them -/
def whC (h : AH) : Nat → Int := fun f => if 0 < uC h f / sC h then uC h f / sC h else -1
def cyG (h : AH) : AH := CY (lC (ayH h)) (whC h) (nC h)
theorem cyG_fr (h : AH) {t : Nat} (e : t < 4 ∨ 6 < t) (e2 : t < 10 ∨ 12 < t) (e3 : t < 26 ∨ 28 < t) : cyG h t = h t := by
  unfold cyG; rw [CY_fr _ _ _ (by omega), lC_fr _ e2, ayH_fr _ (by omega)]
def nuC (h : AH) : Nat := kct (vK h) (h 7 0 2).toNat
def cyH (h : AH) : AH := hset (hset (hset (hset (hset (ksH (cyG h) (h 7 0 2).toNat) 7 0 2 (nuC h : Nat)) 7 0 3 (-1)) 1 0 9 (-1)) 1 0 8 0) 1 0 12 0
theorem kC_ay (h : AH) : kC (ayH h) = kC h ∧ uC (ayH h) = uC h ∧ sC (ayH h) = sC h ∧ nC (ayH h) = nC h := by
  have e2 : ayH h 2 = h 2 := ayH_fr h (by decide)
  have e4 : ayH h 4 = h 4 := ayH_fr h (by decide)
  have e5 : ayH h 5 = h 5 := ayH_fr h (by decide)
  unfold kC uC sC nC cAr cFc cKn cRd
  rw [e2, e4, e5]
  exact ⟨rfl, rfl, rfl, rfl⟩
theorem uC_le {h : AH} (hc : 0 ≤ h 2 0 1 ∧ h 2 0 1 ≤ 6) (hF : FIc h) {f : Nat} (hf : f < nC h) : uC h f ≤ 200 * sC h := by
  have hn : nC h ≤ 6 := by unfold nC; omega
  have H : FIv (nC h) (cAr h) (cFc h) (cKn h) (cRd h) := FIv.sub hF hn
  obtain ⟨a1, a2, a3, a4⟩ := H f hf
  have s := scV_bd H hn
  have M := kC_mok hc hF hf
  have k1 : kC h f = 1 → 0 ≤ h 4 f 4 := by
    unfold kC kdV kdS
    intro z
    by_cases q : rdI (cRd h f) = 1
    · rw [if_pos q] at z; cases z
    · rw [if_neg q] at z
      split at z
      · rename_i y; have := y.1; show 0 ≤ cKn h f; omega
      · split at z <;> cases z
  exact (unS_bd (k := kC h f) (mu := mU (cFc h f) (cRd h f)) (kn := cKn h f) (ar := cAr h f) (pu := puV (nC h) (cFc h) (cKn h) (cRd h)) (ru := ruV (nC h) (cFc h) (cRd h)) (sc := sC h) (ls := lsV (nC h) (cKn h) (cRd h)) (lk := lkV (nC h) (cAr h) (cRd h)) (fun z => mU_bd (M.1 z).1 a4 a2) k1 a1.1 (puV_bd H hn).1 (ruV_bd H hn).1 s.1 (by have := lsV_bd H hn; omega) (by have := lkV_bd H hn; omega)).2
set_option maxHeartbeats 1000000 in
theorem c_H_closeYear {l : Launch} (hl : l.stackTraces = false) {w : XW} {h : AH} (hc : 0 ≤ h 2 0 1 ∧ h 2 0 1 ≤ 6) (hF : FIc h) (hp : POk h) (hL : 0 ≤ h 7 0 2) (hU : FUv (h 7 0 2).toNat (h 8 0) (h 9 0)) (hs : -1 ≤ h 7 0 3 ∧ h 7 0 3 ≤ 12000) : AM l y_H_closeYear (wsM y_H_closeYear b_H_closeYear 2 (some .int) []) false (rmV 5 1) w [vO 1 0] h (Out (if h 1 0 12 = 0 then some 2 else none) (some (vI (sumF (nuC h) (krow (vK h) (vK h) (h 8 0) (h 7 0 2).toNat)))) h (fun h' => h' = cyH h)) := by
  refine AM.of hl (by decide +kernel) (Nat.le_of_ble_eq_true rfl) fun x hx C _ => ?_
  have ka := kC_ay h
  have loop : ¬ h 1 0 12 = 0 → ∀ (m : Nat) (i : Int), 0 ≤ i → i ≤ h 2 0 1 → (h 2 0 1 - i).toNat = m → AW x w 2 false 0 0 (AQ x w false (rmV 5 1).cells (rmV 5 1).slots (Out (if h 1 0 12 = 0 then some 2 else none) (some (vI (sumF (nuC h) (krow (vK h) (vK h) (h 8 0) (h 7 0 2).toNat)))) h (fun h' => h' = cyH h))) 32 [(1, vI i), (0, vO 1 0)] [] (CY (lC (ayH h)) (whC h) i.toNat) := by
    intro e1n
    intro m
    induction m using Nat.strongRecOn with
    | _ m ih =>
    intro i hi0 hi1 hm
    refine r_iload_n (i0 := 1) C d_H_closeYear_32 rfl rfl ?_
    refine r_aload_n (i0 := 0) C d_H_closeYear_33 rfl rfl ?_
    refine r_getO C fl_H_12 d_H_closeYear_34 rfl rfl (fun hi => hi) ?_
    refine r_getI C fl_H_86 d_H_closeYear_37 rfl ?_
    rw [CY_fr _ _ _ (by decide), lC_fr _ (by omega), ayH_fr _ (by decide)]
    refine r_icmp_ge (tgt := 69) C d_H_closeYear_40 (by decide) (fun q40 => ?_) (fun q40 => ?_)
    · have e : i.toNat = nC h := (by unfold nC; omega)
      rw [e]
      have e7 : cyG h 7 = h 7 := cyG_fr h (by omega) (by omega) (by omega)
      have e8 : cyG h 8 = h 8 := cyG_fr h (by omega) (by omega) (by omega)
      have e9 : cyG h 9 = h 9 := cyG_fr h (by omega) (by omega) (by omega)
      refine AW.heq (show CY (lC (ayH h)) (whC h) (nC h) = cyG h from rfl) ?_
      refine r_aload_n (i0 := 0) C d_H_closeYear_69 rfl rfl ?_
      refine r_getO C fl_H_19 d_H_closeYear_70 rfl rfl (fun hi => hi) ?_
      refine r_callVw C cl_H_232 im_U_keepStock rfl rfl (c_U_keepStock hx (by rw [e7]; exact hL) (by rw [e7, e8, e9]; exact hU) (by rw [e7]; exact hs)) rfl rfl d_H_closeYear_73 (by decide) (by decide) (Nat.le_of_ble_eq_true rfl) (fun h73 p73 => ?_)
      have e73 : h73 = (hset (hset (ksH (cyG h) (h 7 0 2).toNat) 7 0 2 (nuC h : Nat)) 7 0 3 (-1)) := by
        rw [p73, e7, vK_fr e7 e8]
        rfl
      subst e73
      refine r_aload_n (i0 := 0) C d_H_closeYear_76 rfl rfl ?_
      refine r_iconst C d_H_closeYear_77 (by decide) ?_
      refine r_putI C pl_H_62 d_H_closeYear_78 rfl ?_
      refine r_aload_n (i0 := 0) C d_H_closeYear_81 rfl rfl ?_
      refine r_iconst C d_H_closeYear_82 (by decide) ?_
      refine r_putI C pl_H_58 d_H_closeYear_83 rfl ?_
      refine r_aload_n (i0 := 0) C d_H_closeYear_86 rfl rfl ?_
      refine r_iconst C d_H_closeYear_87 (by decide) ?_
      refine r_putZ C pl_H_71 d_H_closeYear_88 rfl (by omega) ?_
      refine r_aload_n (i0 := 0) C d_H_closeYear_91 rfl rfl ?_
      refine r_getO C fl_H_19 d_H_closeYear_92 rfl rfl (fun hi => hi) ?_
      have v7 : (cyH h) 7 0 2 = (nuC h : Nat) := rfl
      have v8 : (cyH h) 8 0 = krow (vK h) (vK h) (h 8 0) (h 7 0 2).toNat := by
        show KR (cyG h) (krow (vK (cyG h)) (vK (cyG h)) (cyG h 8 0) (h 7 0 2).toNat) (krow (vK (cyG h)) (qK (cyG h)) (cyG h 9 0) (h 7 0 2).toNat) 8 0 = _
        rw [KR_8, vK_fr e7 e8, e8]
      have fu := ksH_fu hU (Nat.le_refl _)
      have kl := kct_le (vK h) (h 7 0 2).toNat
      have hL1 := hU.1
      have kn : 0 ≤ cyH h 7 0 2 ∧ cyH h 7 0 2 ≤ 12 := by rw [v7]; unfold nuC; omega
      have ku : ∀ k : Nat, (k : Int) < cyH h 7 0 2 → 0 ≤ cyH h 8 0 k ∧ cyH h 8 0 k ≤ 1000 := fun k hk => by rw [v7] at hk; rw [v8]; have := (fu.2 k (by unfold nuC at hk; omega)).1; omega
      refine AW.heq (show _ = cyH h from rfl) ?_
      refine r_callVp C cl_H_144 im_U_allUnits rfl rfl (c_U_allUnits hx kn ku) rfl rfl d_H_closeYear_95 (by decide) (Nat.le_of_ble_eq_true rfl) ?_
      rw [v7, v8, Int.toNat_natCast]
      exact r_iret C d_H_closeYear_98 (fun _ => Out.ret (by rw [if_neg e1n]) (by first | rfl)) (by decide) (fun q => nomatch q)
    · have M := kC_mok hc hF (show i.toNat < nC h by unfold nC; omega)
      have scb : 1 ≤ sC h ∧ sC h ≤ 360000 := scV_bd (FIv.sub hF (by unfold nC; omega)) (by unfold nC; omega)
      have ub := uC_le hc hF (show i.toNat < nC h by unfold nC; omega)
      refine r_aload_n (i0 := 0) C d_H_closeYear_43 rfl rfl ?_
      refine r_getO C fl_H_12 d_H_closeYear_44 rfl rfl (fun hi => hi) ?_
      refine r_getO C fl_H_109 d_H_closeYear_47 rfl rfl (fun hi => hi) ?_
      refine r_iload_n (i0 := 1) C d_H_closeYear_50 rfl rfl ?_
      refine r_aaF C d_H_closeYear_51 (by omega) ?_
      refine r_aload_n (i0 := 0) C d_H_closeYear_52 rfl rfl ?_
      refine r_getO C fl_H_26 d_H_closeYear_53 rfl rfl (fun hi => hi) ?_
      refine r_iload_n (i0 := 1) C d_H_closeYear_56 rfl rfl ?_
      refine r_callVp C cl_H_227 im_M_wholeUnits rfl rfl (c_M_wholeUnits hx (by omega) (by rw [CY_fr _ _ _ (by decide), lC_2, ka.2.2.1]; omega) (by rw [CY_fr _ _ _ (by decide), CY_fr _ _ _ (by decide), lC_2, lC_u _ (by rw [ka.2.2.2]; unfold nC; omega), ka.2.1, ka.2.2.1]; exact ⟨M.2.1.1, ub⟩)) rfl rfl d_H_closeYear_57 (by decide) (Nat.le_of_ble_eq_true rfl) ?_
      rw [CY_fr _ _ _ (by decide), CY_fr _ _ _ (by decide), lC_2, lC_u _ (by rw [ka.2.2.2]; unfold nC; omega), ka.2.1, ka.2.2.1, show (if 0 < uC h i.toNat / sC h then uC h i.toNat / sC h else -1) = whC h i.toNat from rfl]
      refine r_callVw C cl_H_230 im_F_startYear rfl rfl (c_F_startYear hx) rfl rfl d_H_closeYear_60 (by decide) (by decide) (Nat.le_of_ble_eq_true rfl) (fun h60 p60 => ?_)
      subst p60
      refine r_iinc C d_H_closeYear_63 rfl (by decide) (by omega) ?_
      refine r_goto (tgt := 32) C d_H_closeYear_66 (by decide) ?_
      have e2 : (i + 1).toNat = i.toNat + 1 := by omega
      have ee := ih (m - 1) (by omega) (i + 1) (by omega) (by omega) (by omega)
      rw [e2] at ee
      exact AW.lvs [(1, _), (0, _)] ⟨rfl, rfl, trivial⟩ (AW.heq (CY_step _ _ _) ee)
  refine r_aload_n (i0 := 0) C d_H_closeYear_0 rfl rfl ?_
  refine r_callVt C cl_H_199 im_H_needBill rfl rfl (c_H_needBill hx) rfl rfl d_H_closeYear_1 (by decide) (Nat.le_of_ble_eq_true rfl) (by decide) (fun k hk => Out.thr (by by_cases z : h 1 0 12 = 0 <;> simp [z] at hk ⊢; exact hk)) (fun e1 => ?_)
  have e1n : ¬ h 1 0 12 = 0 := fun z => by rw [if_pos z] at e1; cases e1
  refine r_aload_n (i0 := 0) C d_H_closeYear_4 rfl rfl ?_
  refine r_getO C fl_H_47 d_H_closeYear_5 rfl rfl (fun hi => hi) ?_
  refine r_callVw C cl_H_218 im_A_post rfl rfl (c_A_post hx hp) rfl rfl d_H_closeYear_8 (by decide) (by decide) (Nat.le_of_ble_eq_true rfl) (fun h8 p8 => ?_)
  subst p8
  refine r_pop C d_H_closeYear_11 rfl ?_
  refine r_aload_n (i0 := 0) C d_H_closeYear_12 rfl rfl ?_
  refine r_getO C fl_H_47 d_H_closeYear_13 rfl rfl (fun hi => hi) ?_
  refine r_callVw C cl_H_224 im_A_startYear rfl rfl (c_A_startYear hx) rfl rfl d_H_closeYear_16 (by decide) (by decide) (Nat.le_of_ble_eq_true rfl) (fun h16 p16 => ?_)
  have e16 : h16 = ayH h := p16
  subst e16
  refine r_aload_n (i0 := 0) C d_H_closeYear_19 rfl rfl ?_
  refine r_getO C fl_H_26 d_H_closeYear_20 rfl rfl (fun hi => hi) ?_
  refine r_aload_n (i0 := 0) C d_H_closeYear_23 rfl rfl ?_
  refine r_getO C fl_H_12 d_H_closeYear_24 rfl rfl (fun hi => hi) ?_
  refine r_callVw C cl_H_174 im_M_look rfl rfl (c_M_look hx (by rw [ayH_fr _ (by decide)]; exact hc) (by unfold FIc cAr cFc cKn cRd; rw [ayH_fr h (show (4 : Nat) ≠ 26 ∧ (4 : Nat) ≠ 27 ∧ (4 : Nat) ≠ 28 by decide), ayH_fr h (show (5 : Nat) ≠ 26 ∧ (5 : Nat) ≠ 27 ∧ (5 : Nat) ≠ 28 by decide)]; exact hF)) rfl rfl d_H_closeYear_27 (by decide) (by decide) (Nat.le_of_ble_eq_true rfl) (fun h27 p27 => ?_)
  have e27 : h27 = lC (ayH h) := p27
  subst e27
  refine r_iconst C d_H_closeYear_30 (by decide) ?_
  refine r_istore_n (i0 := 1) C d_H_closeYear_31 rfl (by decide) ?_
  exact AW.lvs [(1, _), (0, _)] ⟨rfl, rfl, trivial⟩ (AW.heq (CY_zero _ (whC h)) (loop e1n _ 0 (by omega) (by omega) rfl))

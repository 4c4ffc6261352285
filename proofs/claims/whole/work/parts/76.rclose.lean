/-! Contracts of the reference: closeYear. -/
theorem NY_fr (h : AH) (f : Nat) (w : Int) {t : Nat} (e : t ≠ 44 ∧ t ≠ 45 ∧ t ≠ 46 ∧ t ≠ 47) : NY h f w t = h t := by
  unfold NY NYa
  rw [hfill_tag _ _ _ _ _ e.2.1, hfill_tag _ _ _ _ _ e.1, hset_fr _ _ _ _ e.1, hset_fr _ _ _ _ e.2.2.1, hset_fr _ _ _ _ e.2.2.2]
/-- the first n flats in their next year -/
def nyR (g : AH) (n : Nat) : AH := match n with
  | 0 => g
  | n + 1 => NY (nyR g n) n (whR (g 56 0 n) (g 40 0 30))
theorem nyR_fr (g : AH) {t : Nat} (e : t ≠ 44 ∧ t ≠ 45 ∧ t ≠ 46 ∧ t ≠ 47) : ∀ n, nyR g n t = g t := by
  intro n
  induction n with
  | zero => rfl
  | succ n ih => show NY _ _ _ t = _; rw [NY_fr _ _ _ e, ih]
def Z2 (g : AH) (n : Nat) : AH := fun t i j => if (t = 54 ∨ t = 55) ∧ i = 0 ∧ j < n then 0 else g t i j
theorem Z2_fr (g : AH) (n : Nat) {t : Nat} (e : t ≠ 54 ∧ t ≠ 55) : Z2 g n t = g t := by funext i j; unfold Z2; rw [if_neg (by omega)]
theorem Z2_zero (g : AH) : g = Z2 g 0 := by funext t i j; unfold Z2; rw [if_neg (by omega)]
theorem Z2_step (g : AH) (n : Nat) : hset (hset (Z2 g n) 54 0 n 0) 55 0 n 0 = Z2 g (n + 1) := by
  funext t i j; unfold hset Z2
  by_cases c : (t = 54 ∨ t = 55) ∧ i = 0 ∧ j < n + 1
  · rw [if_pos c]
    by_cases e1 : t = 55 ∧ i = 0 ∧ j = n
    · rw [if_pos e1]
    · rw [if_neg e1]
      by_cases e2 : t = 54 ∧ i = 0 ∧ j = n
      · rw [if_pos e2]
      · rw [if_neg e2, if_pos (by omega)]
  · rw [if_neg c, if_neg (by omega), if_neg (by omega), if_neg (by omega)]
/-- the heap after sending and keeping the stock, and all that follows -/
def h1R (h : AH) : AH := PR (hset h 40 0 0 0) 21
def h2R (h : AH) : AH := kpR (h1R h)
def h3R (h : AH) : AH := nyR (lR (h2R h)) (nR h)
def h4R (h : AH) : AH := hfill (Z2 (h3R h) 21) 53 0 0 20 0
def cyR (h : AH) : AH := hset (hset (hset (hset (h4R h) 40 0 13 (-1)) 40 0 15 (-1)) 40 0 14 0) 40 0 19 0
theorem h1R_fr (h : AH) {t : Nat} (e : t ≠ 40 ∧ t ≠ 54 ∧ t ≠ 55) : h1R h t = h t := by unfold h1R; rw [PR_fr _ _ ⟨e.2.2, e.2.1⟩, hset_fr _ _ _ _ e.1]
theorem h1R_40 (h : AH) {j : Nat} (e : j ≠ 0) : h1R h 40 0 j = h 40 0 j := by unfold h1R; rw [PR_fr _ _ (by decide), hset_slot _ _ e]
theorem h2R_fr (h : AH) {t : Nat} (e : t ≠ 40 ∧ t ≠ 54 ∧ t ≠ 55 ∧ t ≠ 48 ∧ t ≠ 49 ∧ t ≠ 57 ∧ t ≠ 60) : h2R h t = h t := by unfold h2R; rw [kpR_fr _ ⟨e.1, e.2.2.2.1, e.2.2.2.2.1, e.2.2.2.2.2.1, e.2.2.2.2.2.2⟩, h1R_fr _ ⟨e.1, e.2.1, e.2.2.1⟩]
theorem h2R_40 (h : AH) {j : Nat} (e : j ≠ 0) (e2 : j ≠ 10) : h2R h 40 0 j = h 40 0 j := by
  unfold h2R kpR; rw [hset_slot _ _ e2, KC_fr _ _ (by decide)]
  show KR2 _ _ _ 40 0 j = _
  rw [KR2_fr _ _ _ (by decide), h1R_40 _ e]
theorem h2R_v (h : AH) : nR (h2R h) = nR h ∧ tR (h2R h) = tR h ∧ eR (h2R h) = eR h ∧ rAr (h2R h) = rAr h ∧ rFc (h2R h) = rFc h ∧ rKn (h2R h) = rKn h ∧ rRd (h2R h) = rRd h := by
  have e1 : h2R h 41 = h 41 := h2R_fr h (by decide)
  have e2 : h2R h 43 = h 43 := h2R_fr h (by decide)
  have e3 : h2R h 47 = h 47 := h2R_fr h (by decide)
  have e4 : h2R h 44 = h 44 := h2R_fr h (by decide)
  have e5 : h2R h 40 0 1 = h 40 0 1 := h2R_40 h (by decide) (by decide)
  unfold tR eR nR rAr rFc rKn rRd rdR
  rw [e1, e2, e3, e4, e5]
  exact ⟨rfl, rfl, rfl, rfl, rfl, rfl, rfl⟩
theorem lR_56 (h : AH) {f : Nat} (hf : f < nR h) : lR h 56 0 f = tR h f := by
  unfold lR RK; rw [if_neg (by omega), if_pos ⟨rfl, rfl, hf⟩]
theorem lR_30 (h : AH) : lR h 40 0 30 = eR h := rfl
theorem lR_1 (h : AH) : lR h 40 0 1 = h 40 0 1 := rfl
set_option maxHeartbeats 1000000 in
theorem c_R_closeYear {l : Launch} (hl : l.stackTraces = false) {w : XW} {h : AH} (hc : 0 ≤ h 40 0 1 ∧ h 40 0 1 ≤ 6) (hF : FIr (h 40 0 1).toNat h) (hp : PRk h) (hL : 0 ≤ h 40 0 10) (hU : FUv (h 40 0 10).toNat (h 48 0) (h 49 0)) (hs : -1 ≤ h 40 0 13 ∧ h 40 0 13 ≤ 12000) (hb : 1 ≤ eR h) (ht : ∀ f : Nat, f < nR h → 0 ≤ tR h f ∧ tR h f ≤ 200 * eR h) : AM l y_R_closeYear (wsM y_R_closeYear b_R_closeYear 3 (some .int) []) false (rmV 4 0) w [vO 40 0] h (Rout (if h 40 0 19 = 0 then 1 else 0) (some (vI 0)) (some (vI (sumF (nuR (h1R h)) (h2R h 48 0)))) h (fun h' => h' = cyR h)) := by
  refine AM.of hl (by decide +kernel) (Nat.le_of_ble_eq_true rfl) fun x hx C _ => ?_
  have v7 : cyR h 40 0 10 = (nuR (h1R h) : Nat) := by
    show h4R h 40 0 10 = _
    unfold h4R h3R
    rw [hfill_tag _ _ _ _ _ (by decide), Z2_fr _ _ (by decide), nyR_fr _ (by decide)]
    rfl
  have v8 : cyR h 48 0 = h2R h 48 0 := by
    unfold cyR h4R h3R
    rw [hset_fr _ _ _ _ (by decide), hset_fr _ _ _ _ (by decide), hset_fr _ _ _ _ (by decide), hset_fr _ _ _ _ (by decide), hfill_tag _ _ _ _ _ (by decide), Z2_fr _ _ (by decide), nyR_fr _ (by decide)]
    unfold lR
    rw [RK_fr _ _ _ _ _ _ _ _ _ (by decide)]
  have hU1 : FUv (h1R h 40 0 10).toNat (h1R h 48 0) (h1R h 49 0) := by rw [h1R_40 h (by decide), h1R_fr h (show (48 : Nat) ≠ 40 ∧ (48 : Nat) ≠ 54 ∧ (48 : Nat) ≠ 55 by decide), h1R_fr h (show (49 : Nat) ≠ 40 ∧ (49 : Nat) ≠ 54 ∧ (49 : Nat) ≠ 55 by decide)]; exact hU
  have hL1 := hU1.1
  have kl := kct_le (vR (h1R h)) (h1R h 40 0 10).toNat
  have nu : nuR (h1R h) = kct (vR (h1R h)) (h1R h 40 0 10).toNat := rfl
  have kn : 0 ≤ cyR h 40 0 10 ∧ cyR h 40 0 10 ≤ 12 := by rw [v7]; omega
  have ku : ∀ k : Nat, (k : Int) < cyR h 40 0 10 → 0 ≤ cyR h 48 0 k ∧ cyR h 48 0 k ≤ 1000 := fun k hk => by
    rw [v7] at hk
    rw [v8]
    have hk2 : k < nuR (h1R h) := by omega
    show 0 ≤ kpR (h1R h) 48 0 k ∧ _
    rw [show h2R h 48 0 k = kpR (h1R h) 48 0 k from rfl, kpR_48 _ hk2]
    have z := krow_all (P := fun z => 1 ≤ z ∧ z ≤ 1000) (v := vR (h1R h)) (q := vR (h1R h)) (u := h1R h 48 0) (Nat.le_refl (h1R h 40 0 10).toNat) (fun j hj => (hU1.2 j hj).1) (fun j hj hv => by have z := inV_bd (s := h1R h 40 0 13) hU1 hj; have y := (hU1.2 j hj).1; unfold vR at *; omega) k (by omega)
    omega
  have loop3 : ¬ h 40 0 19 = 0 → ∀ (m : Nat) (i : Int), 0 ≤ i → i ≤ 20 → (20 - i).toNat = m → AW x w 3 false 0 0 (AQ x w false 0 0 (Rout (if h 40 0 19 = 0 then 1 else 0) (some (vI 0)) (some (vI (sumF (nuR (h1R h)) (h2R h 48 0)))) h (fun h' => h' = cyR h))) 89 [(2, vI i), (0, vO 40 0)] [] (hfill (Z2 (h3R h) 21) 53 0 0 i.toNat 0) := by
    intro hbl
    intro m
    induction m using Nat.strongRecOn with
    | _ m ih =>
    intro i hi0 hi1 hm
    refine r_iload_n (i0 := 2) C d_R_closeYear_89 rfl rfl ?_
    refine r_bipush C d_R_closeYear_90 (by decide) (by decide) ?_
    refine r_icmp_ge (tgt := 108) C d_R_closeYear_92 (by decide) (fun q92 => ?_) (fun q92 => ?_)
    · have e : i.toNat = 20 := (by omega)
      rw [e]
      refine AW.heq (show hfill (Z2 (h3R h) 21) 53 0 0 20 0 = h4R h from rfl) ?_
      refine r_aload_n (i0 := 0) C d_R_closeYear_108 rfl rfl ?_
      refine r_iconst C d_R_closeYear_109 (by decide) ?_
      refine r_putI C pl_R_37 d_R_closeYear_110 rfl ?_
      refine r_aload_n (i0 := 0) C d_R_closeYear_113 rfl rfl ?_
      refine r_iconst C d_R_closeYear_114 (by decide) ?_
      refine r_putI C pl_R_41 d_R_closeYear_115 rfl ?_
      refine r_aload_n (i0 := 0) C d_R_closeYear_118 rfl rfl ?_
      refine r_iconst C d_R_closeYear_119 (by decide) ?_
      refine r_putI C pl_R_117 d_R_closeYear_120 rfl ?_
      refine r_aload_n (i0 := 0) C d_R_closeYear_123 rfl rfl ?_
      refine r_iconst C d_R_closeYear_124 (by decide) ?_
      refine r_putZ C pl_R_98 d_R_closeYear_125 rfl (by omega) ?_
      refine AW.heq (show _ = cyR h from rfl) ?_
      refine r_aload_n (i0 := 0) C d_R_closeYear_128 rfl rfl ?_
      refine r_callVp C cl_R_113 im_R_allUnits rfl rfl (c_R_allUnits hx kn ku) rfl rfl d_R_closeYear_129 (by decide) (Nat.le_of_ble_eq_true rfl) ?_
      rw [v7, v8, Int.toNat_natCast]
      exact r_iret C d_R_closeYear_132 (fun _ => Rout.retv (by rw [if_neg hbl]) rfl rfl) (by decide) (fun q => nomatch q)
    · refine r_aload_n (i0 := 0) C d_R_closeYear_95 rfl rfl ?_
      refine r_getO C fl_R_56 d_R_closeYear_96 rfl rfl (fun hi => hi) ?_
      refine r_iload_n (i0 := 2) C d_R_closeYear_99 rfl rfl ?_
      refine r_iconst C d_R_closeYear_100 (by decide) ?_
      refine r_iastore (ln := 20) C d_R_closeYear_101 rfl (fun _ => rfl) rfl (by omega) ?_
      refine r_iinc C d_R_closeYear_102 rfl (by decide) (by omega) ?_
      refine r_goto (tgt := 89) C d_R_closeYear_105 (by decide) ?_
      have e2 : (i + 1).toNat = i.toNat + 1 := by omega
      have ee := ih (m - 1) (by omega) (i + 1) (by omega) (by omega) (by omega)
      rw [e2] at ee
      have es := hfill_succ (Z2 (h3R h) 21) 53 0 0 i.toNat 0
      rw [Nat.zero_add] at es
      exact AW.lvs [(2, _), (0, _)] ⟨rfl, rfl, trivial⟩ (AW.heq es ee)
  have loop2 : ¬ h 40 0 19 = 0 → ∀ (m : Nat) (i : Int), 0 ≤ i → i ≤ 21 → (21 - i).toNat = m → AW x w 3 false 0 0 (AQ x w false 0 0 (Rout (if h 40 0 19 = 0 then 1 else 0) (some (vI 0)) (some (vI (sumF (nuR (h1R h)) (h2R h 48 0)))) h (fun h' => h' = cyR h))) 61 [(2, vI i), (0, vO 40 0)] [] (Z2 (h3R h) i.toNat) := by
    intro hbl
    intro m
    induction m using Nat.strongRecOn with
    | _ m ih =>
    intro i hi0 hi1 hm
    refine r_iload_n (i0 := 2) C d_R_closeYear_61 rfl rfl ?_
    refine r_bipush C d_R_closeYear_62 (by decide) (by decide) ?_
    refine r_icmp_ge (tgt := 87) C d_R_closeYear_64 (by decide) (fun q64 => ?_) (fun q64 => ?_)
    · refine r_iconst C d_R_closeYear_87 (by decide) ?_
      refine r_istore_n (i0 := 2) C d_R_closeYear_88 rfl (by decide) ?_
      have e : i.toNat = 21 := (by omega)
      rw [e]
      exact AW.lvs [(2, _), (0, _)] ⟨rfl, rfl, trivial⟩ (AW.dirty (AW.heq (hfill_zero _ 53 0 0 0).symm (loop3 hbl _ 0 (by omega) (by omega) rfl)))
    · refine r_aload_n (i0 := 0) C d_R_closeYear_67 rfl rfl ?_
      refine r_getO C fl_R_59 d_R_closeYear_68 rfl rfl (fun hi => hi) ?_
      refine r_iload_n (i0 := 2) C d_R_closeYear_71 rfl rfl ?_
      refine r_iconst C d_R_closeYear_72 (by decide) ?_
      refine r_iastore (ln := 21) C d_R_closeYear_73 rfl (fun _ => rfl) rfl (by omega) ?_
      refine r_aload_n (i0 := 0) C d_R_closeYear_74 rfl rfl ?_
      refine r_getO C fl_R_62 d_R_closeYear_75 rfl rfl (fun hi => hi) ?_
      refine r_iload_n (i0 := 2) C d_R_closeYear_78 rfl rfl ?_
      refine r_iconst C d_R_closeYear_79 (by decide) ?_
      refine r_iastore (ln := 21) C d_R_closeYear_80 rfl (fun _ => rfl) rfl (by omega) ?_
      refine r_iinc C d_R_closeYear_81 rfl (by decide) (by omega) ?_
      refine r_goto (tgt := 61) C d_R_closeYear_84 (by decide) ?_
      have e2 : (i + 1).toNat = i.toNat + 1 := by omega
      have ee := ih (m - 1) (by omega) (i + 1) (by omega) (by omega) (by omega)
      rw [e2] at ee
      exact AW.lvs [(2, _), (0, _)] ⟨rfl, rfl, trivial⟩ (AW.heq (Z2_step _ _) ee)
  have hv := h2R_v h
  have loop1 : ¬ h 40 0 19 = 0 → ∀ (m : Nat) (i : Int), 0 ≤ i → i ≤ h 40 0 1 → (h 40 0 1 - i).toNat = m → AW x w 3 false 0 0 (AQ x w false 0 0 (Rout (if h 40 0 19 = 0 then 1 else 0) (some (vI 0)) (some (vI (sumF (nuR (h1R h)) (h2R h 48 0)))) h (fun h' => h' = cyR h))) 40 [(2, vI i), (0, vO 40 0)] [] (nyR (lR (h2R h)) i.toNat) := by
    intro hbl
    intro m
    induction m using Nat.strongRecOn with
    | _ m ih =>
    intro i hi0 hi1 hm
    refine r_iload_n (i0 := 2) C d_R_closeYear_40 rfl rfl ?_
    refine r_aload_n (i0 := 0) C d_R_closeYear_41 rfl rfl ?_
    refine r_getI C fl_R_88 d_R_closeYear_42 rfl ?_
    rw [nyR_fr _ (by decide), lR_1, h2R_40 h (by decide) (by decide)]
    refine r_icmp_ge (tgt := 59) C d_R_closeYear_45 (by decide) (fun q45 => ?_) (fun q45 => ?_)
    · refine r_iconst C d_R_closeYear_59 (by decide) ?_
      refine r_istore_n (i0 := 2) C d_R_closeYear_60 rfl (by decide) ?_
      have e : i.toNat = nR h := (by show i.toNat = (h 40 0 1).toNat; omega)
      rw [e]
      exact AW.lvs [(2, _), (0, _)] ⟨rfl, rfl, trivial⟩ (AW.dirty (AW.heq (Z2_zero _) (loop2 hbl _ 0 (by omega) (by omega) rfl)))
    · refine r_aload_n (i0 := 0) C d_R_closeYear_48 rfl rfl ?_
      refine r_iload_n (i0 := 2) C d_R_closeYear_49 rfl rfl ?_
      refine r_callVw C cl_R_242 im_R_nextYear rfl rfl (c_R_nextYear hx (by omega) (by rw [nyR_fr _ (by decide), lR_30, hv.2.2.1]; exact hb) (by rw [nyR_fr _ (by decide), nyR_fr _ (by decide), lR_30, lR_56 _ (by rw [hv.1]; show i.toNat < (h 40 0 1).toNat; omega), hv.2.2.1, hv.2.1]; exact ht i.toNat (by show i.toNat < (h 40 0 1).toNat; omega))) rfl rfl d_R_closeYear_50 (by decide) (by decide) (Nat.le_of_ble_eq_true rfl) (fun h50 p50 => ?_)
      subst p50
      rw [nyR_fr _ (show (56 : Nat) ≠ 44 ∧ (56 : Nat) ≠ 45 ∧ (56 : Nat) ≠ 46 ∧ (56 : Nat) ≠ 47 by decide), nyR_fr _ (show (40 : Nat) ≠ 44 ∧ (40 : Nat) ≠ 45 ∧ (40 : Nat) ≠ 46 ∧ (40 : Nat) ≠ 47 by decide)]
      refine r_iinc C d_R_closeYear_53 rfl (by decide) (by omega) ?_
      refine r_goto (tgt := 40) C d_R_closeYear_56 (by decide) ?_
      have e2 : (i + 1).toNat = i.toNat + 1 := by omega
      have ee := ih (m - 1) (by omega) (i + 1) (by omega) (by omega) (by omega)
      rw [e2] at ee
      exact AW.lvs [(2, _), (0, _)] ⟨rfl, rfl, trivial⟩ ee
  have j25 : ¬ h 40 0 19 = 0 → AW x w 3 false 0 0 (AQ x w false 0 0 (Rout (if h 40 0 19 = 0 then 1 else 0) (some (vI 0)) (some (vI (sumF (nuR (h1R h)) (h2R h 48 0)))) h (fun h' => h' = cyR h))) 25 [(0, vO 40 0)] [] (hset h 40 0 0 0) := by
    intro hbl
    refine r_aload_n (i0 := 0) C d_R_closeYear_25 rfl rfl ?_
    refine r_callVw C cl_R_236 im_R_sendAll rfl rfl (c_R_sendAll hx (PRk_t hp _)) rfl rfl d_R_closeYear_26 (by decide) (by decide) (Nat.le_of_ble_eq_true rfl) (fun h26 p26 => ?_)
    have e26 : h26 = h1R h := p26
    subst e26
    refine r_istore_n (i0 := 1) C d_R_closeYear_29 rfl (by decide) ?_
    refine r_aload_n (i0 := 0) C d_R_closeYear_30 rfl rfl ?_
    refine r_callVw C cl_R_239 im_R_keepStock rfl rfl (c_R_keepStock hx (by rw [h1R_40 h (by decide)]; exact hL) hU1 (by rw [h1R_40 h (by decide)]; exact hs)) rfl rfl d_R_closeYear_31 (by decide) (by decide) (Nat.le_of_ble_eq_true rfl) (fun h31 p31 => ?_)
    have e31 : h31 = h2R h := p31
    subst e31
    refine r_aload_n (i0 := 0) C d_R_closeYear_34 rfl rfl ?_
    refine r_callVw C cl_R_159 im_R_look rfl rfl (c_R_look hx (by rw [h2R_40 h (by decide) (by decide)]; exact hc) (by rw [h2R_40 h (by decide) (by decide)]; unfold FIr; rw [hv.2.2.2.1, hv.2.2.2.2.1, hv.2.2.2.2.2.1, hv.2.2.2.2.2.2]; exact hF)) rfl rfl d_R_closeYear_35 (by decide) (by decide) (Nat.le_of_ble_eq_true rfl) (fun h35 p35 => ?_)
    have e35 : h35 = lR (h2R h) := p35
    subst e35
    refine r_iconst C d_R_closeYear_38 (by decide) ?_
    refine r_istore_n (i0 := 2) C d_R_closeYear_39 rfl (by decide) ?_
    exact AW.lvs [(2, _), (0, _)] ⟨rfl, rfl, trivial⟩ (AW.dirty (loop1 hbl _ 0 (by omega) (by omega) rfl))
  refine r_aload_n (i0 := 0) C d_R_closeYear_0 rfl rfl ?_
  refine r_aload_n (i0 := 0) C d_R_closeYear_1 rfl rfl ?_
  refine r_getI C fl_R_98 d_R_closeYear_2 rfl ?_
  refine r_if_eq (tgt := 12) C d_R_closeYear_5 (by decide) (fun q5 => ?_) (fun q5 => ?_)
  · refine r_iconst C d_R_closeYear_12 (by decide) ?_
    refine r_putI C pl_R_85 d_R_closeYear_13 rfl ?_
    refine r_aload_n (i0 := 0) C d_R_closeYear_16 rfl rfl ?_
    refine r_getI C fl_R_85 d_R_closeYear_17 rfl ?_
    simp only [hset_same]
    refine r_if_le (tgt := 25) C d_R_closeYear_20 (by decide) (fun q20 => ?_) (fun q20 => ?_)
    · first | (exfalso; omega) | exact j25 (by omega)
    · refine r_iconst C d_R_closeYear_23 (by decide) ?_
      exact r_iret C d_R_closeYear_24 (fun _ => by first | exact Rout.thr (by rw [if_pos (by omega)]) (by decide) | (exfalso; omega)) (by decide) (fun q => nomatch q)
  · refine r_iconst C d_R_closeYear_8 (by decide) ?_
    refine r_goto (tgt := 13) C d_R_closeYear_9 (by decide) ?_
    refine r_putI C pl_R_85 d_R_closeYear_13 rfl ?_
    refine r_aload_n (i0 := 0) C d_R_closeYear_16 rfl rfl ?_
    refine r_getI C fl_R_85 d_R_closeYear_17 rfl ?_
    simp only [hset_same]
    refine r_if_le (tgt := 25) C d_R_closeYear_20 (by decide) (fun q20 => ?_) (fun q20 => ?_)
    · first | (exfalso; omega) | exact j25 (by omega)
    · refine r_iconst C d_R_closeYear_23 (by decide) ?_
      exact r_iret C d_R_closeYear_24 (fun _ => by first | exact Rout.thr (by rw [if_pos (by omega)]) (by decide) | (exfalso; omega)) (by decide) (fun q => nomatch q)

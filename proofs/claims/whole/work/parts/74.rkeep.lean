/-! Contracts of the reference: the stock that is kept. -/
theorem krow_base {v q u u' : Nat → Int} : ∀ {n j : Nat}, j < kct v n → krow v q u n j = krow v q u' n j := by
  intro n
  induction n with
  | zero => intro j h; exact absurd h (Nat.not_lt_zero _)
  | succ n ih =>
    intro j h
    unfold kct at h
    unfold krow
    by_cases c : 0 < v n
    · rw [if_pos c] at h
      rw [if_pos c, if_pos c]
      unfold upI
      by_cases e : j = kct v n
      · rw [if_pos e, if_pos e]
      · rw [if_neg e, if_neg e]; exact ih (by omega)
    · rw [if_neg c] at h
      rw [if_neg c, if_neg c]; exact ih h
def KR2 (h : AH) (u c : Nat → Int) : AH := fun t i j => if t = 60 ∧ i = 0 then u j else if t = 57 ∧ i = 0 then c j else h t i j
theorem KR2_fr (h : AH) (u c : Nat → Int) {t : Nat} (e : t ≠ 60 ∧ t ≠ 57) : KR2 h u c t = h t := by funext i j; unfold KR2; rw [if_neg (by omega), if_neg (by omega)]
theorem KR2_60 (h : AH) (u c : Nat → Int) : KR2 h u c 60 0 = u := by funext j; unfold KR2; rw [if_pos ⟨rfl, rfl⟩]
theorem KR2_57 (h : AH) (u c : Nat → Int) : KR2 h u c 57 0 = c := by funext j; unfold KR2; rw [if_neg (by omega), if_pos ⟨rfl, rfl⟩]
theorem KR2_self (h : AH) : h = KR2 h (h 60 0) (h 57 0) := by
  funext t i j; unfold KR2
  split
  · rename_i z; obtain ⟨rfl, rfl⟩ := z; rfl
  · split
    · rename_i z; obtain ⟨rfl, rfl⟩ := z; rfl
    · rfl
theorem KR2_step (h : AH) (u c : Nat → Int) (g : Nat) (a b : Int) : hset (hset (KR2 h u c) 60 0 g a) 57 0 g b = KR2 h (upI u g a) (upI c g b) := by
  funext t i j; unfold hset KR2 upI
  by_cases e8 : t = 60 ∧ i = 0
  · obtain ⟨rfl, rfl⟩ := e8
    by_cases z : j = g <;> simp [z]
  · by_cases e9 : t = 57 ∧ i = 0
    · obtain ⟨rfl, rfl⟩ := e9
      by_cases z : j = g <;> simp [z]
    · rw [if_neg (by omega), if_neg (by omega), if_neg e8, if_neg e9, if_neg e8, if_neg e9]
def vR (h : AH) : Nat → Int := inV (h 40 0 10).toNat (h 48 0) (h 40 0 13)
def qR (h : AH) : Nat → Int := ciV (h 40 0 10).toNat (h 48 0) (h 49 0) (h 40 0 13)
def ksR (h : AH) (n : Nat) : AH := KR2 h (krow (vR h) (vR h) (h 60 0) n) (krow (vR h) (qR h) (h 57 0) n)
/-- the first n rows are copied -/
def KC (g : AH) (n : Nat) : AH := fun t i j => if t = 48 ∧ i = 0 ∧ j < n then g 60 0 j else if t = 49 ∧ i = 0 ∧ j < n then g 57 0 j else g t i j
theorem KC_fr (g : AH) (n : Nat) {t : Nat} (e : t ≠ 48 ∧ t ≠ 49) : KC g n t = g t := by funext i j; unfold KC; rw [if_neg (by omega), if_neg (by omega)]
theorem KC_zero (g : AH) : g = KC g 0 := by funext t i j; unfold KC; rw [if_neg (by omega), if_neg (by omega)]
theorem KC_48 (g : AH) {n j : Nat} (h : j < n) : KC g n 48 0 j = g 60 0 j := by unfold KC; rw [if_pos ⟨rfl, rfl, h⟩]
theorem KC_49 (g : AH) {n j : Nat} (h : j < n) : KC g n 49 0 j = g 57 0 j := by unfold KC; rw [if_neg (by omega), if_pos ⟨rfl, rfl, h⟩]
theorem KC_step (g : AH) (n : Nat) : hset (hset (KC g n) 48 0 n (g 60 0 n)) 49 0 n (g 57 0 n) = KC g (n + 1) := by
  funext t i j; unfold hset KC
  by_cases e19 : t = 48 ∧ i = 0
  · obtain ⟨rfl, rfl⟩ := e19
    by_cases z : j = n
    · subst z; simp
    · by_cases z1 : j < n
      · simp [z, z1, show j < n + 1 by omega]
      · simp [z, z1, show ¬ j < n + 1 by omega]
  · by_cases e22 : t = 49 ∧ i = 0
    · obtain ⟨rfl, rfl⟩ := e22
      by_cases z : j = n
      · subst z; simp
      · by_cases z1 : j < n
        · simp [z, z1, show j < n + 1 by omega]
        · simp [z, z1, show ¬ j < n + 1 by omega]
    · rw [if_neg (by omega), if_neg (by omega), if_neg (by omega), if_neg (by omega), if_neg (by omega), if_neg (by omega)]
def nuR (h : AH) : Nat := kct (vR h) (h 40 0 10).toNat
/-- after keepStock -/
def kpR (h : AH) : AH := hset (KC (ksR h (h 40 0 10).toNat) (nuR h)) 40 0 10 (nuR h : Nat)
theorem kpR_fr (h : AH) {t : Nat} (e : t ≠ 40 ∧ t ≠ 48 ∧ t ≠ 49 ∧ t ≠ 57 ∧ t ≠ 60) : kpR h t = h t := by
  unfold kpR; rw [hset_fr _ _ _ _ e.1, KC_fr _ _ ⟨e.2.1, e.2.2.1⟩]; exact KR2_fr _ _ _ ⟨e.2.2.2.2, e.2.2.2.1⟩
theorem kpR_48 (h : AH) {j : Nat} (hj : j < nuR h) : kpR h 48 0 j = krow (vR h) (vR h) (h 48 0) (h 40 0 10).toNat j := by
  unfold kpR; rw [hset_tag _ _ (by decide), KC_48 _ hj]
  show KR2 _ _ _ 60 0 j = _
  rw [KR2_60]; exact krow_base hj
theorem kpR_49 (h : AH) {j : Nat} (hj : j < nuR h) : kpR h 49 0 j = krow (vR h) (qR h) (h 49 0) (h 40 0 10).toNat j := by
  unfold kpR; rw [hset_tag _ _ (by decide), KC_49 _ hj]
  show KR2 _ _ _ 57 0 j = _
  rw [KR2_57]; exact krow_base hj
set_option maxHeartbeats 1000000 in
theorem c_R_keepStock {l : Launch} (hl : l.stackTraces = false) {w : XW} {h : AH} (hL : 0 ≤ h 40 0 10) (hU : FUv (h 40 0 10).toNat (h 48 0) (h 49 0)) (hs : -1 ≤ h 40 0 13 ∧ h 40 0 13 ≤ 12000) : AM l y_R_keepStock (wsM y_R_keepStock b_R_keepStock 5 none []) false (rmV 3 0) w [vO 40 0] h (RetP none (fun h' => h' = kpR h)) := by
  refine AM.of hl (by decide +kernel) (Nat.le_of_ble_eq_true rfl) fun x hx C _ => ?_
  have hL1 := hU.1
  have kl0 := kct_le (vR h) (h 40 0 10).toNat
  have nu : nuR h = kct (vR h) (h 40 0 10).toNat := rfl
  have loop2 : ∀ (m : Nat) (i : Int), 0 ≤ i → i ≤ (nuR h : Nat) → (((nuR h : Nat) : Int) - i).toNat = m → AW x w 5 false 0 0 (AQ x w false 0 0 (RetP none (fun h' => h' = kpR h))) 55 [(2, vI i), (1, vI ((nuR h : Nat) : Int)), (0, vO 40 0)] [] (KC (ksR h (h 40 0 10).toNat) i.toNat) := by
    intro m
    induction m using Nat.strongRecOn with
    | _ m ih =>
    intro i hi0 hi1 hm
    refine r_iload_n (i0 := 2) C d_R_keepStock_55 rfl rfl ?_
    refine r_iload_n (i0 := 1) C d_R_keepStock_56 rfl rfl ?_
    refine r_icmp_ge (tgt := 90) C d_R_keepStock_57 (by decide) (fun q57 => ?_) (fun q57 => ?_)
    · have e : i.toNat = nuR h := (by omega)
      rw [e]
      refine r_aload_n (i0 := 0) C d_R_keepStock_90 rfl rfl ?_
      refine r_iload_n (i0 := 1) C d_R_keepStock_91 rfl rfl ?_
      refine r_putI C pl_R_110 d_R_keepStock_92 rfl ?_
      exact r_vret C d_R_keepStock_95 (⟨rfl, rfl⟩) (by decide) (fun q => nomatch q)
    · refine r_aload_n (i0 := 0) C d_R_keepStock_60 rfl rfl ?_
      refine r_getO C fl_R_31 d_R_keepStock_61 rfl rfl (fun hi => hi) ?_
      refine r_iload_n (i0 := 2) C d_R_keepStock_64 rfl rfl ?_
      refine r_aload_n (i0 := 0) C d_R_keepStock_65 rfl rfl ?_
      refine r_getO C fl_R_78 d_R_keepStock_66 rfl rfl (fun hi => hi) ?_
      refine r_iload_n (i0 := 2) C d_R_keepStock_69 rfl rfl ?_
      refine r_iaload (ln := 72) C d_R_keepStock_70 rfl (fun _ => rfl) rfl (by omega) ?_
      rw [KC_fr _ _ (by decide)]
      refine r_iastore (ln := 12) C d_R_keepStock_71 rfl (fun _ => rfl) rfl (by omega) ?_
      refine r_aload_n (i0 := 0) C d_R_keepStock_72 rfl rfl ?_
      refine r_getO C fl_R_34 d_R_keepStock_73 rfl rfl (fun hi => hi) ?_
      refine r_iload_n (i0 := 2) C d_R_keepStock_76 rfl rfl ?_
      refine r_aload_n (i0 := 0) C d_R_keepStock_77 rfl rfl ?_
      refine r_getO C fl_R_69 d_R_keepStock_78 rfl rfl (fun hi => hi) ?_
      refine r_iload_n (i0 := 2) C d_R_keepStock_81 rfl rfl ?_
      refine r_iaload (ln := 72) C d_R_keepStock_82 rfl (fun _ => rfl) rfl (by omega) ?_
      rw [hset_tag _ _ (by decide), KC_fr _ _ (by decide)]
      refine r_iastore (ln := 12) C d_R_keepStock_83 rfl (fun _ => rfl) rfl (by omega) ?_
      refine r_iinc C d_R_keepStock_84 rfl (by decide) (by omega) ?_
      refine r_goto (tgt := 55) C d_R_keepStock_87 (by decide) ?_
      have e2 : (i + 1).toNat = i.toNat + 1 := by omega
      have ee := ih (m - 1) (by omega) (i + 1) (by omega) (by omega) (by omega)
      rw [e2] at ee
      exact AW.lvs [(2, _), (1, _), (0, _)] ⟨rfl, rfl, rfl, trivial⟩ (AW.heq (KC_step _ _) ee)
  have loop : ∀ (m : Nat) (i A : Int), 0 ≤ i → i ≤ (h 40 0 10) → ((h 40 0 10) - i).toNat = m → A = ((kct (vR h) i.toNat : Nat) : Int) → AW x w 5 false 0 0 (AQ x w false 0 0 (RetP none (fun h' => h' = kpR h))) 4 [(2, vI i), (1, vI A), (0, vO 40 0)] [] (ksR h i.toNat) := by
    intro m
    induction m using Nat.strongRecOn with
    | _ m ih =>
    intro i A hi0 hi1 hm hA
    refine r_iload_n (i0 := 2) C d_R_keepStock_4 rfl rfl ?_
    refine r_aload_n (i0 := 0) C d_R_keepStock_5 rfl rfl ?_
    refine r_getI C fl_R_110 d_R_keepStock_6 rfl ?_
    rw [show ksR h i.toNat 40 = h 40 from KR2_fr _ _ _ (by decide)]
    refine r_icmp_ge (tgt := 53) C d_R_keepStock_9 (by decide) (fun q9 => ?_) (fun q9 => ?_)
    · refine r_iconst C d_R_keepStock_53 (by decide) ?_
      refine r_istore_n (i0 := 2) C d_R_keepStock_54 rfl (by decide) ?_
      have e : i.toNat = (h 40 0 10).toNat := (by omega)
      rw [e] at hA
      rw [hA, e]
      exact AW.lvs [(2, _), (1, _), (0, _)] ⟨rfl, rfl, rfl, trivial⟩ (AW.dirty (AW.heq (KC_zero _) (loop2 _ 0 (by omega) (by omega) rfl)))
    · have kl := kct_le (vR h) i.toNat
      have hi : i.toNat < (h 40 0 10).toNat := by omega
      have v0 := inV_bd (s := h 40 0 13) hU hi
      refine r_aload_n (i0 := 0) C d_R_keepStock_12 rfl rfl ?_
      refine r_iload_n (i0 := 2) C d_R_keepStock_13 rfl rfl ?_
      refine r_callVp C cl_R_162 im_R_inStock rfl rfl (c_R_inStock hx (by rw [show ksR h i.toNat 40 = h 40 from KR2_fr _ _ _ (by decide)]; exact hL) (by rw [show ksR h i.toNat 40 = h 40 from KR2_fr _ _ _ (by decide), show ksR h i.toNat 48 = h 48 from KR2_fr _ _ _ (by decide), show ksR h i.toNat 49 = h 49 from KR2_fr _ _ _ (by decide)]; exact hU) (by rw [show ksR h i.toNat 40 = h 40 from KR2_fr _ _ _ (by decide)]; exact hs) (by rw [show ksR h i.toNat 40 = h 40 from KR2_fr _ _ _ (by decide)]; omega)) rfl rfl d_R_keepStock_14 (by decide) (Nat.le_of_ble_eq_true rfl) ?_
      rw [show ksR h i.toNat 40 = h 40 from KR2_fr _ _ _ (by decide), show ksR h i.toNat 48 = h 48 from KR2_fr _ _ _ (by decide)]
      rw [show inV (h 40 0 10).toNat (h 48 0) (h 40 0 13) i.toNat = vR h i.toNat from rfl]
      refine r_istore_n (i0 := 3) C d_R_keepStock_17 rfl (by decide) ?_
      refine r_aload_n (i0 := 0) C d_R_keepStock_18 rfl rfl ?_
      refine r_iload_n (i0 := 2) C d_R_keepStock_19 rfl rfl ?_
      refine r_callVp C cl_R_165 im_R_centsInStock rfl rfl (c_R_centsInStock hx (by rw [show ksR h i.toNat 40 = h 40 from KR2_fr _ _ _ (by decide)]; exact hL) (by rw [show ksR h i.toNat 40 = h 40 from KR2_fr _ _ _ (by decide), show ksR h i.toNat 48 = h 48 from KR2_fr _ _ _ (by decide), show ksR h i.toNat 49 = h 49 from KR2_fr _ _ _ (by decide)]; exact hU) (by rw [show ksR h i.toNat 40 = h 40 from KR2_fr _ _ _ (by decide)]; exact hs) (by rw [show ksR h i.toNat 40 = h 40 from KR2_fr _ _ _ (by decide)]; omega)) rfl rfl d_R_keepStock_20 (by decide) (Nat.le_of_ble_eq_true rfl) ?_
      rw [show ksR h i.toNat 40 = h 40 from KR2_fr _ _ _ (by decide), show ksR h i.toNat 48 = h 48 from KR2_fr _ _ _ (by decide), show ksR h i.toNat 49 = h 49 from KR2_fr _ _ _ (by decide)]
      rw [show ciV (h 40 0 10).toNat (h 48 0) (h 49 0) (h 40 0 13) i.toNat = qR h i.toNat from rfl]
      refine r_istore C d_R_keepStock_23 (by decide) ?_
      refine r_iload_n (i0 := 3) C d_R_keepStock_25 rfl rfl ?_
      refine r_if_le (tgt := 47) C d_R_keepStock_26 (by decide) (fun q26 => ?_) (fun q26 => ?_)
      · refine r_iinc C d_R_keepStock_47 rfl (by decide) (by omega) ?_
        refine r_goto (tgt := 4) C d_R_keepStock_50 (by decide) ?_
        have e2 : (i + 1).toNat = i.toNat + 1 := by omega
        first
          | (refine AW.lvs [(2, _), (1, _), (0, _)] ⟨rfl, rfl, rfl, trivial⟩ (AW.heq ?_ (ih (m - 1) (by omega) (i + 1) _ (by omega) (by omega) (by omega) ?_))
             · rw [e2, hA, show ((((kct (vR h) i.toNat) : Nat) : Int)).toNat = kct (vR h) i.toNat from Int.toNat_natCast _]; show hset (hset (KR2 h _ _) 60 0 _ _) 57 0 _ _ = KR2 h (if 0 < vR h i.toNat then _ else _) (if 0 < vR h i.toNat then _ else _); rw [if_pos (by omega), if_pos (by omega)]; exact KR2_step _ _ _ _ _ _
             · rw [e2]; show A + 1 = ((if 0 < vR h i.toNat then _ else _ : Nat) : Int); rw [if_pos (by omega)]; omega)
          | (refine AW.lvs [(2, _), (1, _), (0, _)] ⟨rfl, rfl, rfl, trivial⟩ (AW.heq ?_ (ih (m - 1) (by omega) (i + 1) _ (by omega) (by omega) (by omega) ?_))
             · rw [e2]; show KR2 h _ _ = KR2 h (if 0 < vR h i.toNat then _ else _) (if 0 < vR h i.toNat then _ else _); rw [if_neg (by omega), if_neg (by omega)]
             · rw [e2]; show A = ((if 0 < vR h i.toNat then _ else _ : Nat) : Int); rw [if_neg (by omega)]; omega)
      · refine r_aload_n (i0 := 0) C d_R_keepStock_29 rfl rfl ?_
        refine r_getO C fl_R_78 d_R_keepStock_30 rfl rfl (fun hi => hi) ?_
        refine r_iload_n (i0 := 1) C d_R_keepStock_33 rfl rfl ?_
        refine r_iload_n (i0 := 3) C d_R_keepStock_34 rfl rfl ?_
        refine r_iastore (ln := 72) C d_R_keepStock_35 rfl (fun _ => rfl) rfl (by omega) ?_
        refine r_aload_n (i0 := 0) C d_R_keepStock_36 rfl rfl ?_
        refine r_getO C fl_R_69 d_R_keepStock_37 rfl rfl (fun hi => hi) ?_
        refine r_iload_n (i0 := 1) C d_R_keepStock_40 rfl rfl ?_
        refine r_iload C d_R_keepStock_41 rfl ?_
        refine r_iastore (ln := 72) C d_R_keepStock_43 rfl (fun _ => rfl) rfl (by omega) ?_
        refine r_iinc C d_R_keepStock_44 rfl (by decide) (by omega) ?_
        refine r_iinc C d_R_keepStock_47 rfl (by decide) (by omega) ?_
        refine r_goto (tgt := 4) C d_R_keepStock_50 (by decide) ?_
        have e2 : (i + 1).toNat = i.toNat + 1 := by omega
        first
          | (refine AW.lvs [(2, _), (1, _), (0, _)] ⟨rfl, rfl, rfl, trivial⟩ (AW.heq ?_ (ih (m - 1) (by omega) (i + 1) _ (by omega) (by omega) (by omega) ?_))
             · rw [e2, hA, show ((((kct (vR h) i.toNat) : Nat) : Int)).toNat = kct (vR h) i.toNat from Int.toNat_natCast _]; show hset (hset (KR2 h _ _) 60 0 _ _) 57 0 _ _ = KR2 h (if 0 < vR h i.toNat then _ else _) (if 0 < vR h i.toNat then _ else _); rw [if_pos (by omega), if_pos (by omega)]; exact KR2_step _ _ _ _ _ _
             · rw [e2]; show A + 1 = ((if 0 < vR h i.toNat then _ else _ : Nat) : Int); rw [if_pos (by omega)]; omega)
          | (refine AW.lvs [(2, _), (1, _), (0, _)] ⟨rfl, rfl, rfl, trivial⟩ (AW.heq ?_ (ih (m - 1) (by omega) (i + 1) _ (by omega) (by omega) (by omega) ?_))
             · rw [e2]; show KR2 h _ _ = KR2 h (if 0 < vR h i.toNat then _ else _) (if 0 < vR h i.toNat then _ else _); rw [if_neg (by omega), if_neg (by omega)]
             · rw [e2]; show A = ((if 0 < vR h i.toNat then _ else _ : Nat) : Int); rw [if_neg (by omega)]; omega)
  refine r_iconst C d_R_keepStock_0 (by decide) ?_
  refine r_istore_n (i0 := 1) C d_R_keepStock_1 rfl (by decide) ?_
  refine r_iconst C d_R_keepStock_2 (by decide) ?_
  refine r_istore_n (i0 := 2) C d_R_keepStock_3 rfl (by decide) ?_
  exact AW.lvs [(2, _), (1, _), (0, _)] ⟨rfl, rfl, rfl, trivial⟩ (AW.dirty (AW.heq (KR2_self h) (loop _ 0 0 (by omega) (by omega) rfl rfl)))

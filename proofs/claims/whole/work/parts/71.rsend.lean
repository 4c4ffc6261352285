/-! Contracts of the reference: sending, replaced. -/
def soR (h : AH) : Nat → Int := fun r => h 52 0 (3 * r) + h 52 0 (3 * r + 1) + h 52 0 (3 * r + 2)
def dfR (h : AH) : Nat → Int := fun j => if soR h j - h 54 0 j ≠ 0 then 1 else 0
theorem soR_ix (h : AH) {a : Int} (ha : 0 ≤ a) : h 52 0 (3 * a).toNat + h 52 0 (3 * a + 1).toNat + h 52 0 (3 * a + 2).toNat = soR h a.toNat := by
  unfold soR
  rw [show (3 * a).toNat = 3 * a.toNat by omega, show (3 * a + 1).toNat = 3 * a.toNat + 1 by omega, show (3 * a + 2).toNat = 3 * a.toNat + 2 by omega]
def PR (h : AH) (n : Nat) : AH := fun t i j => if t = 55 ∧ i = 0 ∧ j < n then soR h j - h 54 0 j else if t = 54 ∧ i = 0 ∧ j < n then soR h j else h t i j
theorem PR_fr (h : AH) (n : Nat) {t : Nat} (e : t ≠ 55 ∧ t ≠ 54) : PR h n t = h t := by funext i j; unfold PR; rw [if_neg (by omega), if_neg (by omega)]
theorem PR_so (h : AH) (n : Nat) : soR (PR h n) = soR h := by funext r; unfold soR; rw [PR_fr _ _ (by decide)]
theorem PR_zero (h : AH) : h = PR h 0 := by funext t i j; unfold PR; rw [if_neg (by omega), if_neg (by omega)]
theorem PR_54 (h : AH) (n : Nat) : PR h n 54 0 n = h 54 0 n := by unfold PR; rw [if_neg (by omega), if_neg (by omega)]
theorem PR_step (h : AH) (n : Nat) : hset (hset (PR h n) 55 0 n (soR h n - h 54 0 n)) 54 0 n (soR h n) = PR h (n + 1) := by
  funext t i j; unfold hset PR
  by_cases e19 : t = 55 ∧ i = 0
  · obtain ⟨rfl, rfl⟩ := e19
    by_cases z : j = n
    · subst z; simp
    · by_cases z1 : j < n
      · simp [z, z1, show j < n + 1 by omega]
      · simp [z, z1, show ¬ j < n + 1 by omega]
  · by_cases e22 : t = 54 ∧ i = 0
    · obtain ⟨rfl, rfl⟩ := e22
      by_cases z : j = n
      · subst z; simp
      · by_cases z1 : j < n
        · simp [z, z1, show j < n + 1 by omega]
        · simp [z, z1, show ¬ j < n + 1 by omega]
    · rw [if_neg (by omega), if_neg (by omega), if_neg (by omega), if_neg (by omega), if_neg (by omega), if_neg (by omega)]
def PRk (h : AH) : Prop := (∀ j : Nat, j < 63 → 0 ≤ h 52 0 j ∧ h 52 0 j ≤ 20000000) ∧ ∀ j : Nat, j < 21 → 0 ≤ h 54 0 j ∧ h 54 0 j ≤ 60000000
theorem so_hset (h : AH) {t : Nat} (i j : Nat) (v : Int) (e : t ≠ 52) : soR (hset h t i j v) = soR h := by funext r; unfold soR; rw [hset_fr _ _ _ _ (Ne.symm e)]
set_option maxHeartbeats 1000000 in
theorem c_R_sendAll {l : Launch} (hl : l.stackTraces = false) {w : XW} {h : AH} (hp : PRk h) : AM l y_R_sendAll (wsM y_R_sendAll b_R_sendAll 3 (some .int) []) false (rmV 1 0) w [vO 40 0] h (RetP (some (vI (sumF 21 (dfR h)))) (fun h' => h' = PR h 21)) := by
  refine AM.of hl (by decide +kernel) (Nat.le_of_ble_eq_true rfl) fun x hx C _ => ?_
  obtain ⟨ho, hs⟩ := hp
  have loop : ∀ (m : Nat) (i A : Int), 0 ≤ i → i ≤ 21 → (21 - i).toNat = m → A = sumF i.toNat (dfR h) → AW x w 3 false 0 0 (AQ x w false 0 0 (RetP (some (vI (sumF 21 (dfR h)))) (fun h' => h' = PR h 21))) 4 [(2, vI i), (1, vI A), (0, vO 40 0)] [] (PR h i.toNat) := by
    intro m
    induction m using Nat.strongRecOn with
    | _ m ih =>
    intro i A hi0 hi1 hm hA
    refine r_iload_n (i0 := 2) C d_R_sendAll_4 rfl rfl ?_
    refine r_bipush C d_R_sendAll_5 (by decide) (by decide) ?_
    refine r_icmp_ge (tgt := 62) C d_R_sendAll_7 (by decide) (fun q7 => ?_) (fun q7 => ?_)
    · refine r_iload_n (i0 := 1) C d_R_sendAll_62 rfl rfl ?_
      exact r_iret C d_R_sendAll_63 (fun _ => ⟨vi_e (by rw [hA, show i.toNat = 21 by omega]), by rw [show i.toNat = 21 by omega]⟩) (by decide) (fun q => nomatch q)
    · have b0 := ho (3 * i.toNat) (by omega)
      have b1 := ho (3 * i.toNat + 1) (by omega)
      have b2 := ho (3 * i.toNat + 2) (by omega)
      have b3 := hs i.toNat (by omega)
      have ow : soR h i.toNat = h 52 0 (3 * i.toNat) + h 52 0 (3 * i.toNat + 1) + h 52 0 (3 * i.toNat + 2) := rfl
      have cb := sumF_bd (g := dfR h) (L := 0) (M := 1) (n := i.toNat) (fun k _ => by unfold dfR; split <;> omega)
      refine r_aload_n (i0 := 0) C d_R_sendAll_10 rfl rfl ?_
      refine r_getO C fl_R_62 d_R_sendAll_11 rfl rfl (fun hi => hi) ?_
      refine r_iload_n (i0 := 2) C d_R_sendAll_14 rfl rfl ?_
      refine r_aload_n (i0 := 0) C d_R_sendAll_15 rfl rfl ?_
      refine r_iload_n (i0 := 2) C d_R_sendAll_16 rfl rfl ?_
      refine r_callVp C cl_R_233 im_R_sumOf rfl rfl (c_R_sumOf hx (by rw [PR_fr _ _ (by decide)]; exact ho) (by omega)) rfl rfl d_R_sendAll_17 (by decide) (Nat.le_of_ble_eq_true rfl) ?_
      rw [soR_ix _ hi0, PR_so]
      refine r_aload_n (i0 := 0) C d_R_sendAll_20 rfl rfl ?_
      refine r_getO C fl_R_59 d_R_sendAll_21 rfl rfl (fun hi => hi) ?_
      refine r_iload_n (i0 := 2) C d_R_sendAll_24 rfl rfl ?_
      refine r_iaload (ln := 21) C d_R_sendAll_25 rfl (fun _ => rfl) rfl (by omega) ?_
      rw [PR_54]
      refine r_isub C d_R_sendAll_26 (by omega) ?_
      refine r_iastore (ln := 21) C d_R_sendAll_27 rfl (fun _ => rfl) rfl (by omega) ?_
      refine r_aload_n (i0 := 0) C d_R_sendAll_28 rfl rfl ?_
      refine r_getO C fl_R_59 d_R_sendAll_29 rfl rfl (fun hi => hi) ?_
      refine r_iload_n (i0 := 2) C d_R_sendAll_32 rfl rfl ?_
      refine r_aload_n (i0 := 0) C d_R_sendAll_33 rfl rfl ?_
      refine r_iload_n (i0 := 2) C d_R_sendAll_34 rfl rfl ?_
      refine r_callVp C cl_R_233 im_R_sumOf rfl rfl (c_R_sumOf hx (by rw [hset_fr _ _ _ _ (by decide), PR_fr _ _ (by decide)]; exact ho) (by omega)) rfl rfl d_R_sendAll_35 (by decide) (Nat.le_of_ble_eq_true rfl) ?_
      rw [soR_ix _ hi0, so_hset _ _ _ _ (by decide), PR_so]
      refine r_iastore (ln := 21) C d_R_sendAll_38 rfl (fun _ => rfl) rfl (by omega) ?_
      refine r_aload_n (i0 := 0) C d_R_sendAll_39 rfl rfl ?_
      refine r_getO C fl_R_62 d_R_sendAll_40 rfl rfl (fun hi => hi) ?_
      refine r_iload_n (i0 := 2) C d_R_sendAll_43 rfl rfl ?_
      refine r_iaload (ln := 21) C d_R_sendAll_44 rfl (fun _ => rfl) rfl (by omega) ?_
      rw [hset_tag _ _ (by decide), hset_same]
      refine r_if_eq (tgt := 54) C d_R_sendAll_45 (by decide) (fun q45 => ?_) (fun q45 => ?_)
      · refine r_iload_n (i0 := 1) C d_R_sendAll_54 rfl rfl ?_
        refine r_istore_n (i0 := 1) C d_R_sendAll_55 rfl (by decide) ?_
        refine r_iinc C d_R_sendAll_56 rfl (by decide) (by omega) ?_
        refine r_goto (tgt := 4) C d_R_sendAll_59 (by decide) ?_
        have e2 : (i + 1).toNat = i.toNat + 1 := by omega
        refine AW.lvs [(2, _), (1, _), (0, _)] ⟨rfl, rfl, rfl, trivial⟩ (AW.heq (PR_step h i.toNat) (AW.heq (by rw [e2]) (ih (m - 1) (by omega) (i + 1) _ (by omega) (by omega) (by omega) ?_)))
        rw [e2, sumF_succ, ← hA]
        unfold dfR
        first
          | (rw [if_pos (by omega)]; done)
          | (rw [if_neg (by omega)]; omega)
      · refine r_iload_n (i0 := 1) C d_R_sendAll_48 rfl rfl ?_
        refine r_iconst C d_R_sendAll_49 (by decide) ?_
        refine r_iadd C d_R_sendAll_50 (by omega) ?_
        refine r_goto (tgt := 55) C d_R_sendAll_51 (by decide) ?_
        refine r_istore_n (i0 := 1) C d_R_sendAll_55 rfl (by decide) ?_
        refine r_iinc C d_R_sendAll_56 rfl (by decide) (by omega) ?_
        refine r_goto (tgt := 4) C d_R_sendAll_59 (by decide) ?_
        have e2 : (i + 1).toNat = i.toNat + 1 := by omega
        refine AW.lvs [(2, _), (1, _), (0, _)] ⟨rfl, rfl, rfl, trivial⟩ (AW.heq (PR_step h i.toNat) (AW.heq (by rw [e2]) (ih (m - 1) (by omega) (i + 1) _ (by omega) (by omega) (by omega) ?_)))
        rw [e2, sumF_succ, ← hA]
        unfold dfR
        first
          | (rw [if_pos (by omega)]; done)
          | (rw [if_neg (by omega)]; omega)
  refine r_iconst C d_R_sendAll_0 (by decide) ?_
  refine r_istore_n (i0 := 1) C d_R_sendAll_1 rfl (by decide) ?_
  refine r_iconst C d_R_sendAll_2 (by decide) ?_
  refine r_istore_n (i0 := 2) C d_R_sendAll_3 rfl (by decide) ?_
  exact AW.lvs [(2, _), (1, _), (0, _)] ⟨rfl, rfl, rfl, trivial⟩ (AW.dirty (AW.heq (PR_zero h) (loop _ 0 0 (by omega) (by omega) rfl rfl)))
theorem PRk_t {h : AH} (H : PRk h) (v : Int) : PRk (hset h 40 0 0 v) := by unfold PRk at *; rw [hset_fr _ _ _ _ (by decide), hset_fr _ _ _ _ (by decide)]; exact H
set_option maxHeartbeats 1000000 in
theorem c_R_send {l : Launch} (hl : l.stackTraces = false) {w : XW} {h : AH} (hp : PRk h) : AM l y_R_send (wsM y_R_send b_R_send 1 (some .int) []) false (rmV 2 0) w [vO 40 0] h (Rout (if h 40 0 19 = 0 then 1 else 0) (some (vI 0)) (some (vI (sumF 21 (dfR (hset h 40 0 0 0))))) h (fun h' => h' = PR (hset h 40 0 0 0) 21)) := by
  refine AM.of hl (by decide +kernel) (Nat.le_of_ble_eq_true rfl) fun x hx C _ => ?_
  refine r_aload_n (i0 := 0) C d_R_send_0 rfl rfl ?_
  refine r_aload_n (i0 := 0) C d_R_send_1 rfl rfl ?_
  refine r_getI C fl_R_98 d_R_send_2 rfl ?_
  refine r_if_eq (tgt := 12) C d_R_send_5 (by decide) (fun q5 => ?_) (fun q5 => ?_)
  · refine r_iconst C d_R_send_12 (by decide) ?_
    refine r_putI C pl_R_85 d_R_send_13 rfl ?_
    refine r_aload_n (i0 := 0) C d_R_send_16 rfl rfl ?_
    refine r_getI C fl_R_85 d_R_send_17 rfl ?_
    simp only [hset_same]
    refine r_if_le (tgt := 27) C d_R_send_20 (by decide) (fun q20 => ?_) (fun q20 => ?_)
    · refine r_aload_n (i0 := 0) C d_R_send_27 rfl rfl ?_
      refine r_callVw C cl_R_236 im_R_sendAll rfl rfl (c_R_sendAll hx (PRk_t hp _)) rfl rfl d_R_send_28 (by decide) (by decide) (Nat.le_of_ble_eq_true rfl) (fun h28 p28 => ?_)
      subst p28
      exact r_iret C d_R_send_31 (fun _ => by first | exact Rout.thr (by rw [if_pos (by omega)]) (by decide) | exact Rout.retv (by rw [if_neg (by omega)]) rfl rfl | (exfalso; omega)) (by decide) (fun q => nomatch q)
    · refine r_iconst C d_R_send_23 (by decide) ?_
      refine r_goto (tgt := 31) C d_R_send_24 (by decide) ?_
      exact r_iret C d_R_send_31 (fun _ => by first | exact Rout.thr (by rw [if_pos (by omega)]) (by decide) | exact Rout.retv (by rw [if_neg (by omega)]) rfl rfl | (exfalso; omega)) (by decide) (fun q => nomatch q)
  · refine r_iconst C d_R_send_8 (by decide) ?_
    refine r_goto (tgt := 13) C d_R_send_9 (by decide) ?_
    refine r_putI C pl_R_85 d_R_send_13 rfl ?_
    refine r_aload_n (i0 := 0) C d_R_send_16 rfl rfl ?_
    refine r_getI C fl_R_85 d_R_send_17 rfl ?_
    simp only [hset_same]
    refine r_if_le (tgt := 27) C d_R_send_20 (by decide) (fun q20 => ?_) (fun q20 => ?_)
    · refine r_aload_n (i0 := 0) C d_R_send_27 rfl rfl ?_
      refine r_callVw C cl_R_236 im_R_sendAll rfl rfl (c_R_sendAll hx (PRk_t hp _)) rfl rfl d_R_send_28 (by decide) (by decide) (Nat.le_of_ble_eq_true rfl) (fun h28 p28 => ?_)
      subst p28
      exact r_iret C d_R_send_31 (fun _ => by first | exact Rout.thr (by rw [if_pos (by omega)]) (by decide) | exact Rout.retv (by rw [if_neg (by omega)]) rfl rfl | (exfalso; omega)) (by decide) (fun q => nomatch q)
    · refine r_iconst C d_R_send_23 (by decide) ?_
      refine r_goto (tgt := 31) C d_R_send_24 (by decide) ?_
      exact r_iret C d_R_send_31 (fun _ => by first | exact Rout.thr (by rw [if_pos (by omega)]) (by decide) | exact Rout.retv (by rw [if_neg (by omega)]) rfl rfl | (exfalso; omega)) (by decide) (fun q => nomatch q)
abbrev nR (h : AH) : Nat := (h 40 0 1).toNat
def kR (h : AH) : Nat → Int := kdW (nR h) (rFc h) (rKn h) (rRd h)
def tR (h : AH) : Nat → Int := tdV (nR h) (rAr h) (rFc h) (rKn h) (rRd h)
def eR (h : AH) : Int := beV (nR h) (rAr h) (rFc h) (rKn h) (rRd h)
def lR (h : AH) : AH := RK h (nR h) (tR h) (ruV (nR h) (rFc h) (rRd h)) (raV (nR h) (rAr h) (rRd h)) (rcV (nR h) (rRd h)) (plV (nR h) (rKn h) (rRd h)) (puV (nR h) (rFc h) (rKn h) (rRd h)) (eR h)
theorem FIr_t {h : AH} {n : Nat} (H : FIr n h) (v : Int) : FIr n (hset h 40 0 0 v) := by
  unfold FIr rAr rFc rKn rRd rdR at *
  rw [hset_fr _ _ _ _ (show (41 : Nat) ≠ 40 by decide), hset_fr _ _ _ _ (show (43 : Nat) ≠ 40 by decide), hset_fr _ _ _ _ (show (47 : Nat) ≠ 40 by decide), hset_fr _ _ _ _ (show (44 : Nat) ≠ 40 by decide)]
  exact H
set_option maxHeartbeats 1000000 in
theorem c_R_replaced {l : Launch} (hl : l.stackTraces = false) {w : XW} {h : AH} {a : Int} (hc : 0 ≤ h 40 0 1 ∧ h 40 0 1 ≤ 6) (hF : FIr (h 40 0 1).toNat h) : AM l y_R_replaced (wsM y_R_replaced b_R_replaced 2 (some .int) []) false (rmV 4 0) w [vO 40 0, vI a] h (Rout (if 0 ≤ a ∧ a < h 40 0 1 then 0 else 1) (some (vI 0)) (some (vI (kR (hset h 40 0 0 0) a.toNat))) h (fun h' => h' = lR (hset h 40 0 0 0))) := by
  refine AM.of hl (by decide +kernel) (Nat.le_of_ble_eq_true rfl) fun x hx C _ => ?_
  have j26 : (0 ≤ a ∧ a < h 40 0 1) → AW x w 2 false 0 0 (AQ x w false 0 0 (Rout (if 0 ≤ a ∧ a < h 40 0 1 then 0 else 1) (some (vI 0)) (some (vI (kR (hset h 40 0 0 0) a.toNat))) h (fun h' => h' = lR (hset h 40 0 0 0)))) 26 [(0, vO 40 0), (1, vI a)] [] (hset h 40 0 0 0) := by
    intro ef
    refine r_aload_n (i0 := 0) C d_R_replaced_26 rfl rfl ?_
    refine r_callVw C cl_R_159 im_R_look rfl rfl (c_R_look hx (by rw [hset_slot _ _ (by decide)]; exact hc) (by rw [hset_slot _ _ (by decide)]; exact FIr_t hF _)) rfl rfl d_R_replaced_27 (by decide) (by decide) (Nat.le_of_ble_eq_true rfl) (fun h27 p27 => ?_)
    have e27 : h27 = lR (hset h 40 0 0 0) := p27
    subst e27
    refine r_aload_n (i0 := 0) C d_R_replaced_30 rfl rfl ?_
    refine r_iload_n (i0 := 1) C d_R_replaced_31 rfl rfl ?_
    refine r_callVp C cl_R_154 im_R_kindOf rfl rfl (c_R_kindOf hx (by omega) (by unfold lR; rw [RK_rd]; exact ((FIr_t hF 0) a.toNat (by omega)).2.2.2) (by unfold lR; rw [RK_f47]; exact ((FIr_t hF 0) a.toNat (by omega)).2.2.1)) rfl rfl d_R_replaced_32 (by decide) (Nat.le_of_ble_eq_true rfl) ?_
    exact r_iret C d_R_replaced_35 (fun _ => by exact Rout.retv (by rw [if_pos ef]) rfl rfl) (by decide) (fun q => nomatch q)
  refine r_aload_n (i0 := 0) C d_R_replaced_0 rfl rfl ?_
  refine r_aload_n (i0 := 0) C d_R_replaced_1 rfl rfl ?_
  refine r_iload_n (i0 := 1) C d_R_replaced_2 rfl rfl ?_
  refine r_callVp C cl_R_102 im_R_isFlat rfl rfl (c_R_isFlat hx) rfl rfl d_R_replaced_3 (by decide) (Nat.le_of_ble_eq_true rfl) ?_
  refine r_if_eq (tgt := 13) C d_R_replaced_6 (by decide) (fun q6 => ?_) (fun q6 => ?_)
  · have ef : ¬ (0 ≤ a ∧ a < h 40 0 1) := ite_no (by omega)
    refine r_iconst C d_R_replaced_13 (by decide) ?_
    refine r_putI C pl_R_85 d_R_replaced_14 rfl ?_
    refine r_aload_n (i0 := 0) C d_R_replaced_17 rfl rfl ?_
    refine r_getI C fl_R_85 d_R_replaced_18 rfl ?_
    simp only [hset_same]
    refine r_if_le (tgt := 26) C d_R_replaced_21 (by decide) (fun q21 => ?_) (fun q21 => ?_)
    · first | (exfalso; omega) | exact j26 ef
    · refine r_iconst C d_R_replaced_24 (by decide) ?_
      exact r_iret C d_R_replaced_25 (fun _ => by first | exact Rout.thr (by rw [if_neg ef]) (by decide) | (exfalso; omega)) (by decide) (fun q => nomatch q)
  · have ef : 0 ≤ a ∧ a < h 40 0 1 := ite_yes (by omega)
    refine r_iconst C d_R_replaced_9 (by decide) ?_
    refine r_goto (tgt := 14) C d_R_replaced_10 (by decide) ?_
    refine r_putI C pl_R_85 d_R_replaced_14 rfl ?_
    refine r_aload_n (i0 := 0) C d_R_replaced_17 rfl rfl ?_
    refine r_getI C fl_R_85 d_R_replaced_18 rfl ?_
    simp only [hset_same]
    refine r_if_le (tgt := 26) C d_R_replaced_21 (by decide) (fun q21 => ?_) (fun q21 => ?_)
    · first | (exfalso; omega) | exact j26 ef
    · refine r_iconst C d_R_replaced_24 (by decide) ?_
      exact r_iret C d_R_replaced_25 (fun _ => by first | exact Rout.thr (by rw [if_neg ef]) (by decide) | (exfalso; omega)) (by decide) (fun q => nomatch q)

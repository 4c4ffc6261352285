/-! Contracts: sending, replaced, a flat's next year. -/
def owC (h : AH) : Nat → Int := fun j => h 25 0 j + h 25 1 j + h 25 2 j
def dfC (h : AH) : Nat → Int := fun j => if owC h j - h 28 0 j ≠ 0 then 1 else 0
def PO (h : AH) (n : Nat) : AH := fun t i j => if t = 26 ∧ i = 0 ∧ j < n then owC h j - h 28 0 j else if t = 28 ∧ i = 0 ∧ j < n then owC h j else h t i j
theorem PO_fr (h : AH) (n : Nat) {t : Nat} (e : t ≠ 26 ∧ t ≠ 28) : PO h n t = h t := by funext i j; unfold PO; rw [if_neg (by omega), if_neg (by omega)]
theorem PO_zero (h : AH) : h = PO h 0 := by funext t i j; unfold PO; rw [if_neg (by omega), if_neg (by omega)]
theorem PO_28 (h : AH) (n : Nat) : PO h n 28 0 n = h 28 0 n := by unfold PO; rw [if_neg (by omega), if_neg (by omega)]
theorem PO_step (h : AH) (n : Nat) : hset (hset (PO h n) 26 0 n (owC h n - h 28 0 n)) 28 0 n (h 28 0 n + (owC h n - h 28 0 n)) = PO h (n + 1) := by
  rw [show h 28 0 n + (owC h n - h 28 0 n) = owC h n by omega]
  funext t i j; unfold hset PO
  by_cases e19 : t = 26 ∧ i = 0
  · obtain ⟨rfl, rfl⟩ := e19
    by_cases z : j = n
    · subst z; simp
    · by_cases z1 : j < n
      · simp [z, z1, show j < n + 1 by omega]
      · simp [z, z1, show ¬ j < n + 1 by omega]
  · by_cases e22 : t = 28 ∧ i = 0
    · obtain ⟨rfl, rfl⟩ := e22
      by_cases z : j = n
      · subst z; simp
      · by_cases z1 : j < n
        · simp [z, z1, show j < n + 1 by omega]
        · simp [z, z1, show ¬ j < n + 1 by omega]
    · rw [if_neg (by omega), if_neg (by omega), if_neg (by omega), if_neg (by omega), if_neg (by omega), if_neg (by omega)]
def POk (h : AH) : Prop := (0 ≤ h 23 0 4 ∧ h 23 0 4 ≤ 20) ∧ (∀ i j : Nat, i < 3 → j < 21 → 0 ≤ h 25 i j ∧ h 25 i j ≤ 20000000) ∧ ∀ j : Nat, j < 21 → 0 ≤ h 28 0 j ∧ h 28 0 j ≤ 60000000
set_option maxHeartbeats 1000000 in
theorem c_A_post {l : Launch} (hl : l.stackTraces = false) {w : XW} {h : AH} (hp : POk h) : AM l y_A_post (wsM y_A_post b_A_post 4 (some .int) []) false (rmV 1 0) w [vO 23 0] h (RetP (some (vI (sumF ((h 23 0 4) + 1).toNat (dfC h)))) (fun h' => h' = PO h ((h 23 0 4) + 1).toNat)) := by
  refine AM.of hl (by decide +kernel) (Nat.le_of_ble_eq_true rfl) fun x hx C _ => ?_
  obtain ⟨ht, ho, hs⟩ := hp
  have loop : ∀ (m : Nat) (t A : Int), -1 ≤ t → t ≤ (h 23 0 4) → ((h 23 0 4) - t).toNat = m → A = sumF (t + 1).toNat (dfC h) → AW x w 4 false 0 0 (AQ x w false 0 0 (RetP (some (vI (sumF ((h 23 0 4) + 1).toNat (dfC h)))) (fun h' => h' = PO h ((h 23 0 4) + 1).toNat))) 4 [(2, vI t), (1, vI A), (0, vO 23 0)] [] (PO h (t + 1).toNat) := by
    intro m
    induction m using Nat.strongRecOn with
    | _ m ih =>
    intro t A hi0 hi1 hm hA
    refine r_iload_n (i0 := 2) C d_A_post_4 rfl rfl ?_
    refine r_aload_n (i0 := 0) C d_A_post_5 rfl rfl ?_
    refine r_getI C fl_A_26 d_A_post_6 rfl ?_
    rw [PO_fr _ _ (by decide)]
    refine r_icmp_ge (tgt := 67) C d_A_post_9 (by decide) (fun q9 => ?_) (fun q9 => ?_)
    · refine r_iload_n (i0 := 1) C d_A_post_67 rfl rfl ?_
      exact r_iret C d_A_post_68 (fun _ => ⟨vi_e (by rw [hA, show t + 1 = (h 23 0 4) + 1 by omega]), by rw [show t + 1 = (h 23 0 4) + 1 by omega]⟩) (by decide) (fun q => nomatch q)
    · have b0 := ho 0 (t + 1).toNat (by omega) (by omega)
      have b1 := ho 1 (t + 1).toNat (by omega) (by omega)
      have b2 := ho 2 (t + 1).toNat (by omega) (by omega)
      have b3 := hs (t + 1).toNat (by omega)
      have ow : owC h (t + 1).toNat = h 25 0 (t + 1).toNat + h 25 1 (t + 1).toNat + h 25 2 (t + 1).toNat := rfl
      have cb := sumF_bd (g := dfC h) (L := 0) (M := 1) (n := (t + 1).toNat) (fun k _ => by unfold dfC; split <;> omega)
      refine r_iload_n (i0 := 2) C d_A_post_12 rfl rfl ?_
      refine r_iconst C d_A_post_13 (by decide) ?_
      refine r_iadd C d_A_post_14 (by omega) ?_
      refine r_istore_n (i0 := 3) C d_A_post_15 rfl (by decide) ?_
      refine r_aload_n (i0 := 0) C d_A_post_16 rfl rfl ?_
      refine r_getO C fl_A_16 d_A_post_17 rfl rfl (fun hi => hi) ?_
      refine r_iload_n (i0 := 3) C d_A_post_20 rfl rfl ?_
      refine r_aload_n (i0 := 0) C d_A_post_21 rfl rfl ?_
      refine r_iload_n (i0 := 2) C d_A_post_22 rfl rfl ?_
      refine r_callVp C cl_A_36 im_A_owedInAll rfl rfl (c_A_owedInAll hx (by rw [PO_fr _ _ (by decide)]; exact ho) (by omega)) rfl rfl d_A_post_23 (by decide) (Nat.le_of_ble_eq_true rfl) ?_
      rw [PO_fr _ _ (by decide), ← ow]
      refine r_aload_n (i0 := 0) C d_A_post_26 rfl rfl ?_
      refine r_getO C fl_A_23 d_A_post_27 rfl rfl (fun hi => hi) ?_
      refine r_iload_n (i0 := 3) C d_A_post_30 rfl rfl ?_
      refine r_iaload (ln := 21) C d_A_post_31 rfl (fun _ => rfl) rfl (by omega) ?_
      rw [PO_28]
      refine r_isub C d_A_post_32 (by omega) ?_
      refine r_iastore (ln := 21) C d_A_post_33 rfl (fun _ => rfl) rfl (by omega) ?_
      refine r_aload_n (i0 := 0) C d_A_post_34 rfl rfl ?_
      refine r_getO C fl_A_23 d_A_post_35 rfl rfl (fun hi => hi) ?_
      refine r_iload_n (i0 := 3) C d_A_post_38 rfl rfl ?_
      refine r_dup2 C d_A_post_39 rfl rfl ?_
      refine r_iaload (ln := 21) C d_A_post_40 rfl (fun _ => rfl) rfl (by omega) ?_
      rw [hset_tag _ _ (by decide), PO_28]
      refine r_aload_n (i0 := 0) C d_A_post_41 rfl rfl ?_
      refine r_getO C fl_A_16 d_A_post_42 rfl rfl (fun hi => hi) ?_
      refine r_iload_n (i0 := 3) C d_A_post_45 rfl rfl ?_
      refine r_iaload (ln := 21) C d_A_post_46 rfl (fun _ => rfl) rfl (by omega) ?_
      rw [hset_same]
      refine r_iadd C d_A_post_47 (by omega) ?_
      refine r_iastore (ln := 21) C d_A_post_48 rfl (fun _ => rfl) rfl (by omega) ?_
      refine r_aload_n (i0 := 0) C d_A_post_49 rfl rfl ?_
      refine r_getO C fl_A_16 d_A_post_50 rfl rfl (fun hi => hi) ?_
      refine r_iload_n (i0 := 3) C d_A_post_53 rfl rfl ?_
      refine r_iaload (ln := 21) C d_A_post_54 rfl (fun _ => rfl) rfl (by omega) ?_
      rw [hset_tag _ _ (by decide), hset_same]
      refine r_if_eq (tgt := 61) C d_A_post_55 (by decide) (fun q55 => ?_) (fun q55 => ?_)
      · refine r_iinc C d_A_post_61 rfl (by decide) (by omega) ?_
        refine r_goto (tgt := 4) C d_A_post_64 (by decide) ?_
        have e2 : (t + 1 + 1).toNat = (t + 1).toNat + 1 := by omega
        refine AW.lvs [(2, _), (1, _), (0, _)] ⟨rfl, rfl, rfl, trivial⟩ (AW.heq (PO_step h (t + 1).toNat) (AW.heq (by rw [e2]) (ih (m - 1) (by omega) (t + 1) _ (by omega) (by omega) (by omega) ?_)))
        rw [e2, sumF_succ, ← hA]
        unfold dfC
        first
          | (rw [if_pos (by omega)]; done)
          | (rw [if_neg (by omega)]; omega)
      · refine r_iinc C d_A_post_58 rfl (by decide) (by omega) ?_
        refine r_iinc C d_A_post_61 rfl (by decide) (by omega) ?_
        refine r_goto (tgt := 4) C d_A_post_64 (by decide) ?_
        have e2 : (t + 1 + 1).toNat = (t + 1).toNat + 1 := by omega
        refine AW.lvs [(2, _), (1, _), (0, _)] ⟨rfl, rfl, rfl, trivial⟩ (AW.heq (PO_step h (t + 1).toNat) (AW.heq (by rw [e2]) (ih (m - 1) (by omega) (t + 1) _ (by omega) (by omega) (by omega) ?_)))
        rw [e2, sumF_succ, ← hA]
        unfold dfC
        first
          | (rw [if_pos (by omega)]; done)
          | (rw [if_neg (by omega)]; omega)
  refine r_iconst C d_A_post_0 (by decide) ?_
  refine r_istore_n (i0 := 1) C d_A_post_1 rfl (by decide) ?_
  refine r_iconst C d_A_post_2 (by decide) ?_
  refine r_istore_n (i0 := 2) C d_A_post_3 rfl (by decide) ?_
  exact AW.lvs [(2, _), (1, _), (0, _)] ⟨rfl, rfl, rfl, trivial⟩ (AW.dirty (AW.heq (PO_zero h) (loop _ (-1) 0 (by omega) (by omega) rfl rfl)))
def hoE (hs : Nat → Bool) (vl : Nat → Int) (fh : Int) (n : Nat) : Int := match n with
  | 0 => fh
  | n + 1 => if hs n then vl n else hoE hs vl fh n
set_option maxHeartbeats 1000000 in
theorem c_F_holderAtEnd {l : Launch} (hl : l.stackTraces = false) {w : XW} {h : AH} {f : Nat} : AM l y_F_holderAtEnd (wsM y_F_holderAtEnd b_F_holderAtEnd 3 (some .int) []) true (rmV 1 0) w [vO 4 f] h (Ret (some (vI (hoE (cHs h f) (cVl h f) (h 4 f 3) 12))) h) := by
  refine AM.of hl (by decide +kernel) (Nat.le_of_ble_eq_true rfl) fun x hx C _ => ?_
  have loop : ∀ (m : Nat) (i A : Int), 0 ≤ i → i ≤ 12 → (12 - i).toNat = m → A = (hoE (cHs h f) (cVl h f) (h 4 f 3) i.toNat) → AW x w 3 true 0 0 (AQ x w true 0 0 (Ret (some (vI (hoE (cHs h f) (cVl h f) (h 4 f 3) 12))) h)) 7 [(2, vI i), (1, vI A), (0, vO 4 f)] [] h := by
    intro m
    induction m using Nat.strongRecOn with
    | _ m ih =>
    intro i A hi0 hi1 hm hA
    refine r_iload_n (i0 := 2) C d_F_holderAtEnd_7 rfl rfl ?_
    refine r_bipush C d_F_holderAtEnd_8 (by decide) (by decide) ?_
    refine r_icmp_ge (tgt := 34) C d_F_holderAtEnd_10 (by decide) (fun q10 => ?_) (fun q10 => ?_)
    · refine r_iload_n (i0 := 1) C d_F_holderAtEnd_34 rfl rfl ?_
      exact r_iret C d_F_holderAtEnd_35 (fun _ => ⟨vi_e (by rw [hA, show i.toNat = 12 by omega]), rfl⟩) (by decide) (fun _ => ⟨rfl, rfl, rfl⟩)
    · refine r_aload_n (i0 := 0) C d_F_holderAtEnd_13 rfl rfl ?_
      refine r_iload_n (i0 := 2) C d_F_holderAtEnd_14 rfl rfl ?_
      refine r_callVp C cl_F_44 im_F_hasChange rfl rfl (c_F_hasChange hx (by omega)) rfl rfl d_F_holderAtEnd_15 (by decide) (Nat.le_of_ble_eq_true rfl) ?_
      refine r_if_eq (tgt := 28) C d_F_holderAtEnd_18 (by decide) (fun q18 => ?_) (fun q18 => ?_)
      · refine r_iinc C d_F_holderAtEnd_28 rfl (by decide) (by omega) ?_
        refine r_goto (tgt := 7) C d_F_holderAtEnd_31 (by decide) ?_
        have e2 : (i + 1).toNat = i.toNat + 1 := by omega
        refine AW.lvs [(2, _), (1, _), (0, _)] ⟨rfl, rfl, rfl, trivial⟩ (ih (m - 1) (by omega) (i + 1) _ (by omega) (by omega) (by omega) ?_)
        rw [e2]
        unfold hoE
        first
          | (rw [if_neg (by unfold cHs; simp; omega)]; exact hA)
          | (rw [if_pos (by unfold cHs; simp; omega)]; done)
      · refine r_aload_n (i0 := 0) C d_F_holderAtEnd_21 rfl rfl ?_
        refine r_getO C fl_F_31 d_F_holderAtEnd_22 rfl rfl (fun hi => hi) ?_
        refine r_iload_n (i0 := 2) C d_F_holderAtEnd_25 rfl rfl ?_
        refine r_iaload (ln := 12) C d_F_holderAtEnd_26 rfl (fun _ => rfl) rfl (by omega) ?_
        refine r_istore_n (i0 := 1) C d_F_holderAtEnd_27 rfl (by decide) ?_
        refine r_iinc C d_F_holderAtEnd_28 rfl (by decide) (by omega) ?_
        refine r_goto (tgt := 7) C d_F_holderAtEnd_31 (by decide) ?_
        have e2 : (i + 1).toNat = i.toNat + 1 := by omega
        refine AW.lvs [(2, _), (1, _), (0, _)] ⟨rfl, rfl, rfl, trivial⟩ (ih (m - 1) (by omega) (i + 1) _ (by omega) (by omega) (by omega) ?_)
        rw [e2]
        unfold hoE
        first
          | (rw [if_neg (by unfold cHs; simp; omega)]; exact hA)
          | (rw [if_pos (by unfold cHs; simp; omega)]; done)
  refine r_aload_n (i0 := 0) C d_F_holderAtEnd_0 rfl rfl ?_
  refine r_getI C fl_F_21 d_F_holderAtEnd_1 rfl ?_
  refine r_istore_n (i0 := 1) C d_F_holderAtEnd_4 rfl (by decide) ?_
  refine r_iconst C d_F_holderAtEnd_5 (by decide) ?_
  refine r_istore_n (i0 := 2) C d_F_holderAtEnd_6 rfl (by decide) ?_
  exact AW.lvs [(2, _), (1, _), (0, _)] ⟨rfl, rfl, rfl, trivial⟩ (loop _ 0 _ (by omega) (by omega) rfl rfl)
def SY (h : AH) (f : Nat) (u : Int) : AH := hfill (hset (hfill (hset (hset h 4 f 3 (hoE (cHs h f) (cVl h f) (h 4 f 3) 12)) 4 f 4 u) 5 f 0 13 (-1)) 5 f 0 (h 5 f 12)) 6 f 0 12 (-2)
set_option maxHeartbeats 1000000 in
theorem c_F_startYear {l : Launch} (hl : l.stackTraces = false) {w : XW} {h : AH} {f : Nat} {u : Int} : AM l y_F_startYear (wsM y_F_startYear b_F_startYear 3 none []) false (rmV 2 0) w [vO 4 f, vI u] h (RetP none (fun h' => h' = SY h f u)) := by
  refine AM.of hl (by decide +kernel) (Nat.le_of_ble_eq_true rfl) fun x hx C _ => ?_
  refine r_aload_n (i0 := 0) C d_F_startYear_0 rfl rfl ?_
  refine r_aload_n (i0 := 0) C d_F_startYear_1 rfl rfl ?_
  refine r_callVp C cl_F_48 im_F_holderAtEnd rfl rfl (c_F_holderAtEnd hx) rfl rfl d_F_startYear_2 (by decide) (Nat.le_of_ble_eq_true rfl) ?_
  refine r_putI C pl_F_21 d_F_startYear_5 rfl ?_
  refine r_aload_n (i0 := 0) C d_F_startYear_8 rfl rfl ?_
  refine r_iload_n (i0 := 1) C d_F_startYear_9 rfl rfl ?_
  refine r_putI C pl_F_24 d_F_startYear_10 rfl ?_
  refine r_aload_n (i0 := 0) C d_F_startYear_13 rfl rfl ?_
  refine r_getO C fl_F_27 d_F_startYear_14 rfl rfl (fun hi => hi) ?_
  refine r_bipush C d_F_startYear_17 (by decide) (by decide) ?_
  refine r_iaload (ln := 13) C d_F_startYear_19 rfl (fun _ => rfl) rfl (by omega) ?_
  simp only [hset_tag, ne_eq, not_false_eq_true, Nat.reduceEqDiff, show (12 : Int).toNat = 12 from rfl]
  refine r_istore_n (i0 := 2) C d_F_startYear_20 rfl (by decide) ?_
  refine r_aload_n (i0 := 0) C d_F_startYear_21 rfl rfl ?_
  refine r_getO C fl_F_27 d_F_startYear_22 rfl rfl (fun hi => hi) ?_
  refine r_iconst C d_F_startYear_25 (by decide) ?_
  refine r_callSw C cl_F_34 st_J_fill (c_J_fill hx rfl (fun _ => rfl) (by decide)) rfl rfl d_F_startYear_26 (by decide) (by decide) (Nat.le_of_ble_eq_true rfl) (fun h26 p26 => ?_)
  subst p26
  refine r_aload_n (i0 := 0) C d_F_startYear_29 rfl rfl ?_
  refine r_getO C fl_F_27 d_F_startYear_30 rfl rfl (fun hi => hi) ?_
  refine r_iconst C d_F_startYear_33 (by decide) ?_
  refine r_iload_n (i0 := 2) C d_F_startYear_34 rfl rfl ?_
  refine r_iastore (ln := 13) C d_F_startYear_35 rfl (fun _ => rfl) rfl (by omega) ?_
  refine r_aload_n (i0 := 0) C d_F_startYear_36 rfl rfl ?_
  refine r_getO C fl_F_31 d_F_startYear_37 rfl rfl (fun hi => hi) ?_
  refine r_bipush C d_F_startYear_40 (by decide) (by decide) ?_
  refine r_callSw C cl_F_34 st_J_fill (c_J_fill hx rfl (fun _ => rfl) (by decide)) rfl rfl d_F_startYear_42 (by decide) (by decide) (Nat.le_of_ble_eq_true rfl) (fun h42 p42 => ?_)
  subst p42
  exact r_vret C d_F_startYear_45 (⟨rfl, rfl⟩) (by decide) (fun q => nomatch q)
set_option maxHeartbeats 1000000 in
theorem c_H_replaced {l : Launch} (hl : l.stackTraces = false) {w : XW} {h : AH} {a : Int} (hc : 0 ≤ h 2 0 1 ∧ h 2 0 1 ≤ 6) (hF : FIc h) : AM l y_H_replaced (wsM y_H_replaced b_H_replaced 2 (some .int) []) false (rmV 4 1) w [vO 1 0, vI a] h (Out (if a < 0 ∨ h 2 0 1 ≤ a then some 1 else none) (some (vI (kC h a.toNat))) h (fun h' => h' = lC h)) := by
  refine AM.of hl (by decide +kernel) (Nat.le_of_ble_eq_true rfl) fun x hx C _ => ?_
  refine r_aload_n (i0 := 0) C d_H_replaced_0 rfl rfl ?_
  refine r_iload_n (i0 := 1) C d_H_replaced_1 rfl rfl ?_
  refine r_callVt C cl_H_98 im_H_needFlat rfl rfl (c_H_needFlat hx hc) rfl rfl d_H_replaced_2 (by decide) (Nat.le_of_ble_eq_true rfl) (by decide) (fun k hk => Out.thr (by by_cases z : a < 0 ∨ h 2 0 1 ≤ a <;> simp [z] at hk ⊢; exact hk)) (fun e2 => ?_)
  have e2n : ¬ (a < 0 ∨ h 2 0 1 ≤ a) := fun z => by rw [if_pos z] at e2; cases e2
  refine r_aload_n (i0 := 0) C d_H_replaced_5 rfl rfl ?_
  refine r_getO C fl_H_26 d_H_replaced_6 rfl rfl (fun hi => hi) ?_
  refine r_aload_n (i0 := 0) C d_H_replaced_9 rfl rfl ?_
  refine r_getO C fl_H_12 d_H_replaced_10 rfl rfl (fun hi => hi) ?_
  refine r_callVw C cl_H_174 im_M_look rfl rfl (c_M_look hx hc hF) rfl rfl d_H_replaced_13 (by decide) (by decide) (Nat.le_of_ble_eq_true rfl) (fun h13 p13 => ?_)
  have e13 : h13 = lC h := p13
  subst e13
  refine r_aload_n (i0 := 0) C d_H_replaced_16 rfl rfl ?_
  refine r_getO C fl_H_26 d_H_replaced_17 rfl rfl (fun hi => hi) ?_
  refine r_getO C fl_H_215 d_H_replaced_20 rfl rfl (fun hi => hi) ?_
  refine r_iload_n (i0 := 1) C d_H_replaced_23 rfl rfl ?_
  refine r_iaload (ln := 6) C d_H_replaced_24 rfl (fun _ => rfl) rfl (by omega) ?_
  rw [lC_k h (by unfold nC; omega)]
  exact r_iret C d_H_replaced_25 (fun _ => Out.ret (by rw [if_neg e2n]) rfl) (by decide) (fun q => nomatch q)
set_option maxHeartbeats 1000000 in
theorem c_H_send {l : Launch} (hl : l.stackTraces = false) {w : XW} {h : AH} (hp : POk h) : AM l y_H_send (wsM y_H_send b_H_send 1 (some .int) []) false (rmV 4 1) w [vO 1 0] h (Out (if h 1 0 12 = 0 then some 2 else none) (some (vI (sumF ((h 23 0 4) + 1).toNat (dfC h)))) h (fun h' => h' = PO h ((h 23 0 4) + 1).toNat)) := by
  refine AM.of hl (by decide +kernel) (Nat.le_of_ble_eq_true rfl) fun x hx C _ => ?_
  refine r_aload_n (i0 := 0) C d_H_send_0 rfl rfl ?_
  refine r_callVt C cl_H_199 im_H_needBill rfl rfl (c_H_needBill hx) rfl rfl d_H_send_1 (by decide) (Nat.le_of_ble_eq_true rfl) (by decide) (fun k hk => Out.thr (by by_cases z : h 1 0 12 = 0 <;> simp [z] at hk ⊢; exact hk)) (fun e1 => ?_)
  have e1n : ¬ h 1 0 12 = 0 := fun z => by rw [if_pos z] at e1; cases e1
  refine r_aload_n (i0 := 0) C d_H_send_4 rfl rfl ?_
  refine r_getO C fl_H_47 d_H_send_5 rfl rfl (fun hi => hi) ?_
  refine r_callVw C cl_H_218 im_A_post rfl rfl (c_A_post hx hp) rfl rfl d_H_send_8 (by decide) (by decide) (Nat.le_of_ble_eq_true rfl) (fun h8 p8 => ?_)
  subst p8
  exact r_iret C d_H_send_11 (fun _ => Out.ret (by rw [if_neg e1n]) rfl) (by decide) (fun q => nomatch q)

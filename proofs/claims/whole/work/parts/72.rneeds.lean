/-! Contracts of the reference: by area or not, degrees or not. -/
theorem anyF_succ (n : Nat) (p : Nat → Bool) : anyF (n + 1) p = (anyF n p || p n) := rfl
/-- the reference's boundaries: k f says how meter f is taken -/
def bR (h : AH) (k : Nat → Int) : Nat → Nat → Bool := fun f => bdF (k f) (rdR h f)
abbrev ndP (h : AH) (k : Nat → Int) (f : Nat) : Nat → Bool := fun m => decide (1 ≤ m) && rHs h f m && !bR h k f m
def bI (b : Bool) : Int := if b = true then 1 else 0
theorem bI_01 (b : Bool) : bI b = 0 ∨ bI b = 1 := by cases b <;> simp [bI]
theorem bI_t {b : Bool} (h : ¬ bI b = 0) : b = true := by cases b <;> simp_all [bI]
theorem bI_f {b : Bool} (h : bI b = 0) : b = false := by cases b <;> simp_all [bI]
theorem nx_gt {bd : Nat → Bool} {t : Int} (ht : 1 ≤ t ∧ t < 12) : (t < ((nxB bd (12 - (t - 1)).toNat (t - 1).toNat : Nat) : Int)) ↔ bd t.toNat = false := by
  have e : (t - 1).toNat + 1 = t.toNat := by omega
  by_cases c : bd t.toNat = true
  · rw [nxB_yes (by omega) (by rw [e]; exact c), c]
    constructor
    · intro z; omega
    · intro z; cases z
  · have c' : bd t.toNat = false := by simpa using c
    have r := nxB_rng bd ((12 - (t - 1)).toNat - 1) t.toNat (by omega)
    rw [nxB_no (by omega) (by rw [e]; exact c'), e]
    exact ⟨fun _ => c', fun _ => by omega⟩
set_option maxHeartbeats 1000000 in
theorem c_R_needsDegrees {l : Launch} (hl : l.stackTraces = false) {w : XW} {h : AH} {k : Nat → Int} (hc : 0 ≤ h 40 0 1 ∧ h 40 0 1 ≤ 6) (hk : ∀ f : Nat, f < nR h → (k f = 0 ↔ rdI (rdR h f) = 1)) (hr : ∀ f : Nat, f < nR h → ∀ t : Nat, t < 13 → -1 ≤ rdR h f t ∧ rdR h f t ≤ 99) : AM l y_R_needsDegrees (wsM y_R_needsDegrees b_R_needsDegrees 4 (some .boolean) []) true (rmV 2 0) w [vO 40 0] h (Ret (some (vI (bI (ndB (nR h) (rHs h) (bR h k))))) h) := by
  refine AM.of hl (by decide +kernel) (Nat.le_of_ble_eq_true rfl) fun x hx C _ => ?_
  have loop : ∀ (m : Nat) (i A : Int), 0 ≤ i → i ≤ h 40 0 1 → (h 40 0 1 - i).toNat = m → A = bI (anyF i.toNat (fun f => anyF 12 (ndP h k f))) → AW x w 4 true 0 0 (AQ x w true 0 0 (Ret (some (vI (bI (ndB (nR h) (rHs h) (bR h k))))) h)) 4 [(2, vI i), (1, vI A), (0, vO 40 0)] [] h := by
    intro m
    induction m using Nat.strongRecOn with
    | _ m ih =>
    intro i A hi0 hi1 hm hA
    have inner : i < h 40 0 1 → ∀ (m2 : Nat) (t A : Int), 1 ≤ t → t ≤ 12 → (12 - t).toNat = m2 → A = bI (anyF i.toNat (fun f => anyF 12 (ndP h k f)) || anyF t.toNat (ndP h k i.toNat)) → AW x w 4 true 0 0 (AQ x w true 0 0 (Ret (some (vI (bI (ndB (nR h) (rHs h) (bR h k))))) h)) 14 [(3, vI t), (1, vI A), (2, vI i), (0, vO 40 0)] [] h := by
      intro hi2
      intro m2
      induction m2 using Nat.strongRecOn with
      | _ m2 ih2 =>
      intro t A ht0 ht1 hm2 hA2
      refine r_iload_n (i0 := 3) C d_R_needsDegrees_14 rfl rfl ?_
      refine r_bipush C d_R_needsDegrees_15 (by decide) (by decide) ?_
      refine r_icmp_ge (tgt := 60) C d_R_needsDegrees_17 (by decide) (fun q17 => ?_) (fun q17 => ?_)
      · have e12 : t.toNat = 12 := (by omega)
        rw [e12] at hA2
        have e3 : (i + 1).toNat = i.toNat + 1 := by omega
        refine r_iinc C d_R_needsDegrees_60 rfl (by decide) (by omega) ?_
        refine r_goto (tgt := 4) C d_R_needsDegrees_63 (by decide) ?_
        exact AW.lvs [(2, _), (1, _), (0, _)] ⟨rfl, rfl, rfl, trivial⟩ (ih (m - 1) (by omega) (i + 1) A (by omega) (by omega) (by omega) (by rw [e3, anyF_succ]; exact hA2))
      · refine r_iload_n (i0 := 1) C d_R_needsDegrees_20 rfl rfl ?_
        refine r_if_ne (tgt := 48) C d_R_needsDegrees_21 (by decide) (fun q21 => ?_) (fun q21 => ?_)
        · refine r_iconst C d_R_needsDegrees_48 (by decide) ?_
          refine r_goto (tgt := 53) C d_R_needsDegrees_49 (by decide) ?_
          refine r_istore_n (i0 := 1) C d_R_needsDegrees_53 rfl (by decide) ?_
          refine r_iinc C d_R_needsDegrees_54 rfl (by decide) (by omega) ?_
          refine r_goto (tgt := 14) C d_R_needsDegrees_57 (by decide) ?_
          have e2 : (t + 1).toNat = t.toNat + 1 := by omega
          refine AW.lvs [(3, _), (1, _), (2, _), (0, _)] ⟨rfl, rfl, rfl, rfl, trivial⟩ (ih2 (m2 - 1) (by omega) (t + 1) _ (by omega) (by omega) (by omega) ?_)
          rw [e2, anyF_succ, ← Bool.or_assoc]
          first
            | (rw [bI_t (b := (anyF i.toNat (fun f => anyF 12 (ndP h k f)) || anyF t.toNat (ndP h k i.toNat))) (by rw [← hA2]; omega)]; rfl)
            | (have c1 := bI_f (b := (anyF i.toNat (fun f => anyF 12 (ndP h k f)) || anyF t.toNat (ndP h k i.toNat))) (by rw [← hA2]; omega)
               rw [c1]
               show _ = bI (false || (decide (1 ≤ t.toNat) && rHs h i.toNat t.toNat && !bR h k i.toNat t.toNat))
               first
                 | (rw [show rHs h i.toNat t.toNat = false by unfold rHs; simp only [decide_eq_false_iff_not]; exact fun z => z (by first | exact q32 | exact Decidable.not_not.mp q32)]; simp [bI])
                 | (rw [show rHs h i.toNat t.toNat = true by unfold rHs; simp only [decide_eq_true_eq]; exact q32, (nx_gt (bd := bR h k i.toNat) (t := t) (by omega)).mp (by show t < ((nxB (bdF (k i.toNat) (rdR h i.toNat)) _ _ : Nat) : Int); omega), show decide (1 ≤ t.toNat) = true by simp; omega]; rfl)
                 | (have nb : bR h k i.toNat t.toNat = true := by
                      cases hb : bR h k i.toNat t.toNat
                      · have z := (nx_gt (bd := bR h k i.toNat) (t := t) (by omega)).mpr hb
                        have z2 : t < ((nxB (bdF (k i.toNat) (rdR h i.toNat)) (12 - (t - 1)).toNat (t - 1).toNat : Nat) : Int) := z
                        omega
                      · rfl
                    rw [nb]; simp [bI]))
        · refine r_aload_n (i0 := 0) C d_R_needsDegrees_24 rfl rfl ?_
          refine r_iload_n (i0 := 2) C d_R_needsDegrees_25 rfl rfl ?_
          refine r_iload_n (i0 := 3) C d_R_needsDegrees_26 rfl rfl ?_
          refine r_callVp C cl_R_174 im_R_changeAt rfl rfl (c_R_changeAt hx (by omega) (by omega)) rfl rfl d_R_needsDegrees_27 (by decide) (Nat.le_of_ble_eq_true rfl) ?_
          rw [rch_ix h hi0 (by omega)]
          refine r_bipush C d_R_needsDegrees_30 (by decide) (by decide) ?_
          refine r_icmp_eq (tgt := 52) C d_R_needsDegrees_32 (by decide) (fun q32 => ?_) (fun q32 => ?_)
          · refine r_iconst C d_R_needsDegrees_52 (by decide) ?_
            refine r_istore_n (i0 := 1) C d_R_needsDegrees_53 rfl (by decide) ?_
            refine r_iinc C d_R_needsDegrees_54 rfl (by decide) (by omega) ?_
            refine r_goto (tgt := 14) C d_R_needsDegrees_57 (by decide) ?_
            have e2 : (t + 1).toNat = t.toNat + 1 := by omega
            refine AW.lvs [(3, _), (1, _), (2, _), (0, _)] ⟨rfl, rfl, rfl, rfl, trivial⟩ (ih2 (m2 - 1) (by omega) (t + 1) _ (by omega) (by omega) (by omega) ?_)
            rw [e2, anyF_succ, ← Bool.or_assoc]
            first
              | (rw [bI_t (b := (anyF i.toNat (fun f => anyF 12 (ndP h k f)) || anyF t.toNat (ndP h k i.toNat))) (by rw [← hA2]; omega)]; rfl)
              | (have c1 := bI_f (b := (anyF i.toNat (fun f => anyF 12 (ndP h k f)) || anyF t.toNat (ndP h k i.toNat))) (by rw [← hA2]; omega)
                 rw [c1]
                 show _ = bI (false || (decide (1 ≤ t.toNat) && rHs h i.toNat t.toNat && !bR h k i.toNat t.toNat))
                 first
                   | (rw [show rHs h i.toNat t.toNat = false by unfold rHs; simp only [decide_eq_false_iff_not]; exact fun z => z (by first | exact q32 | exact Decidable.not_not.mp q32)]; simp [bI])
                   | (rw [show rHs h i.toNat t.toNat = true by unfold rHs; simp only [decide_eq_true_eq]; exact q32, (nx_gt (bd := bR h k i.toNat) (t := t) (by omega)).mp (by show t < ((nxB (bdF (k i.toNat) (rdR h i.toNat)) _ _ : Nat) : Int); omega), show decide (1 ≤ t.toNat) = true by simp; omega]; rfl)
                   | (have nb : bR h k i.toNat t.toNat = true := by
                        cases hb : bR h k i.toNat t.toNat
                        · have z := (nx_gt (bd := bR h k i.toNat) (t := t) (by omega)).mpr hb
                          have z2 : t < ((nxB (bdF (k i.toNat) (rdR h i.toNat)) (12 - (t - 1)).toNat (t - 1).toNat : Nat) : Int) := z
                          omega
                        · rfl
                      rw [nb]; simp [bI]))
          · refine r_aload_n (i0 := 0) C d_R_needsDegrees_35 rfl rfl ?_
            refine r_iload_n (i0 := 2) C d_R_needsDegrees_36 rfl rfl ?_
            refine r_iload_n (i0 := 3) C d_R_needsDegrees_37 rfl rfl ?_
            refine r_iconst C d_R_needsDegrees_38 (by decide) ?_
            refine r_isub C d_R_needsDegrees_39 (by omega) ?_
            refine r_iconst C d_R_needsDegrees_40 (by decide) ?_
            refine r_callVp C cl_R_195 im_R_stretchOf rfl rfl (c_R_stretchOf hx (k := k i.toNat) (by omega) (by omega) (by omega) (hk i.toNat (by show i.toNat < (h 40 0 1).toNat; omega)) (hr i.toNat (by show i.toNat < (h 40 0 1).toNat; omega))) rfl rfl d_R_needsDegrees_41 (by decide) (Nat.le_of_ble_eq_true rfl) ?_
            rw [if_pos rfl]
            refine r_iload_n (i0 := 3) C d_R_needsDegrees_44 rfl rfl ?_
            refine r_icmp_le (tgt := 52) C d_R_needsDegrees_45 (by decide) (fun q45 => ?_) (fun q45 => ?_)
            · refine r_iconst C d_R_needsDegrees_52 (by decide) ?_
              refine r_istore_n (i0 := 1) C d_R_needsDegrees_53 rfl (by decide) ?_
              refine r_iinc C d_R_needsDegrees_54 rfl (by decide) (by omega) ?_
              refine r_goto (tgt := 14) C d_R_needsDegrees_57 (by decide) ?_
              have e2 : (t + 1).toNat = t.toNat + 1 := by omega
              refine AW.lvs [(3, _), (1, _), (2, _), (0, _)] ⟨rfl, rfl, rfl, rfl, trivial⟩ (ih2 (m2 - 1) (by omega) (t + 1) _ (by omega) (by omega) (by omega) ?_)
              rw [e2, anyF_succ, ← Bool.or_assoc]
              first
                | (rw [bI_t (b := (anyF i.toNat (fun f => anyF 12 (ndP h k f)) || anyF t.toNat (ndP h k i.toNat))) (by rw [← hA2]; omega)]; rfl)
                | (have c1 := bI_f (b := (anyF i.toNat (fun f => anyF 12 (ndP h k f)) || anyF t.toNat (ndP h k i.toNat))) (by rw [← hA2]; omega)
                   rw [c1]
                   show _ = bI (false || (decide (1 ≤ t.toNat) && rHs h i.toNat t.toNat && !bR h k i.toNat t.toNat))
                   first
                     | (rw [show rHs h i.toNat t.toNat = false by unfold rHs; simp only [decide_eq_false_iff_not]; exact fun z => z (by first | exact q32 | exact Decidable.not_not.mp q32)]; simp [bI])
                     | (rw [show rHs h i.toNat t.toNat = true by unfold rHs; simp only [decide_eq_true_eq]; exact q32, (nx_gt (bd := bR h k i.toNat) (t := t) (by omega)).mp (by show t < ((nxB (bdF (k i.toNat) (rdR h i.toNat)) _ _ : Nat) : Int); omega), show decide (1 ≤ t.toNat) = true by simp; omega]; rfl)
                     | (have nb : bR h k i.toNat t.toNat = true := by
                          cases hb : bR h k i.toNat t.toNat
                          · have z := (nx_gt (bd := bR h k i.toNat) (t := t) (by omega)).mpr hb
                            have z2 : t < ((nxB (bdF (k i.toNat) (rdR h i.toNat)) (12 - (t - 1)).toNat (t - 1).toNat : Nat) : Int) := z
                            omega
                          · rfl
                        rw [nb]; simp [bI]))
            · refine r_iconst C d_R_needsDegrees_48 (by decide) ?_
              refine r_goto (tgt := 53) C d_R_needsDegrees_49 (by decide) ?_
              refine r_istore_n (i0 := 1) C d_R_needsDegrees_53 rfl (by decide) ?_
              refine r_iinc C d_R_needsDegrees_54 rfl (by decide) (by omega) ?_
              refine r_goto (tgt := 14) C d_R_needsDegrees_57 (by decide) ?_
              have e2 : (t + 1).toNat = t.toNat + 1 := by omega
              refine AW.lvs [(3, _), (1, _), (2, _), (0, _)] ⟨rfl, rfl, rfl, rfl, trivial⟩ (ih2 (m2 - 1) (by omega) (t + 1) _ (by omega) (by omega) (by omega) ?_)
              rw [e2, anyF_succ, ← Bool.or_assoc]
              first
                | (rw [bI_t (b := (anyF i.toNat (fun f => anyF 12 (ndP h k f)) || anyF t.toNat (ndP h k i.toNat))) (by rw [← hA2]; omega)]; rfl)
                | (have c1 := bI_f (b := (anyF i.toNat (fun f => anyF 12 (ndP h k f)) || anyF t.toNat (ndP h k i.toNat))) (by rw [← hA2]; omega)
                   rw [c1]
                   show _ = bI (false || (decide (1 ≤ t.toNat) && rHs h i.toNat t.toNat && !bR h k i.toNat t.toNat))
                   first
                     | (rw [show rHs h i.toNat t.toNat = false by unfold rHs; simp only [decide_eq_false_iff_not]; exact fun z => z (by first | exact q32 | exact Decidable.not_not.mp q32)]; simp [bI])
                     | (rw [show rHs h i.toNat t.toNat = true by unfold rHs; simp only [decide_eq_true_eq]; exact q32, (nx_gt (bd := bR h k i.toNat) (t := t) (by omega)).mp (by show t < ((nxB (bdF (k i.toNat) (rdR h i.toNat)) _ _ : Nat) : Int); omega), show decide (1 ≤ t.toNat) = true by simp; omega]; rfl)
                     | (have nb : bR h k i.toNat t.toNat = true := by
                          cases hb : bR h k i.toNat t.toNat
                          · have z := (nx_gt (bd := bR h k i.toNat) (t := t) (by omega)).mpr hb
                            have z2 : t < ((nxB (bdF (k i.toNat) (rdR h i.toNat)) (12 - (t - 1)).toNat (t - 1).toNat : Nat) : Int) := z
                            omega
                          · rfl
                        rw [nb]; simp [bI]))
    refine r_iload_n (i0 := 2) C d_R_needsDegrees_4 rfl rfl ?_
    refine r_aload_n (i0 := 0) C d_R_needsDegrees_5 rfl rfl ?_
    refine r_getI C fl_R_88 d_R_needsDegrees_6 rfl ?_
    refine r_icmp_ge (tgt := 66) C d_R_needsDegrees_9 (by decide) (fun q9 => ?_) (fun q9 => ?_)
    · refine r_iload_n (i0 := 1) C d_R_needsDegrees_66 rfl rfl ?_
      exact r_zret C d_R_needsDegrees_67 (by rw [hA]; have := bI_01 (anyF i.toNat (fun f => anyF 12 (ndP h k f))); omega) (⟨vi_e (by rw [hA, show i.toNat = nR h by unfold nR; omega]; rfl), rfl⟩) (by decide) (fun _ => ⟨rfl, rfl, rfl⟩)
    · refine r_iconst C d_R_needsDegrees_12 (by decide) ?_
      refine r_istore_n (i0 := 3) C d_R_needsDegrees_13 rfl (by decide) ?_
      exact AW.lvs [(3, _), (1, _), (2, _), (0, _)] ⟨rfl, rfl, rfl, rfl, trivial⟩ (inner (by omega) _ 1 A (by omega) (by omega) rfl (by rw [hA]; show bI _ = bI (_ || (false || (decide (1 ≤ 0) && _ && _))); simp))
  refine r_iconst C d_R_needsDegrees_0 (by decide) ?_
  refine r_istore_n (i0 := 1) C d_R_needsDegrees_1 rfl (by decide) ?_
  refine r_iconst C d_R_needsDegrees_2 (by decide) ?_
  refine r_istore_n (i0 := 2) C d_R_needsDegrees_3 rfl (by decide) ?_
  exact AW.lvs [(2, _), (1, _), (0, _)] ⟨rfl, rfl, rfl, trivial⟩ (loop _ 0 0 (by omega) (by omega) rfl rfl)

/-! Contracts: splitting a part. -/
/-- the first of the greatest of r 0 .. r k -/
def gm (r : Nat → Int) (k : Nat) : Nat := match k with
  | 0 => 0
  | k + 1 => if r (gm r k) < r (k + 1) then k + 1 else gm r k
theorem gm_le (r : Nat → Int) : ∀ k, gm r k ≤ k := by
  intro k
  induction k with
  | zero => exact Nat.le_refl _
  | succ k ih => unfold gm; split <;> omega
def upI (f : Nat → Int) (g : Nat) (v : Int) : Nat → Int := fun k => if k = g then v else f k
/-- m cents more, each to the first of the greatest rests, which is nothing then -/
def gvC (n m : Nat) (r c : Nat → Int) : Nat → Int := match m with
  | 0 => c
  | m + 1 => gvC n m (upI r (gm r (n - 1)) 0) (upI c (gm r (n - 1)) (c (gm r (n - 1)) + 1))
theorem cut_cmp {X Y cs cg ds dg rs rg : Int} (hX : 0 < X) (hY : 0 < Y) (h1 : 0 < ds) (h2 : 0 < dg) (e1 : cs * X = Y * rs * ds) (e2 : cg * X = Y * rg * dg) : cg * ds < cs * dg ↔ rg < rs := by
  have hZ : 0 < Y * (ds * dg) := Int.mul_pos hY (Int.mul_pos h1 h2)
  have f1 : cs * dg * X = rs * (Y * (ds * dg)) := by
    rw [Int.mul_right_comm, e1]; ac_rfl
  have f2 : cg * ds * X = rg * (Y * (ds * dg)) := by
    rw [Int.mul_right_comm, e2]; ac_rfl
  constructor
  · intro q
    have q1 := Int.mul_lt_mul_of_pos_right q hX
    rw [f1, f2] at q1
    exact Int.lt_of_mul_lt_mul_right q1 (by omega)
  · intro q
    have q1 := Int.mul_lt_mul_of_pos_right q hZ
    rw [← f1, ← f2] at q1
    exact Int.lt_of_mul_lt_mul_right q1 (by omega)
theorem quo_eq {a b n D : Int} (hb : 0 < b) (hD : 0 < D) (e : a * D = n * b) : a / b = n / D := by
  rw [← Int.mul_ediv_mul_of_pos_left a b hD, e, Int.mul_comm b D, Int.mul_ediv_mul_of_pos_left n D hb]
theorem rem_eq {a b n D : Int} (hb : 0 < b) (hD : 0 < D) (e : a * D = n * b) : a % b * D = n % D * b := by
  rw [Int.emod_def, Int.emod_def, quo_eq hb hD e, Int.sub_mul, Int.sub_mul, e]
  congr 1
  ac_rfl
set_option maxHeartbeats 1000000 in
theorem c_S_roundDown {l : Launch} (hl : l.stackTraces = false) {w : XW} {h : AH} {p a : Int} (ha : 0 ≤ a ∧ a < 72) (hp : 0 ≤ p ∧ p ≤ 260000) (hA : 1 ≤ h 18 0 4 ∧ h 18 0 4 ≤ 432000000) (hw : 0 ≤ h 20 0 a.toNat ∧ h 20 0 a.toNat ≤ 720000000000) (hd : 1 ≤ h 21 0 a.toNat ∧ h 21 0 a.toNat ≤ 10000) (hle : h 20 0 a.toNat ≤ h 18 0 4 * h 21 0 a.toNat) : AM l y_S_roundDown (wsM y_S_roundDown b_S_roundDown 7 none []) false (rmV 0 0) w [vO 18 0, vI p, vI a] h (RetP none (fun h' => h' = hset (hset h 19 0 a.toNat (p * h 20 0 a.toNat / (h 18 0 4 * h 21 0 a.toNat))) 22 0 a.toNat (p * h 20 0 a.toNat % (h 18 0 4 * h 21 0 a.toNat)))) := by
  refine AM.of hl (by decide +kernel) (Nat.le_of_ble_eq_true rfl) fun x hx C _ => ?_
  have m1 := mulN (A := 432000000) (B := 10000) (a := h 18 0 4) (b := h 21 0 a.toNat) (by omega) (by omega)
  have m0 := Int.mul_pos (show 0 < h 18 0 4 by omega) (show 0 < h 21 0 a.toNat by omega)
  have m2 := mulN (A := 260000) (B := 720000000000) (a := p) (b := h 20 0 a.toNat) (by omega) (by omega)
  have q0 : 0 ≤ p * (h 20 0 a.toNat) / (h 18 0 4 * h 21 0 a.toNat) := Int.ediv_nonneg m2.1 (by omega)
  have q1 : p * (h 20 0 a.toNat) / (h 18 0 4 * h 21 0 a.toNat) ≤ p := by
    have z := Int.ediv_le_ediv m0 (Int.mul_le_mul_of_nonneg_left hle (show 0 ≤ p by omega))
    rwa [Int.mul_ediv_cancel _ (by omega)] at z
  have r0 := Int.emod_nonneg (p * (h 20 0 a.toNat)) (show h 18 0 4 * h 21 0 a.toNat ≠ 0 by omega)
  have r1 := Int.emod_lt_of_pos (p * (h 20 0 a.toNat)) m0
  refine r_aload_n (i0 := 0) C d_S_roundDown_0 rfl rfl ?_
  refine r_getL C fl_S_25 d_S_roundDown_1 rfl ?_
  refine r_aload_n (i0 := 0) C d_S_roundDown_4 rfl rfl ?_
  refine r_getO C fl_S_19 d_S_roundDown_5 rfl rfl (fun hi => hi) ?_
  refine r_iload_n (i0 := 2) C d_S_roundDown_8 rfl rfl ?_
  refine r_laload (ln := 72) C d_S_roundDown_9 rfl (fun _ => rfl) rfl (by omega) ?_
  refine r_lmul C d_S_roundDown_10 (by omega) ?_
  refine r_lstore_n (i0 := 3) C d_S_roundDown_11 rfl (by decide) ?_
  refine r_iload_n (i0 := 1) C d_S_roundDown_12 rfl rfl ?_
  refine r_i2l C d_S_roundDown_13 ?_
  refine r_aload_n (i0 := 0) C d_S_roundDown_14 rfl rfl ?_
  refine r_getO C fl_S_15 d_S_roundDown_15 rfl rfl (fun hi => hi) ?_
  refine r_iload_n (i0 := 2) C d_S_roundDown_18 rfl rfl ?_
  refine r_laload (ln := 72) C d_S_roundDown_19 rfl (fun _ => rfl) rfl (by omega) ?_
  refine r_lmul C d_S_roundDown_20 (by omega) ?_
  refine r_lstore C d_S_roundDown_21 (by decide) ?_
  refine r_aload_n (i0 := 0) C d_S_roundDown_23 rfl rfl ?_
  refine r_getO C fl_S_9 d_S_roundDown_24 rfl rfl (fun hi => hi) ?_
  refine r_iload_n (i0 := 2) C d_S_roundDown_27 rfl rfl ?_
  refine r_lload_n (i0 := 3) C d_S_roundDown_28 rfl rfl ?_
  refine r_lconst C 0 d_S_roundDown_29 (by decide) (by decide) ?_
  refine r_lcmp_le (tgt := 42) C d_S_roundDown_30 d_S_roundDown_31 (by decide) (fun q30 => ?_) (fun q30 => ?_)
  · exfalso; omega 
  · refine r_lload C d_S_roundDown_34 rfl ?_
    refine r_lload_n (i0 := 3) C d_S_roundDown_36 rfl rfl ?_
    refine r_ldiv C d_S_roundDown_37 (by omega) (by rw [tdiv_nn m2.1]; omega) ?_
    rw [tdiv_nn m2.1]
    refine r_l2i C d_S_roundDown_38 (by omega) ?_
    refine r_goto (tgt := 43) C d_S_roundDown_39 (by decide) ?_
    refine r_iastore (ln := 72) C d_S_roundDown_43 rfl (fun _ => rfl) rfl (by omega) ?_
    refine r_aload_n (i0 := 0) C d_S_roundDown_44 rfl rfl ?_
    refine r_getO C fl_S_22 d_S_roundDown_45 rfl rfl (fun hi => hi) ?_
    refine r_iload_n (i0 := 2) C d_S_roundDown_48 rfl rfl ?_
    refine r_lload_n (i0 := 3) C d_S_roundDown_49 rfl rfl ?_
    refine r_lconst C 0 d_S_roundDown_50 (by decide) (by decide) ?_
    refine r_lcmp_le (tgt := 62) C d_S_roundDown_51 d_S_roundDown_52 (by decide) (fun q51 => ?_) (fun q51 => ?_)
    · exfalso; omega 
    · refine r_lload C d_S_roundDown_55 rfl ?_
      refine r_lload_n (i0 := 3) C d_S_roundDown_57 rfl rfl ?_
      refine r_lrem C d_S_roundDown_58 (by omega) (by rw [tdiv_nn m2.1]; omega) (by rw [tmod_nn m2.1]; omega) ?_
      rw [tmod_nn m2.1]
      refine r_goto (tgt := 63) C d_S_roundDown_59 (by decide) ?_
      refine r_lastore (ln := 72) C d_S_roundDown_63 rfl (fun _ => rfl) rfl (by omega) ?_
      exact r_vret C d_S_roundDown_64 (⟨rfl, rfl⟩) (by decide) (fun q => nomatch q)
set_option maxHeartbeats 1000000 in
theorem c_S_greatestCutOff {l : Launch} (hl : l.stackTraces = false) {w : XW} {h : AH} {n X Y : Int} {r : Nat → Int} (hn : 1 ≤ n ∧ n ≤ 72) (hX : 0 < X) (hY : 0 < Y) (hq : (∀ s : Nat, s < n.toNat → (h 22 0 s * X = Y * r s * h 21 0 s ∧ 1 ≤ h 21 0 s ∧ h 21 0 s ≤ 10000 ∧ 0 ≤ h 22 0 s ∧ h 22 0 s ≤ 4320000000000))) : AM l y_S_greatestCutOff (wsM y_S_greatestCutOff b_S_greatestCutOff 4 (some .int) []) true (rmV 0 0) w [vO 18 0, vI n] h (Ret (some (vI ((gm r (n - 1).toNat : Nat) : Int))) h) := by
  refine AM.of hl (by decide +kernel) (Nat.le_of_ble_eq_true rfl) fun x hx C _ => ?_
  have loop : ∀ (m : Nat) (i g : Int), 1 ≤ i → i ≤ n → (n - i).toNat = m → g = ((gm r (i - 1).toNat : Nat) : Int) → AW x w 4 true 0 0 (AQ x w true 0 0 (Ret (some (vI ((gm r (n - 1).toNat : Nat) : Int))) h)) 4 [(3, vI i), (2, vI g), (0, vO 18 0), (1, vI n)] [] h := by
    intro m
    induction m using Nat.strongRecOn with
    | _ m ih =>
    intro i g hi0 hi1 hm hG
    refine r_iload_n (i0 := 3) C d_S_greatestCutOff_4 rfl rfl ?_
    refine r_iload_n (i0 := 1) C d_S_greatestCutOff_5 rfl rfl ?_
    refine r_icmp_ge (tgt := 47) C d_S_greatestCutOff_6 (by decide) (fun q6 => ?_) (fun q6 => ?_)
    · refine r_iload_n (i0 := 2) C d_S_greatestCutOff_47 rfl rfl ?_
      exact r_iret C d_S_greatestCutOff_48 (fun _ => ⟨vi_e (by rw [hG, show i - 1 = n - 1 by omega]), rfl⟩) (by decide) (fun _ => ⟨rfl, rfl, rfl⟩)
    · have g0 := gm_le r (i - 1).toNat
      have i1 := hq i.toNat (by omega)
      have gi : g.toNat = gm r (i - 1).toNat := by omega
      have i2 := hq (gm r (i - 1).toNat) (by omega)
      have m1 := mulN (A := 4320000000000) (B := 10000) (a := h 22 0 i.toNat) (b := h 21 0 (gm r (i - 1).toNat)) (by omega) (by omega)
      have m2 := mulN (A := 4320000000000) (B := 10000) (a := h 22 0 (gm r (i - 1).toNat)) (b := h 21 0 i.toNat) (by omega) (by omega)
      have cc := cut_cmp hX hY (show 0 < h 21 0 i.toNat by omega) (show 0 < h 21 0 (gm r (i - 1).toNat) by omega) i1.1 i2.1
      refine r_aload_n (i0 := 0) C d_S_greatestCutOff_9 rfl rfl ?_
      refine r_getO C fl_S_22 d_S_greatestCutOff_10 rfl rfl (fun hi => hi) ?_
      refine r_iload_n (i0 := 3) C d_S_greatestCutOff_13 rfl rfl ?_
      refine r_laload (ln := 72) C d_S_greatestCutOff_14 rfl (fun _ => rfl) rfl (by omega) ?_
      refine r_aload_n (i0 := 0) C d_S_greatestCutOff_15 rfl rfl ?_
      refine r_getO C fl_S_19 d_S_greatestCutOff_16 rfl rfl (fun hi => hi) ?_
      refine r_iload_n (i0 := 2) C d_S_greatestCutOff_19 rfl rfl ?_
      refine r_laload (ln := 72) C d_S_greatestCutOff_20 rfl (fun _ => rfl) rfl (by omega) ?_
      rw [gi]
      refine r_lmul C d_S_greatestCutOff_21 (by omega) ?_
      refine r_aload_n (i0 := 0) C d_S_greatestCutOff_22 rfl rfl ?_
      refine r_getO C fl_S_22 d_S_greatestCutOff_23 rfl rfl (fun hi => hi) ?_
      refine r_iload_n (i0 := 2) C d_S_greatestCutOff_26 rfl rfl ?_
      refine r_laload (ln := 72) C d_S_greatestCutOff_27 rfl (fun _ => rfl) rfl (by omega) ?_
      rw [gi]
      refine r_aload_n (i0 := 0) C d_S_greatestCutOff_28 rfl rfl ?_
      refine r_getO C fl_S_19 d_S_greatestCutOff_29 rfl rfl (fun hi => hi) ?_
      refine r_iload_n (i0 := 3) C d_S_greatestCutOff_32 rfl rfl ?_
      refine r_laload (ln := 72) C d_S_greatestCutOff_33 rfl (fun _ => rfl) rfl (by omega) ?_
      refine r_lmul C d_S_greatestCutOff_34 (by omega) ?_
      refine r_lcmp_le (tgt := 41) C d_S_greatestCutOff_35 d_S_greatestCutOff_36 (by decide) (fun q35 => ?_) (fun q35 => ?_)
      · refine r_iinc C d_S_greatestCutOff_41 rfl (by decide) (by omega) ?_
        refine r_goto (tgt := 4) C d_S_greatestCutOff_44 (by decide) ?_
        have e1 : (i + 1 - 1).toNat = (i - 1).toNat + 1 := by omega
        have e2 : (i - 1).toNat + 1 = i.toNat := by omega
        refine AW.lvs [(3, _), (2, _), (0, _), (1, _)] ⟨rfl, rfl, rfl, rfl, trivial⟩ (ih (m - 1) (by omega) (i + 1) _ (by omega) (by omega) (by omega) ?_)
        rw [e1]
        unfold gm
        rw [e2]
        first
          | (rw [if_pos (by omega)]; omega)
          | (rw [if_neg (by omega)]; omega)
      · refine r_iload_n (i0 := 3) C d_S_greatestCutOff_39 rfl rfl ?_
        refine r_istore_n (i0 := 2) C d_S_greatestCutOff_40 rfl (by decide) ?_
        refine r_iinc C d_S_greatestCutOff_41 rfl (by decide) (by omega) ?_
        refine r_goto (tgt := 4) C d_S_greatestCutOff_44 (by decide) ?_
        have e1 : (i + 1 - 1).toNat = (i - 1).toNat + 1 := by omega
        have e2 : (i - 1).toNat + 1 = i.toNat := by omega
        refine AW.lvs [(3, _), (2, _), (0, _), (1, _)] ⟨rfl, rfl, rfl, rfl, trivial⟩ (ih (m - 1) (by omega) (i + 1) _ (by omega) (by omega) (by omega) ?_)
        rw [e1]
        unfold gm
        rw [e2]
        first
          | (rw [if_pos (by omega)]; omega)
          | (rw [if_neg (by omega)]; omega)
  refine r_iconst C d_S_greatestCutOff_0 (by decide) ?_
  refine r_istore_n (i0 := 2) C d_S_greatestCutOff_1 rfl (by decide) ?_
  refine r_iconst C d_S_greatestCutOff_2 (by decide) ?_
  refine r_istore_n (i0 := 3) C d_S_greatestCutOff_3 rfl (by decide) ?_
  exact AW.lvs [(3, _), (2, _), (0, _), (1, _)] ⟨rfl, rfl, rfl, rfl, trivial⟩ (loop _ 1 0 (by omega) (by omega) rfl rfl)

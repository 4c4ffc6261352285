/-! The constructors. -/
def off (t i : Nat) : Nat := match t with
  | 1 => 0
  | 2 => 1
  | 3 => 2
  | 4 => 3 + 3 * i
  | 5 => 4 + 3 * i
  | 6 => 5 + 3 * i
  | 25 => 39 + i
  | 70 => 69
  | t => if t < 25 then t + 14 else if t < 31 then t + 16 else t + 7
/-- the objects lie one behind the other, in the order in which they are made -/
def wB (w : XW) (b : Nat) : Prop := ∀ t i, i < cntT t → w.1 t i = b + off t i
def rmK (lev c s : Nat) : Room := { frames := 6 + lev, cells := c, slots := s, locals := 90 + 45 * lev }
theorem oi_i : Cond.instanceMethod Lib.objectInit ∈ GW := gwT 25 (by decide +kernel) (by decide +kernel)
theorem oi_c : Cond.code Lib.objectInit ⟨#[0xb1]⟩ 1 none ∈ GW := gwT 26 (by decide +kernel) (by decide +kernel)
theorem ac_int : Cond.arrayClass .int ∈ GW := gwT 78 (by decide +kernel) (by decide +kernel)
theorem ac_long : Cond.arrayClass .long ∈ GW := gwT 147 (by decide +kernel) (by decide +kernel)
theorem ac_bool : Cond.arrayClass .boolean ∈ GW := gwT 904 (by decide +kernel) (by decide +kernel)
theorem il_H_11 : ILk R_H 11 y_O_init b_O_init 2 := ⟨rfl, Or.inl (gwT 29 (by decide +kernel) (by decide +kernel)), gwT 30 (by decide +kernel) (by decide +kernel), gwT 31 (by decide +kernel) (by decide +kernel), gwT 2 (by decide +kernel) (by decide +kernel), ⟨by decide, by decide⟩, by decide +kernel⟩
theorem il_H_18 : ILk R_H 18 y_U_init b_U_init 1 := ⟨rfl, Or.inr ⟨R_H, by decide⟩, gwT 96 (by decide +kernel) (by decide +kernel), gwT 97 (by decide +kernel) (by decide +kernel), gwT 5 (by decide +kernel) (by decide +kernel), ⟨by decide, by decide⟩, by decide +kernel⟩
theorem il_H_25 : ILk R_H 25 y_M_init b_M_init 1 := ⟨rfl, Or.inr ⟨R_H, by decide⟩, gwT 117 (by decide +kernel) (by decide +kernel), gwT 118 (by decide +kernel) (by decide +kernel), gwT 6 (by decide +kernel) (by decide +kernel), ⟨by decide, by decide⟩, by decide +kernel⟩
theorem il_H_32 : ILk R_H 32 y_P_init b_P_init 1 := ⟨rfl, Or.inr ⟨R_H, by decide⟩, gwT 151 (by decide +kernel) (by decide +kernel), gwT 152 (by decide +kernel) (by decide +kernel), gwT 7 (by decide +kernel) (by decide +kernel), ⟨by decide, by decide⟩, by decide +kernel⟩
theorem il_H_39 : ILk R_H 39 y_S_init b_S_init 1 := ⟨rfl, Or.inr ⟨R_H, by decide⟩, gwT 179 (by decide +kernel) (by decide +kernel), gwT 180 (by decide +kernel) (by decide +kernel), gwT 8 (by decide +kernel) (by decide +kernel), ⟨by decide, by decide⟩, by decide +kernel⟩
theorem il_H_46 : ILk R_H 46 y_A_init b_A_init 1 := ⟨rfl, Or.inr ⟨R_H, by decide⟩, gwT 202 (by decide +kernel) (by decide +kernel), gwT 203 (by decide +kernel) (by decide +kernel), gwT 9 (by decide +kernel) (by decide +kernel), ⟨by decide, by decide⟩, by decide +kernel⟩
theorem il_O_21 : ILk R_O 21 y_F_init b_F_init 1 := ⟨rfl, Or.inl (gwT 36 (by decide +kernel) (by decide +kernel)), gwT 37 (by decide +kernel) (by decide +kernel), gwT 38 (by decide +kernel) (by decide +kernel), gwT 3 (by decide +kernel) (by decide +kernel), ⟨by decide, by decide⟩, by decide +kernel⟩
theorem il_L_81 : ILk R_L 81 y_H_init b_H_init 1 := ⟨rfl, Or.inl (gwT 21 (by decide +kernel) (by decide +kernel)), gwT 22 (by decide +kernel) (by decide +kernel), gwT 23 (by decide +kernel) (by decide +kernel), gwT 1 (by decide +kernel) (by decide +kernel), ⟨by decide, by decide⟩, by decide +kernel⟩
theorem il_L_84 : ILk R_L 84 y_R_init b_R_init 1 := ⟨rfl, Or.inl (gwT 785 (by decide +kernel) (by decide +kernel)), gwT 786 (by decide +kernel) (by decide +kernel), gwT 787 (by decide +kernel) (by decide +kernel), gwT 10 (by decide +kernel) (by decide +kernel), ⟨by decide, by decide⟩, by decide +kernel⟩
theorem df_H : ∀ k, k < 13 → defaultValue (t_H k) = match ftT 1 k with | 0 => .int 0 | 1 => .long 0 | _ => .null := by
  intro k hk
  rcases (show k = 0 ∨ k = 1 ∨ k = 2 ∨ k = 3 ∨ k = 4 ∨ k = 5 ∨ k = 6 ∨ k = 7 ∨ k = 8 ∨ k = 9 ∨ k = 10 ∨ k = 11 ∨ k = 12 by omega) with rfl | rfl | rfl | rfl | rfl | rfl | rfl | rfl | rfl | rfl | rfl | rfl | rfl <;> rfl
theorem df_O : ∀ k, k < 2 → defaultValue (t_O k) = match ftT 2 k with | 0 => .int 0 | 1 => .long 0 | _ => .null := by
  intro k hk
  rcases (show k = 0 ∨ k = 1 by omega) with rfl | rfl <;> rfl
theorem df_F : ∀ k, k < 7 → defaultValue (t_F k) = match ftT 4 k with | 0 => .int 0 | 1 => .long 0 | _ => .null := by
  intro k hk
  rcases (show k = 0 ∨ k = 1 ∨ k = 2 ∨ k = 3 ∨ k = 4 ∨ k = 5 ∨ k = 6 by omega) with rfl | rfl | rfl | rfl | rfl | rfl | rfl <;> rfl
theorem df_U : ∀ k, k < 4 → defaultValue (t_U k) = match ftT 7 k with | 0 => .int 0 | 1 => .long 0 | _ => .null := by
  intro k hk
  rcases (show k = 0 ∨ k = 1 ∨ k = 2 ∨ k = 3 by omega) with rfl | rfl | rfl | rfl <;> rfl
theorem df_M : ∀ k, k < 8 → defaultValue (t_M k) = match ftT 10 k with | 0 => .int 0 | 1 => .long 0 | _ => .null := by
  intro k hk
  rcases (show k = 0 ∨ k = 1 ∨ k = 2 ∨ k = 3 ∨ k = 4 ∨ k = 5 ∨ k = 6 ∨ k = 7 by omega) with rfl | rfl | rfl | rfl | rfl | rfl | rfl | rfl <;> rfl
theorem df_P : ∀ k, k < 5 → defaultValue (t_P k) = match ftT 13 k with | 0 => .int 0 | 1 => .long 0 | _ => .null := by
  intro k hk
  rcases (show k = 0 ∨ k = 1 ∨ k = 2 ∨ k = 3 ∨ k = 4 by omega) with rfl | rfl | rfl | rfl | rfl <;> rfl
theorem df_S : ∀ k, k < 5 → defaultValue (t_S k) = match ftT 18 k with | 0 => .int 0 | 1 => .long 0 | _ => .null := by
  intro k hk
  rcases (show k = 0 ∨ k = 1 ∨ k = 2 ∨ k = 3 ∨ k = 4 by omega) with rfl | rfl | rfl | rfl | rfl <;> rfl
theorem df_A : ∀ k, k < 5 → defaultValue (t_A k) = match ftT 23 k with | 0 => .int 0 | 1 => .long 0 | _ => .null := by
  intro k hk
  rcases (show k = 0 ∨ k = 1 ∨ k = 2 ∨ k = 3 ∨ k = 4 by omega) with rfl | rfl | rfl | rfl | rfl <;> rfl
theorem df_R : ∀ k, k < 38 → defaultValue (t_R k) = match ftT 40 k with | 0 => .int 0 | 1 => .long 0 | _ => .null := by
  intro k hk
  rcases (show k = 0 ∨ k = 1 ∨ k = 2 ∨ k = 3 ∨ k = 4 ∨ k = 5 ∨ k = 6 ∨ k = 7 ∨ k = 8 ∨ k = 9 ∨ k = 10 ∨ k = 11 ∨ k = 12 ∨ k = 13 ∨ k = 14 ∨ k = 15 ∨ k = 16 ∨ k = 17 ∨ k = 18 ∨ k = 19 ∨ k = 20 ∨ k = 21 ∨ k = 22 ∨ k = 23 ∨ k = 24 ∨ k = 25 ∨ k = 26 ∨ k = 27 ∨ k = 28 ∨ k = 29 ∨ k = 30 ∨ k = 31 ∨ k = 32 ∨ k = 33 ∨ k = 34 ∨ k = 35 ∨ k = 36 ∨ k = 37 by omega) with rfl | rfl | rfl | rfl | rfl | rfl | rfl | rfl | rfl | rfl | rfl | rfl | rfl | rfl | rfl | rfl | rfl | rfl | rfl | rfl | rfl | rfl | rfl | rfl | rfl | rfl | rfl | rfl | rfl | rfl | rfl | rfl | rfl | rfl | rfl | rfl | rfl | rfl <;> rfl
set_option maxHeartbeats 1000000 in
theorem k_fill {l : Launch} (hl : l.stackTraces = false) {w : XW} {E : EX} {h : AH} {sz t i : Nat} {v : Int} (hk : kdT t = 1) (h0 : ∀ j, ftT t j = 0) (hE : E t i = true) (hln : (lnT t : Int) ≤ 1000) : PM l y_J_fill (wsM y_J_fill b_J_fill 4 none []) (rmK 0 0 0) w [vO t i, vI v] E h sz E (hfill h t i 0 (lnT t) v) sz := by
  refine PM.of hl (by decide +kernel) (Nat.le_of_ble_eq_true rfl) fun x hx C hni hN => ?_
  have loop : ∀ (m : Nat) (i0 : Int), 0 ≤ i0 → i0 ≤ (lnT t : Int) → ((lnT t : Int) - i0).toNat = m → PW x w 4 0 0 (PQ x w 0 0 E (hfill h t i 0 (lnT t) v) sz) 5 [(2, vI i0), (3, vI (lnT t : Int)), (0, vO t i), (1, vI v)] [] E (hfill h t i 0 i0.toNat v) sz := by
    intro m
    induction m using Nat.strongRecOn with
    | _ m ih =>
    intro i0 hi0 hi1 hm
    refine p_iload_n (i0 := 2) C d_J_fill_5 rfl rfl ?_
    refine p_iload_n (i0 := 3) C d_J_fill_6 rfl rfl ?_
    refine p_icmp_ge (tgt := 20) C d_J_fill_7 (by decide) (fun q7 => ?_) (fun q7 => ?_)
    · have e : i0.toNat = lnT t := by omega
      rw [e]
      exact p_vret C d_J_fill_20 (by decide)
    · refine p_aload_n (i0 := 0) C d_J_fill_10 rfl rfl ?_
      refine p_iload_n (i0 := 2) C d_J_fill_11 rfl rfl ?_
      refine p_iload_n (i0 := 1) C d_J_fill_12 rfl rfl ?_
      refine p_iastore (ln := lnT t) C hE d_J_fill_13 hk h0 rfl (by omega) ?_
      refine p_iinc C d_J_fill_14 rfl (by decide) (by omega) ?_
      refine p_goto (tgt := 5) C d_J_fill_17 (by decide) ?_
      have e2 : (i0 + 1).toNat = i0.toNat + 1 := by omega
      have ee := ih (m - 1) (by omega) (i0 + 1) (by omega) (by omega) (by omega)
      rw [e2] at ee
      have es := hfill_succ h t i 0 i0.toNat v
      rw [Nat.zero_add] at es
      exact PW.lvs [(2, _), (3, _), (0, _), (1, _)] ⟨rfl, rfl, rfl, rfl, trivial⟩ (PW.heq rfl es rfl ee)
  refine p_iconst C d_J_fill_0 (by decide) ?_
  refine p_istore_n (i0 := 2) C d_J_fill_1 rfl (by decide) ?_
  refine p_aload_n (i0 := 0) C d_J_fill_2 rfl rfl ?_
  refine p_alen C hE d_J_fill_3 hk rfl (by omega) ?_
  refine p_istore_n (i0 := 3) C d_J_fill_4 rfl (by decide) ?_
  exact PW.lvs [(2, _), (3, _), (0, _), (1, _)] ⟨rfl, rfl, rfl, rfl, trivial⟩ (PW.heq rfl (hfill_zero h t i 0 v).symm rfl (loop _ 0 (by omega) (by omega) rfl))
def eK_U (E : EX) : EX := (eadd (eadd E 8 0) 9 0)
def hK_U (h : AH) : AH := (hset (hset (hset (hset h 7 0 0 1) 7 0 1 1) 7 0 2 0) 7 0 3 (-1))
set_option maxHeartbeats 1000000 in
theorem k_U {l : Launch} (hl : l.stackTraces = false) {w : XW} {E : EX} {h : AH} {b sz : Nat} (hw : wB w b) (hs : sz = b + 22) (hE : E 7 0 = true) (hn : ∀ t i : Nat, 8 ≤ t → t ≤ 9 → E t i = false) : PM l y_U_init (wsM y_U_init b_U_init 1 none []) (rmK 1 2 24) w [vO 7 0] E h sz (eK_U E) (hK_U h) (sz + 1 + 1) := by
  refine PM.of hl (by decide +kernel) (Nat.le_of_ble_eq_true rfl) fun x hx C hni hN => ?_
  refine p_aload_n (i0 := 0) C d_U_init_0 rfl rfl ?_
  refine p_objInit C (gwT 98 (by decide +kernel) (by decide +kernel)) oi_i oi_c d_U_init_1 (by decide) (by decide) ?_
  refine p_aload_n (i0 := 0) C d_U_init_4 rfl rfl ?_
  refine p_bipush C d_U_init_5 (by decide) (by decide) ?_
  refine p_newarr (t := 8) (i := 0) (k := 0) (ln := 12) (ty := .int) C rfl rfl rfl (fun _ _ z => z) ac_int rfl (by decide) (fun _ => rfl) (by decide) (by decide) (by rw [hw 8 0 (by decide)]; show b + 22 = _; omega) (hn 8 0 (by decide) (by decide)) (by decide) d_U_init_7 ?_
  refine p_putF C hni fl_U_9 rfl ok_U nm_U rfl rfl (fun _ => rfl) (fun _ => rfl) (hE) d_U_init_9 rfl rfl ?_
  refine p_aload_n (i0 := 0) C d_U_init_12 rfl rfl ?_
  refine p_bipush C d_U_init_13 (by decide) (by decide) ?_
  refine p_newarr (t := 9) (i := 0) (k := 0) (ln := 12) (ty := .int) C rfl rfl rfl (fun _ _ z => z) ac_int rfl (by decide) (fun _ => rfl) (by decide) (by decide) (by rw [hw 9 0 (by decide)]; show b + 23 = _; omega) (hn 9 0 (by decide) (by decide)) (by decide) d_U_init_15 ?_
  refine p_putF C hni fl_U_15 rfl ok_U nm_U rfl rfl (fun _ => rfl) (fun _ => rfl) (hE) d_U_init_17 rfl rfl ?_
  refine p_aload_n (i0 := 0) C d_U_init_20 rfl rfl ?_
  refine p_iconst C d_U_init_21 (by decide) ?_
  refine p_putI C pl_U_18 (hE) d_U_init_22 rfl ?_
  refine p_aload_n (i0 := 0) C d_U_init_25 rfl rfl ?_
  refine p_iconst C d_U_init_26 (by decide) ?_
  refine p_putI C pl_U_22 (hE) d_U_init_27 rfl ?_
  exact p_vret C d_U_init_30 (by decide)
def eK_M (E : EX) : EX := (eadd (eadd E 11 0) 12 0)
def hK_M (h : AH) : AH := (hset (hset (hset (hset (hset (hset (hset (hset h 10 0 0 1) 10 0 1 1) 10 0 2 1) 10 0 3 0) 10 0 4 0) 10 0 5 0) 10 0 6 0) 10 0 7 0)
set_option maxHeartbeats 1000000 in
theorem k_M {l : Launch} (hl : l.stackTraces = false) {w : XW} {E : EX} {h : AH} {b sz : Nat} (hw : wB w b) (hs : sz = b + 25) (hE : E 10 0 = true) (hn : ∀ t i : Nat, 11 ≤ t → t ≤ 12 → E t i = false) : PM l y_M_init (wsM y_M_init b_M_init 1 none []) (rmK 1 2 12) w [vO 10 0] E h sz (eK_M E) (hK_M h) (sz + 1 + 1) := by
  refine PM.of hl (by decide +kernel) (Nat.le_of_ble_eq_true rfl) fun x hx C hni hN => ?_
  refine p_aload_n (i0 := 0) C d_M_init_0 rfl rfl ?_
  refine p_objInit C (gwT 119 (by decide +kernel) (by decide +kernel)) oi_i oi_c d_M_init_1 (by decide) (by decide) ?_
  refine p_aload_n (i0 := 0) C d_M_init_4 rfl rfl ?_
  refine p_bipush C d_M_init_5 (by decide) (by decide) ?_
  refine p_newarr (t := 11) (i := 0) (k := 0) (ln := 6) (ty := .int) C rfl rfl rfl (fun _ _ z => z) ac_int rfl (by decide) (fun _ => rfl) (by decide) (by decide) (by rw [hw 11 0 (by decide)]; show b + 25 = _; omega) (hn 11 0 (by decide) (by decide)) (by decide) d_M_init_7 ?_
  refine p_putF C hni fl_M_9 rfl ok_M nm_M rfl rfl (fun _ => rfl) (fun _ => rfl) (hE) d_M_init_9 rfl rfl ?_
  refine p_aload_n (i0 := 0) C d_M_init_12 rfl rfl ?_
  refine p_bipush C d_M_init_13 (by decide) (by decide) ?_
  refine p_newarr (t := 12) (i := 0) (k := 1) (ln := 6) (ty := .long) C rfl rfl rfl (fun _ _ z => z) ac_long rfl (by decide) (fun _ => rfl) (by decide) (by decide) (by rw [hw 12 0 (by decide)]; show b + 26 = _; omega) (hn 12 0 (by decide) (by decide)) (by decide) d_M_init_15 ?_
  refine p_putF C hni fl_M_15 rfl ok_M nm_M rfl rfl (fun _ => rfl) (fun _ => rfl) (hE) d_M_init_17 rfl rfl ?_
  refine p_aload_n (i0 := 0) C d_M_init_20 rfl rfl ?_
  refine p_lconst C 1 d_M_init_21 (by decide) (by decide) ?_
  refine p_putL C pl_M_19 (hE) d_M_init_22 rfl ?_
  refine p_aload_n (i0 := 0) C d_M_init_25 rfl rfl ?_
  refine p_lconst C 0 d_M_init_26 (by decide) (by decide) ?_
  refine p_putL C pl_M_23 (hE) d_M_init_27 rfl ?_
  refine p_aload_n (i0 := 0) C d_M_init_30 rfl rfl ?_
  refine p_iconst C d_M_init_31 (by decide) ?_
  refine p_putI C pl_M_26 (hE) d_M_init_32 rfl ?_
  refine p_aload_n (i0 := 0) C d_M_init_35 rfl rfl ?_
  refine p_iconst C d_M_init_36 (by decide) ?_
  refine p_putI C pl_M_30 (hE) d_M_init_37 rfl ?_
  refine p_aload_n (i0 := 0) C d_M_init_40 rfl rfl ?_
  refine p_iconst C d_M_init_41 (by decide) ?_
  refine p_putI C pl_M_33 (hE) d_M_init_42 rfl ?_
  refine p_aload_n (i0 := 0) C d_M_init_45 rfl rfl ?_
  refine p_iconst C d_M_init_46 (by decide) ?_
  refine p_putI C pl_M_36 (hE) d_M_init_47 rfl ?_
  exact p_vret C d_M_init_50 (by decide)
def eK_P (E : EX) : EX := (eadd (eadd (eadd (eadd E 14 0) 15 0) 16 0) 17 0)
def hK_P (h : AH) : AH := (hset (hset (hset (hset (hset h 13 0 0 1) 13 0 1 1) 13 0 2 1) 13 0 3 1) 13 0 4 0)
set_option maxHeartbeats 1000000 in
theorem k_P {l : Launch} (hl : l.stackTraces = false) {w : XW} {E : EX} {h : AH} {b sz : Nat} (hw : wB w b) (hs : sz = b + 28) (hE : E 13 0 = true) (hn : ∀ t i : Nat, 14 ≤ t → t ≤ 17 → E t i = false) : PM l y_P_init (wsM y_P_init b_P_init 1 none []) (rmK 1 4 288) w [vO 13 0] E h sz (eK_P E) (hK_P h) (sz + 1 + 1 + 1 + 1) := by
  refine PM.of hl (by decide +kernel) (Nat.le_of_ble_eq_true rfl) fun x hx C hni hN => ?_
  refine p_aload_n (i0 := 0) C d_P_init_0 rfl rfl ?_
  refine p_objInit C (gwT 153 (by decide +kernel) (by decide +kernel)) oi_i oi_c d_P_init_1 (by decide) (by decide) ?_
  refine p_aload_n (i0 := 0) C d_P_init_4 rfl rfl ?_
  refine p_bipush C d_P_init_5 (by decide) (by decide) ?_
  refine p_newarr (t := 14) (i := 0) (k := 0) (ln := 72) (ty := .int) C rfl rfl rfl (fun _ _ z => z) ac_int rfl (by decide) (fun _ => rfl) (by decide) (by decide) (by rw [hw 14 0 (by decide)]; show b + 28 = _; omega) (hn 14 0 (by decide) (by decide)) (by decide) d_P_init_7 ?_
  refine p_putF C hni fl_P_9 rfl ok_P nm_P rfl rfl (fun _ => rfl) (fun _ => rfl) (hE) d_P_init_9 rfl rfl ?_
  refine p_aload_n (i0 := 0) C d_P_init_12 rfl rfl ?_
  refine p_bipush C d_P_init_13 (by decide) (by decide) ?_
  refine p_newarr (t := 15) (i := 0) (k := 0) (ln := 72) (ty := .int) C rfl rfl rfl (fun _ _ z => z) ac_int rfl (by decide) (fun _ => rfl) (by decide) (by decide) (by rw [hw 15 0 (by decide)]; show b + 29 = _; omega) (hn 15 0 (by decide) (by decide)) (by decide) d_P_init_15 ?_
  refine p_putF C hni fl_P_15 rfl ok_P nm_P rfl rfl (fun _ => rfl) (fun _ => rfl) (hE) d_P_init_17 rfl rfl ?_
  refine p_aload_n (i0 := 0) C d_P_init_20 rfl rfl ?_
  refine p_bipush C d_P_init_21 (by decide) (by decide) ?_
  refine p_newarr (t := 16) (i := 0) (k := 0) (ln := 72) (ty := .int) C rfl rfl rfl (fun _ _ z => z) ac_int rfl (by decide) (fun _ => rfl) (by decide) (by decide) (by rw [hw 16 0 (by decide)]; show b + 30 = _; omega) (hn 16 0 (by decide) (by decide)) (by decide) d_P_init_23 ?_
  refine p_putF C hni fl_P_18 rfl ok_P nm_P rfl rfl (fun _ => rfl) (fun _ => rfl) (hE) d_P_init_25 rfl rfl ?_
  refine p_aload_n (i0 := 0) C d_P_init_28 rfl rfl ?_
  refine p_bipush C d_P_init_29 (by decide) (by decide) ?_
  refine p_newarr (t := 17) (i := 0) (k := 0) (ln := 72) (ty := .int) C rfl rfl rfl (fun _ _ z => z) ac_int rfl (by decide) (fun _ => rfl) (by decide) (by decide) (by rw [hw 17 0 (by decide)]; show b + 31 = _; omega) (hn 17 0 (by decide) (by decide)) (by decide) d_P_init_31 ?_
  refine p_putF C hni fl_P_21 rfl ok_P nm_P rfl rfl (fun _ => rfl) (fun _ => rfl) (hE) d_P_init_33 rfl rfl ?_
  refine p_aload_n (i0 := 0) C d_P_init_36 rfl rfl ?_
  refine p_iconst C d_P_init_37 (by decide) ?_
  refine p_putI C pl_P_24 (hE) d_P_init_38 rfl ?_
  exact p_vret C d_P_init_41 (by decide)
def eK_S (E : EX) : EX := (eadd (eadd (eadd (eadd E 19 0) 20 0) 21 0) 22 0)
def hK_S (h : AH) : AH := (hset (hset (hset (hset (hset h 18 0 0 1) 18 0 1 1) 18 0 2 1) 18 0 3 1) 18 0 4 0)
set_option maxHeartbeats 1000000 in
theorem k_S {l : Launch} (hl : l.stackTraces = false) {w : XW} {E : EX} {h : AH} {b sz : Nat} (hw : wB w b) (hs : sz = b + 33) (hE : E 18 0 = true) (hn : ∀ t i : Nat, 19 ≤ t → t ≤ 22 → E t i = false) : PM l y_S_init (wsM y_S_init b_S_init 1 none []) (rmK 1 4 288) w [vO 18 0] E h sz (eK_S E) (hK_S h) (sz + 1 + 1 + 1 + 1) := by
  refine PM.of hl (by decide +kernel) (Nat.le_of_ble_eq_true rfl) fun x hx C hni hN => ?_
  refine p_aload_n (i0 := 0) C d_S_init_0 rfl rfl ?_
  refine p_objInit C (gwT 181 (by decide +kernel) (by decide +kernel)) oi_i oi_c d_S_init_1 (by decide) (by decide) ?_
  refine p_aload_n (i0 := 0) C d_S_init_4 rfl rfl ?_
  refine p_bipush C d_S_init_5 (by decide) (by decide) ?_
  refine p_newarr (t := 19) (i := 0) (k := 0) (ln := 72) (ty := .int) C rfl rfl rfl (fun _ _ z => z) ac_int rfl (by decide) (fun _ => rfl) (by decide) (by decide) (by rw [hw 19 0 (by decide)]; show b + 33 = _; omega) (hn 19 0 (by decide) (by decide)) (by decide) d_S_init_7 ?_
  refine p_putF C hni fl_S_9 rfl ok_S nm_S rfl rfl (fun _ => rfl) (fun _ => rfl) (hE) d_S_init_9 rfl rfl ?_
  refine p_aload_n (i0 := 0) C d_S_init_12 rfl rfl ?_
  refine p_bipush C d_S_init_13 (by decide) (by decide) ?_
  refine p_newarr (t := 20) (i := 0) (k := 1) (ln := 72) (ty := .long) C rfl rfl rfl (fun _ _ z => z) ac_long rfl (by decide) (fun _ => rfl) (by decide) (by decide) (by rw [hw 20 0 (by decide)]; show b + 34 = _; omega) (hn 20 0 (by decide) (by decide)) (by decide) d_S_init_15 ?_
  refine p_putF C hni fl_S_15 rfl ok_S nm_S rfl rfl (fun _ => rfl) (fun _ => rfl) (hE) d_S_init_17 rfl rfl ?_
  refine p_aload_n (i0 := 0) C d_S_init_20 rfl rfl ?_
  refine p_bipush C d_S_init_21 (by decide) (by decide) ?_
  refine p_newarr (t := 21) (i := 0) (k := 1) (ln := 72) (ty := .long) C rfl rfl rfl (fun _ _ z => z) ac_long rfl (by decide) (fun _ => rfl) (by decide) (by decide) (by rw [hw 21 0 (by decide)]; show b + 35 = _; omega) (hn 21 0 (by decide) (by decide)) (by decide) d_S_init_23 ?_
  refine p_putF C hni fl_S_19 rfl ok_S nm_S rfl rfl (fun _ => rfl) (fun _ => rfl) (hE) d_S_init_25 rfl rfl ?_
  refine p_aload_n (i0 := 0) C d_S_init_28 rfl rfl ?_
  refine p_bipush C d_S_init_29 (by decide) (by decide) ?_
  refine p_newarr (t := 22) (i := 0) (k := 1) (ln := 72) (ty := .long) C rfl rfl rfl (fun _ _ z => z) ac_long rfl (by decide) (fun _ => rfl) (by decide) (by decide) (by rw [hw 22 0 (by decide)]; show b + 36 = _; omega) (hn 22 0 (by decide) (by decide)) (by decide) d_S_init_31 ?_
  refine p_putF C hni fl_S_22 rfl ok_S nm_S rfl rfl (fun _ => rfl) (fun _ => rfl) (hE) d_S_init_33 rfl rfl ?_
  refine p_aload_n (i0 := 0) C d_S_init_36 rfl rfl ?_
  refine p_lconst C 0 d_S_init_37 (by decide) (by decide) ?_
  refine p_putL C pl_S_25 (hE) d_S_init_38 rfl ?_
  exact p_vret C d_S_init_41 (by decide)
def eK_A (E : EX) : EX := (eadd (eadd (eadd (e24 E) 26 0) 27 0) 28 0)
def hK_A (h : AH) : AH := (hset (hset (hset (hset (hset (h24 h) 23 0 0 1) 23 0 1 1) 23 0 2 1) 23 0 3 1) 23 0 4 0)
set_option maxHeartbeats 1000000 in
theorem k_A {l : Launch} (hl : l.stackTraces = false) {w : XW} {E : EX} {h : AH} {b sz : Nat} (hw : wB w b) (hs : sz = b + 38) (hE : E 23 0 = true) (hn : ∀ t i : Nat, 24 ≤ t → t ≤ 28 → E t i = false) : PM l y_A_init (wsM y_A_init b_A_init 1 none []) (rmK 1 7 128) w [vO 23 0] E h sz (eK_A E) (hK_A h) (sz + 4 + 1 + 1 + 1) := by
  refine PM.of hl (by decide +kernel) (Nat.le_of_ble_eq_true rfl) fun x hx C hni hN => ?_
  refine p_aload_n (i0 := 0) C d_A_init_0 rfl rfl ?_
  refine p_objInit C (gwT 204 (by decide +kernel) (by decide +kernel)) oi_i oi_c d_A_init_1 (by decide) (by decide) ?_
  refine p_aload_n (i0 := 0) C d_A_init_4 rfl rfl ?_
  refine p_iconst C d_A_init_5 (by decide) ?_
  refine p_bipush C d_A_init_6 (by decide) (by decide) ?_
  refine p_mna C (gwT 205 (by decide +kernel) (by decide +kernel)) hN.2.2 ac_int (⟨by rw [hw 24 0 (by decide)]; show b + 38 = _; omega, by rw [hw 25 0 (by decide)]; show b + 39 = _; omega, by rw [hw 25 1 (by decide)]; show b + 40 = _; omega, by rw [hw 25 2 (by decide)]; show b + 41 = _; omega⟩) (⟨hn 24 0 (by decide) (by decide), hn 25 0 (by decide) (by decide), hn 25 1 (by decide) (by decide), hn 25 2 (by decide) (by decide)⟩) (by decide) d_A_init_8 ?_
  refine p_putF C hni fl_A_11 rfl ok_A nm_A rfl rfl (fun _ => rfl) (fun _ => rfl) (hE) d_A_init_12 rfl rfl ?_
  refine p_aload_n (i0 := 0) C d_A_init_15 rfl rfl ?_
  refine p_bipush C d_A_init_16 (by decide) (by decide) ?_
  refine p_newarr (t := 26) (i := 0) (k := 0) (ln := 21) (ty := .int) C rfl rfl rfl (fun _ _ z => z) ac_int rfl (by decide) (fun _ => rfl) (by decide) (by decide) (by rw [hw 26 0 (by decide)]; show b + 42 = _; omega) (hn 26 0 (by decide) (by decide)) (by decide) d_A_init_18 ?_
  refine p_putF C hni fl_A_16 rfl ok_A nm_A rfl rfl (fun _ => rfl) (fun _ => rfl) (hE) d_A_init_20 rfl rfl ?_
  refine p_aload_n (i0 := 0) C d_A_init_23 rfl rfl ?_
  refine p_bipush C d_A_init_24 (by decide) (by decide) ?_
  refine p_newarr (t := 27) (i := 0) (k := 0) (ln := 20) (ty := .int) C rfl rfl rfl (fun _ _ z => z) ac_int rfl (by decide) (fun _ => rfl) (by decide) (by decide) (by rw [hw 27 0 (by decide)]; show b + 43 = _; omega) (hn 27 0 (by decide) (by decide)) (by decide) d_A_init_26 ?_
  refine p_putF C hni fl_A_20 rfl ok_A nm_A rfl rfl (fun _ => rfl) (fun _ => rfl) (hE) d_A_init_28 rfl rfl ?_
  refine p_aload_n (i0 := 0) C d_A_init_31 rfl rfl ?_
  refine p_bipush C d_A_init_32 (by decide) (by decide) ?_
  refine p_newarr (t := 28) (i := 0) (k := 0) (ln := 21) (ty := .int) C rfl rfl rfl (fun _ _ z => z) ac_int rfl (by decide) (fun _ => rfl) (by decide) (by decide) (by rw [hw 28 0 (by decide)]; show b + 44 = _; omega) (hn 28 0 (by decide) (by decide)) (by decide) d_A_init_34 ?_
  refine p_putF C hni fl_A_23 rfl ok_A nm_A rfl rfl (fun _ => rfl) (fun _ => rfl) (hE) d_A_init_36 rfl rfl ?_
  refine p_aload_n (i0 := 0) C d_A_init_39 rfl rfl ?_
  refine p_iconst C d_A_init_40 (by decide) ?_
  refine p_putI C pl_A_26 (hE) d_A_init_41 rfl ?_
  exact p_vret C d_A_init_44 (by decide)
def eK_R (E : EX) : EX := (eadd (eadd (eadd (eadd (eadd (eadd (eadd (eadd (eadd (eadd (eadd (eadd (eadd (eadd (eadd (eadd (eadd (eadd (eadd (eadd (eadd E 41 0) 42 0) 43 0) 44 0) 45 0) 46 0) 47 0) 48 0) 49 0) 50 0) 51 0) 52 0) 53 0) 54 0) 55 0) 56 0) 57 0) 58 0) 59 0) 60 0) 61 0)
def hK_R (h : AH) : AH := (hset (hset (hset (hset (hset (hset (hset (hset (hset (hset (hset (hset (hset (hset (hset (hset (hset (hset (hset (hset (hset (hset (hset (hset h 40 0 2 1) 40 0 3 1) 40 0 4 1) 40 0 5 1) 40 0 6 1) 40 0 7 1) 40 0 8 1) 40 0 11 1) 40 0 12 1) 40 0 13 (-1)) 40 0 15 (-1)) 40 0 17 500) 40 0 18 1) 40 0 20 1) 40 0 21 1) 40 0 22 1) 40 0 23 1) 40 0 24 1) 40 0 31 1) 40 0 33 1) 40 0 34 1) 40 0 35 1) 40 0 36 1) 40 0 37 1)
set_option maxHeartbeats 1000000 in
theorem k_R {l : Launch} (hl : l.stackTraces = false) {w : XW} {E : EX} {h : AH} {b sz : Nat} (hw : wB w b) (hs : sz = b + 48) (hE : E 40 0 = true) (hn : ∀ t i : Nat, 41 ≤ t → t ≤ 61 → E t i = false) : PM l y_R_init (wsM y_R_init b_R_init 1 none []) (rmK 1 21 712) w [vO 40 0] E h sz (eK_R E) (hK_R h) (sz + 1 + 1 + 1 + 1 + 1 + 1 + 1 + 1 + 1 + 1 + 1 + 1 + 1 + 1 + 1 + 1 + 1 + 1 + 1 + 1 + 1) := by
  refine PM.of hl (by decide +kernel) (Nat.le_of_ble_eq_true rfl) fun x hx C hni hN => ?_
  refine p_aload_n (i0 := 0) C d_R_init_0 rfl rfl ?_
  refine p_objInit C (gwT 788 (by decide +kernel) (by decide +kernel)) oi_i oi_c d_R_init_1 (by decide) (by decide) ?_
  refine p_aload_n (i0 := 0) C d_R_init_4 rfl rfl ?_
  refine p_bipush C d_R_init_5 (by decide) (by decide) ?_
  refine p_newarr (t := 41) (i := 0) (k := 0) (ln := 6) (ty := .int) C rfl rfl rfl (fun _ _ z => z) ac_int rfl (by decide) (fun _ => rfl) (by decide) (by decide) (by rw [hw 41 0 (by decide)]; show b + 48 = _; omega) (hn 41 0 (by decide) (by decide)) (by decide) d_R_init_7 ?_
  refine p_putF C hni fl_R_7 rfl ok_R nm_R rfl rfl (fun _ => rfl) (fun _ => rfl) (hE) d_R_init_9 rfl rfl ?_
  refine p_aload_n (i0 := 0) C d_R_init_12 rfl rfl ?_
  refine p_bipush C d_R_init_13 (by decide) (by decide) ?_
  refine p_newarr (t := 42) (i := 0) (k := 0) (ln := 6) (ty := .int) C rfl rfl rfl (fun _ _ z => z) ac_int rfl (by decide) (fun _ => rfl) (by decide) (by decide) (by rw [hw 42 0 (by decide)]; show b + 49 = _; omega) (hn 42 0 (by decide) (by decide)) (by decide) d_R_init_15 ?_
  refine p_putF C hni fl_R_13 rfl ok_R nm_R rfl rfl (fun _ => rfl) (fun _ => rfl) (hE) d_R_init_17 rfl rfl ?_
  refine p_aload_n (i0 := 0) C d_R_init_20 rfl rfl ?_
  refine p_bipush C d_R_init_21 (by decide) (by decide) ?_
  refine p_newarr (t := 43) (i := 0) (k := 0) (ln := 6) (ty := .int) C rfl rfl rfl (fun _ _ z => z) ac_int rfl (by decide) (fun _ => rfl) (by decide) (by decide) (by rw [hw 43 0 (by decide)]; show b + 50 = _; omega) (hn 43 0 (by decide) (by decide)) (by decide) d_R_init_23 ?_
  refine p_putF C hni fl_R_16 rfl ok_R nm_R rfl rfl (fun _ => rfl) (fun _ => rfl) (hE) d_R_init_25 rfl rfl ?_
  refine p_aload_n (i0 := 0) C d_R_init_28 rfl rfl ?_
  refine p_bipush C d_R_init_29 (by decide) (by decide) ?_
  refine p_newarr (t := 44) (i := 0) (k := 0) (ln := 78) (ty := .int) C rfl rfl rfl (fun _ _ z => z) ac_int rfl (by decide) (fun _ => rfl) (by decide) (by decide) (by rw [hw 44 0 (by decide)]; show b + 51 = _; omega) (hn 44 0 (by decide) (by decide)) (by decide) d_R_init_31 ?_
  refine p_putF C hni fl_R_19 rfl ok_R nm_R rfl rfl (fun _ => rfl) (fun _ => rfl) (hE) d_R_init_33 rfl rfl ?_
  refine p_aload_n (i0 := 0) C d_R_init_36 rfl rfl ?_
  refine p_bipush C d_R_init_37 (by decide) (by decide) ?_
  refine p_newarr (t := 45) (i := 0) (k := 0) (ln := 72) (ty := .int) C rfl rfl rfl (fun _ _ z => z) ac_int rfl (by decide) (fun _ => rfl) (by decide) (by decide) (by rw [hw 45 0 (by decide)]; show b + 52 = _; omega) (hn 45 0 (by decide) (by decide)) (by decide) d_R_init_39 ?_
  refine p_putF C hni fl_R_22 rfl ok_R nm_R rfl rfl (fun _ => rfl) (fun _ => rfl) (hE) d_R_init_41 rfl rfl ?_
  refine p_aload_n (i0 := 0) C d_R_init_44 rfl rfl ?_
  refine p_bipush C d_R_init_45 (by decide) (by decide) ?_
  refine p_newarr (t := 46) (i := 0) (k := 0) (ln := 6) (ty := .int) C rfl rfl rfl (fun _ _ z => z) ac_int rfl (by decide) (fun _ => rfl) (by decide) (by decide) (by rw [hw 46 0 (by decide)]; show b + 53 = _; omega) (hn 46 0 (by decide) (by decide)) (by decide) d_R_init_47 ?_
  refine p_putF C hni fl_R_25 rfl ok_R nm_R rfl rfl (fun _ => rfl) (fun _ => rfl) (hE) d_R_init_49 rfl rfl ?_
  refine p_aload_n (i0 := 0) C d_R_init_52 rfl rfl ?_
  refine p_bipush C d_R_init_53 (by decide) (by decide) ?_
  refine p_newarr (t := 47) (i := 0) (k := 0) (ln := 6) (ty := .int) C rfl rfl rfl (fun _ _ z => z) ac_int rfl (by decide) (fun _ => rfl) (by decide) (by decide) (by rw [hw 47 0 (by decide)]; show b + 54 = _; omega) (hn 47 0 (by decide) (by decide)) (by decide) d_R_init_55 ?_
  refine p_putF C hni fl_R_28 rfl ok_R nm_R rfl rfl (fun _ => rfl) (fun _ => rfl) (hE) d_R_init_57 rfl rfl ?_
  refine p_aload_n (i0 := 0) C d_R_init_60 rfl rfl ?_
  refine p_bipush C d_R_init_61 (by decide) (by decide) ?_
  refine p_newarr (t := 48) (i := 0) (k := 0) (ln := 12) (ty := .int) C rfl rfl rfl (fun _ _ z => z) ac_int rfl (by decide) (fun _ => rfl) (by decide) (by decide) (by rw [hw 48 0 (by decide)]; show b + 55 = _; omega) (hn 48 0 (by decide) (by decide)) (by decide) d_R_init_63 ?_
  refine p_putF C hni fl_R_31 rfl ok_R nm_R rfl rfl (fun _ => rfl) (fun _ => rfl) (hE) d_R_init_65 rfl rfl ?_
  refine p_aload_n (i0 := 0) C d_R_init_68 rfl rfl ?_
  refine p_bipush C d_R_init_69 (by decide) (by decide) ?_
  refine p_newarr (t := 49) (i := 0) (k := 0) (ln := 12) (ty := .int) C rfl rfl rfl (fun _ _ z => z) ac_int rfl (by decide) (fun _ => rfl) (by decide) (by decide) (by rw [hw 49 0 (by decide)]; show b + 56 = _; omega) (hn 49 0 (by decide) (by decide)) (by decide) d_R_init_71 ?_
  refine p_putF C hni fl_R_34 rfl ok_R nm_R rfl rfl (fun _ => rfl) (fun _ => rfl) (hE) d_R_init_73 rfl rfl ?_
  refine p_aload_n (i0 := 0) C d_R_init_76 rfl rfl ?_
  refine p_iconst C d_R_init_77 (by decide) ?_
  refine p_putI C pl_R_37 (hE) d_R_init_78 rfl ?_
  refine p_aload_n (i0 := 0) C d_R_init_81 rfl rfl ?_
  refine p_iconst C d_R_init_82 (by decide) ?_
  refine p_putI C pl_R_41 (hE) d_R_init_83 rfl ?_
  refine p_aload_n (i0 := 0) C d_R_init_86 rfl rfl ?_
  refine p_sipush C d_R_init_87 (by decide) (by decide) ?_
  refine p_putI C pl_R_44 (hE) d_R_init_90 rfl ?_
  refine p_aload_n (i0 := 0) C d_R_init_93 rfl rfl ?_
  refine p_bipush C d_R_init_94 (by decide) (by decide) ?_
  refine p_newarr (t := 50) (i := 0) (k := 0) (ln := 12) (ty := .int) C rfl rfl rfl (fun _ _ z => z) ac_int rfl (by decide) (fun _ => rfl) (by decide) (by decide) (by rw [hw 50 0 (by decide)]; show b + 57 = _; omega) (hn 50 0 (by decide) (by decide)) (by decide) d_R_init_96 ?_
  refine p_putF C hni fl_R_47 rfl ok_R nm_R rfl rfl (fun _ => rfl) (fun _ => rfl) (hE) d_R_init_98 rfl rfl ?_
  refine p_aload_n (i0 := 0) C d_R_init_101 rfl rfl ?_
  refine p_iconst C d_R_init_102 (by decide) ?_
  refine p_newarr (t := 51) (i := 0) (k := 0) (ln := 5) (ty := .int) C rfl rfl rfl (fun _ _ z => z) ac_int rfl (by decide) (fun _ => rfl) (by decide) (by decide) (by rw [hw 51 0 (by decide)]; show b + 58 = _; omega) (hn 51 0 (by decide) (by decide)) (by decide) d_R_init_103 ?_
  refine p_putF C hni fl_R_50 rfl ok_R nm_R rfl rfl (fun _ => rfl) (fun _ => rfl) (hE) d_R_init_105 rfl rfl ?_
  refine p_aload_n (i0 := 0) C d_R_init_108 rfl rfl ?_
  refine p_bipush C d_R_init_109 (by decide) (by decide) ?_
  refine p_newarr (t := 52) (i := 0) (k := 0) (ln := 63) (ty := .int) C rfl rfl rfl (fun _ _ z => z) ac_int rfl (by decide) (fun _ => rfl) (by decide) (by decide) (by rw [hw 52 0 (by decide)]; show b + 59 = _; omega) (hn 52 0 (by decide) (by decide)) (by decide) d_R_init_111 ?_
  refine p_putF C hni fl_R_53 rfl ok_R nm_R rfl rfl (fun _ => rfl) (fun _ => rfl) (hE) d_R_init_113 rfl rfl ?_
  refine p_aload_n (i0 := 0) C d_R_init_116 rfl rfl ?_
  refine p_bipush C d_R_init_117 (by decide) (by decide) ?_
  refine p_newarr (t := 53) (i := 0) (k := 0) (ln := 20) (ty := .int) C rfl rfl rfl (fun _ _ z => z) ac_int rfl (by decide) (fun _ => rfl) (by decide) (by decide) (by rw [hw 53 0 (by decide)]; show b + 60 = _; omega) (hn 53 0 (by decide) (by decide)) (by decide) d_R_init_119 ?_
  refine p_putF C hni fl_R_56 rfl ok_R nm_R rfl rfl (fun _ => rfl) (fun _ => rfl) (hE) d_R_init_121 rfl rfl ?_
  refine p_aload_n (i0 := 0) C d_R_init_124 rfl rfl ?_
  refine p_bipush C d_R_init_125 (by decide) (by decide) ?_
  refine p_newarr (t := 54) (i := 0) (k := 0) (ln := 21) (ty := .int) C rfl rfl rfl (fun _ _ z => z) ac_int rfl (by decide) (fun _ => rfl) (by decide) (by decide) (by rw [hw 54 0 (by decide)]; show b + 61 = _; omega) (hn 54 0 (by decide) (by decide)) (by decide) d_R_init_127 ?_
  refine p_putF C hni fl_R_59 rfl ok_R nm_R rfl rfl (fun _ => rfl) (fun _ => rfl) (hE) d_R_init_129 rfl rfl ?_
  refine p_aload_n (i0 := 0) C d_R_init_132 rfl rfl ?_
  refine p_bipush C d_R_init_133 (by decide) (by decide) ?_
  refine p_newarr (t := 55) (i := 0) (k := 0) (ln := 21) (ty := .int) C rfl rfl rfl (fun _ _ z => z) ac_int rfl (by decide) (fun _ => rfl) (by decide) (by decide) (by rw [hw 55 0 (by decide)]; show b + 62 = _; omega) (hn 55 0 (by decide) (by decide)) (by decide) d_R_init_135 ?_
  refine p_putF C hni fl_R_62 rfl ok_R nm_R rfl rfl (fun _ => rfl) (fun _ => rfl) (hE) d_R_init_137 rfl rfl ?_
  refine p_aload_n (i0 := 0) C d_R_init_140 rfl rfl ?_
  refine p_bipush C d_R_init_141 (by decide) (by decide) ?_
  refine p_newarr (t := 56) (i := 0) (k := 1) (ln := 6) (ty := .long) C rfl rfl rfl (fun _ _ z => z) ac_long rfl (by decide) (fun _ => rfl) (by decide) (by decide) (by rw [hw 56 0 (by decide)]; show b + 63 = _; omega) (hn 56 0 (by decide) (by decide)) (by decide) d_R_init_143 ?_
  refine p_putF C hni fl_R_65 rfl ok_R nm_R rfl rfl (fun _ => rfl) (fun _ => rfl) (hE) d_R_init_145 rfl rfl ?_
  refine p_aload_n (i0 := 0) C d_R_init_148 rfl rfl ?_
  refine p_bipush C d_R_init_149 (by decide) (by decide) ?_
  refine p_newarr (t := 57) (i := 0) (k := 0) (ln := 72) (ty := .int) C rfl rfl rfl (fun _ _ z => z) ac_int rfl (by decide) (fun _ => rfl) (by decide) (by decide) (by rw [hw 57 0 (by decide)]; show b + 64 = _; omega) (hn 57 0 (by decide) (by decide)) (by decide) d_R_init_151 ?_
  refine p_putF C hni fl_R_69 rfl ok_R nm_R rfl rfl (fun _ => rfl) (fun _ => rfl) (hE) d_R_init_153 rfl rfl ?_
  refine p_aload_n (i0 := 0) C d_R_init_156 rfl rfl ?_
  refine p_bipush C d_R_init_157 (by decide) (by decide) ?_
  refine p_newarr (t := 58) (i := 0) (k := 1) (ln := 72) (ty := .long) C rfl rfl rfl (fun _ _ z => z) ac_long rfl (by decide) (fun _ => rfl) (by decide) (by decide) (by rw [hw 58 0 (by decide)]; show b + 65 = _; omega) (hn 58 0 (by decide) (by decide)) (by decide) d_R_init_159 ?_
  refine p_putF C hni fl_R_72 rfl ok_R nm_R rfl rfl (fun _ => rfl) (fun _ => rfl) (hE) d_R_init_161 rfl rfl ?_
  refine p_aload_n (i0 := 0) C d_R_init_164 rfl rfl ?_
  refine p_bipush C d_R_init_165 (by decide) (by decide) ?_
  refine p_newarr (t := 59) (i := 0) (k := 1) (ln := 72) (ty := .long) C rfl rfl rfl (fun _ _ z => z) ac_long rfl (by decide) (fun _ => rfl) (by decide) (by decide) (by rw [hw 59 0 (by decide)]; show b + 66 = _; omega) (hn 59 0 (by decide) (by decide)) (by decide) d_R_init_167 ?_
  refine p_putF C hni fl_R_75 rfl ok_R nm_R rfl rfl (fun _ => rfl) (fun _ => rfl) (hE) d_R_init_169 rfl rfl ?_
  refine p_aload_n (i0 := 0) C d_R_init_172 rfl rfl ?_
  refine p_bipush C d_R_init_173 (by decide) (by decide) ?_
  refine p_newarr (t := 60) (i := 0) (k := 0) (ln := 72) (ty := .int) C rfl rfl rfl (fun _ _ z => z) ac_int rfl (by decide) (fun _ => rfl) (by decide) (by decide) (by rw [hw 60 0 (by decide)]; show b + 67 = _; omega) (hn 60 0 (by decide) (by decide)) (by decide) d_R_init_175 ?_
  refine p_putF C hni fl_R_78 rfl ok_R nm_R rfl rfl (fun _ => rfl) (fun _ => rfl) (hE) d_R_init_177 rfl rfl ?_
  refine p_aload_n (i0 := 0) C d_R_init_180 rfl rfl ?_
  refine p_bipush C d_R_init_181 (by decide) (by decide) ?_
  refine p_newarr (t := 61) (i := 0) (k := 2) (ln := 72) (ty := .boolean) C rfl rfl rfl (fun _ _ z => z) ac_bool rfl (by decide) (fun _ => rfl) (by decide) (by decide) (by rw [hw 61 0 (by decide)]; show b + 68 = _; omega) (hn 61 0 (by decide) (by decide)) (by decide) d_R_init_183 ?_
  refine p_putF C hni fl_R_81 rfl ok_R nm_R rfl rfl (fun _ => rfl) (fun _ => rfl) (hE) d_R_init_185 rfl rfl ?_
  exact p_vret C d_R_init_188 (by decide)
def eK_F (E : EX) (f : Nat) : EX := (eadd (eadd E 5 f) 6 f)
def hK_F (h : AH) (f : Nat) : AH := (hfill (hfill (hset (hset (hset (hset (hset (hset (hset h 4 f 0 0) 4 f 1 0) 4 f 2 1) 4 f 3 (-1)) 4 f 4 (-1)) 4 f 5 1) 4 f 6 1) 5 f 0 13 (-1)) 6 f 0 12 (-2))
set_option maxHeartbeats 1000000 in
theorem k_F {l : Launch} (hl : l.stackTraces = false) {w : XW} {E : EX} {h : AH} {b sz f : Nat} (hw : wB w b) (hf : f < 6) (hs : sz = b + (4 + 3 * f)) (hE : E 4 f = true) (hn5 : E 5 f = false) (hn6 : E 6 f = false) : PM l y_F_init (wsM y_F_init b_F_init 1 none []) (rmK 2 2 25) w [vO 4 f] E h sz (eK_F E f) (hK_F h f) (sz + 1 + 1) := by
  refine PM.of hl (by decide +kernel) (Nat.le_of_ble_eq_true rfl) fun x hx C hni hN => ?_
  refine p_aload_n (i0 := 0) C d_F_init_0 rfl rfl ?_
  refine p_objInit C (gwT 39 (by decide +kernel) (by decide +kernel)) oi_i oi_c d_F_init_1 (by decide) (by decide) ?_
  refine p_aload_n (i0 := 0) C d_F_init_4 rfl rfl ?_
  refine p_iconst C d_F_init_5 (by decide) ?_
  refine p_putI C pl_F_9 (hE) d_F_init_6 rfl ?_
  refine p_aload_n (i0 := 0) C d_F_init_9 rfl rfl ?_
  refine p_iconst C d_F_init_10 (by decide) ?_
  refine p_putI C pl_F_15 (hE) d_F_init_11 rfl ?_
  refine p_aload_n (i0 := 0) C d_F_init_14 rfl rfl ?_
  refine p_iconst C d_F_init_15 (by decide) ?_
  refine p_putI C pl_F_18 (hE) d_F_init_16 rfl ?_
  refine p_aload_n (i0 := 0) C d_F_init_19 rfl rfl ?_
  refine p_iconst C d_F_init_20 (by decide) ?_
  refine p_putI C pl_F_21 (hE) d_F_init_21 rfl ?_
  refine p_aload_n (i0 := 0) C d_F_init_24 rfl rfl ?_
  refine p_iconst C d_F_init_25 (by decide) ?_
  refine p_putI C pl_F_24 (hE) d_F_init_26 rfl ?_
  refine p_aload_n (i0 := 0) C d_F_init_29 rfl rfl ?_
  refine p_bipush C d_F_init_30 (by decide) (by decide) ?_
  refine p_newarr (t := 5) (i := f) (k := 0) (ln := 13) (ty := .int) C rfl rfl rfl (fun _ _ z => z) ac_int rfl (by decide) (fun _ => rfl) (by decide) hf (by rw [hw 5 f hf]; show b + (4 + 3 * f) = _; omega) (hn5) (by decide) d_F_init_32 ?_
  refine p_putF C hni fl_F_27 rfl ok_F nm_F rfl rfl (fun _ => rfl) (fun _ => rfl) (hE) d_F_init_34 rfl rfl ?_
  refine p_aload_n (i0 := 0) C d_F_init_37 rfl rfl ?_
  refine p_bipush C d_F_init_38 (by decide) (by decide) ?_
  refine p_newarr (t := 6) (i := f) (k := 0) (ln := 12) (ty := .int) C rfl rfl rfl (fun _ _ z => z) ac_int rfl (by decide) (fun _ => rfl) (by decide) hf (by rw [hw 6 f hf]; show b + (5 + 3 * f) = _; omega) (hn6) (by decide) d_F_init_40 ?_
  refine p_putF C hni fl_F_31 rfl ok_F nm_F rfl rfl (fun _ => rfl) (fun _ => rfl) (hE) d_F_init_42 rfl rfl ?_
  refine p_aload_n (i0 := 0) C d_F_init_45 rfl rfl ?_
  refine p_getO C fl_F_27 (hE) d_F_init_46 rfl (by simp [hset, hfill]) rfl (fun hi => hi) ?_
  refine p_iconst C d_F_init_49 (by decide) ?_
  refine p_callS C hN cl_F_34 st_J_fill (k_fill hx (t := 5) (i := f) rfl (fun _ => rfl) (eadd_old (eadd_same _ _ _)) (by decide)) ⟨hf, ⟨by decide, by decide⟩, trivial⟩ rfl d_F_init_50 (by decide) (by decide) ?_
  refine p_aload_n (i0 := 0) C d_F_init_53 rfl rfl ?_
  refine p_getO C fl_F_31 (hE) d_F_init_54 rfl (by simp [hset, hfill]) rfl (fun hi => hi) ?_
  refine p_bipush C d_F_init_57 (by decide) (by decide) ?_
  refine p_callS C hN cl_F_34 st_J_fill (k_fill hx (t := 6) (i := f) rfl (fun _ => rfl) (eadd_same _ _ _) (by decide)) ⟨hf, ⟨by decide, by decide⟩, trivial⟩ rfl d_F_init_59 (by decide) (by decide) ?_
  exact p_vret C d_F_init_62 (by decide)
/-- the first n flats are made -/
def eFs (E : EX) (n : Nat) : EX := match n with
  | 0 => E
  | n + 1 => eK_F (eadd (eFs E n) 4 n) n
def hFs (h : AH) (n : Nat) : AH := match n with
  | 0 => h
  | n + 1 => hset (hK_F (hFs h n) n) 3 0 n 1
theorem eFs_hi (E : EX) : ∀ n t i : Nat, n ≤ i ∨ t < 4 ∨ 6 < t → eFs E n t i = E t i := by
  intro n
  induction n with
  | zero => intro t i _; rfl
  | succ n ih =>
    intro t i h
    show eadd (eadd (eadd (eFs E n) 4 n) 5 n) 6 n t i = _
    unfold eadd
    rw [if_neg (by omega), if_neg (by omega), if_neg (by omega), ih t i (by omega)]
theorem hFs_fr (h : AH) : ∀ n t : Nat, t < 3 ∨ 6 < t → hFs h n t = h t := by
  intro n
  induction n with
  | zero => intro t _; rfl
  | succ n ih =>
    intro t ht
    show hset (hK_F (hFs h n) n) 3 0 n 1 t = _
    unfold hK_F
    rw [hset_fr _ _ _ _ (by omega), hfill_tag _ _ _ _ _ (by omega), hfill_tag _ _ _ _ _ (by omega)]
    rw [hset_fr _ _ _ _ (by omega), hset_fr _ _ _ _ (by omega), hset_fr _ _ _ _ (by omega), hset_fr _ _ _ _ (by omega), hset_fr _ _ _ _ (by omega), hset_fr _ _ _ _ (by omega), hset_fr _ _ _ _ (by omega), ih t ht]
def eK_O (E : EX) : EX := eFs (eadd E 3 0) 6
def hK_O (h : AH) : AH := hFs (hset (hset h 2 0 0 1) 2 0 1 0) 6
theorem PW.cs {x : MX} {w : XW} {nL cells slots c2 s2 : Nat} {Q : State → Prop} {pc : Nat} {lv : List (Nat × AV)} {st : List AV} {E : EX} {h : AH} {sz : Nat} (e1 : cells = c2) (e2 : slots = s2) (k : PW x w nL c2 s2 Q pc lv st E h sz) : PW x w nL cells slots Q pc lv st E h sz := by subst e1; subst e2; exact k
set_option maxHeartbeats 1000000 in
theorem k_O {l : Launch} (hl : l.stackTraces = false) {w : XW} {E : EX} {h : AH} {b sz : Nat} (hw : wB w b) (hs : sz = b + 2) (hE : E 2 0 = true) (hn : ∀ t i : Nat, 3 ≤ t → t ≤ 6 → E t i = false) : PM l y_O_init (wsM y_O_init b_O_init 2 none []) (rmK 3 19 198) w [vO 2 0] E h sz (eK_O E) (hK_O h) (sz + 19) := by
  refine PM.of hl (by decide +kernel) (Nat.le_of_ble_eq_true rfl) fun x hx C hni hN => ?_
  have loop : ∀ (m : Nat) (i0 : Int), 0 ≤ i0 → i0 ≤ 6 → (6 - i0).toNat = m → PW x w 2 (1 + 3 * i0.toNat) (6 + 32 * i0.toNat) (PQ x w 19 198 (eK_O E) (hK_O h) (sz + 19)) 20 [(1, vI i0), (0, vO 2 0)] [] (eFs (eadd E 3 0) i0.toNat) (hFs (hset (hset h 2 0 0 1) 2 0 1 0) i0.toNat) (b + 3 + 3 * i0.toNat) := by
    intro m
    induction m using Nat.strongRecOn with
    | _ m ih =>
    intro i0 hi0 hi1 hm
    refine p_iload_n (i0 := 1) C d_O_init_20 rfl rfl ?_
    refine p_bipush C d_O_init_21 (by decide) (by decide) ?_
    refine p_icmp_ge (tgt := 45) C d_O_init_23 (by decide) (fun q23 => ?_) (fun q23 => ?_)
    · have e : i0.toNat = 6 := by omega
      rw [e]
      refine PW.heq rfl rfl (show b + 3 + 3 * 6 = sz + 19 by omega) ?_
      exact p_vret C d_O_init_45 (by decide)
    · refine p_aload_n (i0 := 0) C d_O_init_26 rfl rfl ?_
      refine p_getO C fl_O_11 (by rw [eFs_hi _ _ _ _ (by omega)]; exact hE) d_O_init_27 rfl (by rw [hFs_fr _ _ _ (by omega)]; rfl) rfl (fun hi => hi) ?_
      refine p_iload_n (i0 := 1) C d_O_init_30 rfl rfl ?_
      refine p_new (t := 4) (i := i0.toNat) C rfl rfl rfl in_F ok_F df_F (gwT 33 (by decide +kernel) (by decide +kernel)) (gwT 35 (by decide +kernel) (by decide +kernel)) (gwT 3 (by decide +kernel) (by decide +kernel)) (show i0.toNat < 6 by omega) (by rw [hw 4 i0.toNat (show i0.toNat < 6 by omega)]; show b + (3 + 3 * i0.toNat) = _; omega) (by rw [eFs_hi _ _ _ _ (by omega)]; exact hn 4 _ (by decide) (by decide)) (by show 1 + 3 * i0.toNat + 1 ≤ 19 ∧ 6 + 32 * i0.toNat + 7 ≤ 198; omega) d_O_init_31 ?_
      refine p_dup C d_O_init_34 rfl ?_
      refine p_init C hN il_O_21 (k_F hx hw (f := i0.toNat) (by omega) (by omega) (eadd_same _ _ _) (by unfold eadd; rw [if_neg (by omega), eFs_hi _ _ _ _ (by omega)]; exact hn 5 _ (by decide) (by decide)) (by unfold eadd; rw [if_neg (by omega), eFs_hi _ _ _ _ (by omega)]; exact hn 6 _ (by decide) (by decide))) (show i0.toNat < 6 by omega) d_O_init_35 ⟨by decide, by decide, by show 1 + 3 * i0.toNat + 1 + 2 ≤ 19; omega, by show 6 + 32 * i0.toNat + 7 + 25 ≤ 198; omega⟩ (Nat.le_of_ble_eq_true rfl) ?_
      refine p_aastore C (eadd_old (eadd_old (eadd_old (by rw [eFs_hi _ _ _ _ (by omega)]; exact eadd_same _ _ _)))) (eadd_old (eadd_old (eadd_same _ _ _))) rfl rfl rfl rfl (fun _ => rfl) (by show _ ∧ _ < (6 : Int); omega) (by show (4, i0.toNat) = _; rfl) d_O_init_38 ?_
      refine p_iinc C d_O_init_39 rfl (by decide) (by omega) ?_
      refine p_goto (tgt := 20) C d_O_init_42 (by decide) ?_
      have e2 : (i0 + 1).toNat = i0.toNat + 1 := by omega
      have ee := ih (m - 1) (by omega) (i0 + 1) (by omega) (by omega) (by omega)
      rw [e2] at ee
      exact PW.lvs [(1, _), (0, _)] ⟨rfl, rfl, trivial⟩ (PW.heq rfl rfl (by omega) (PW.cs (show 1 + 3 * i0.toNat + 1 + 2 = 1 + 3 * (i0.toNat + 1) by omega) (show 6 + 32 * i0.toNat + 7 + 25 = 6 + 32 * (i0.toNat + 1) by omega) ee))
  refine p_aload_n (i0 := 0) C d_O_init_0 rfl rfl ?_
  refine p_objInit C (gwT 32 (by decide +kernel) (by decide +kernel)) oi_i oi_c d_O_init_1 (by decide) (by decide) ?_
  refine p_aload_n (i0 := 0) C d_O_init_4 rfl rfl ?_
  refine p_bipush C d_O_init_5 (by decide) (by decide) ?_
  refine p_anew (t := 3) (i := 0) (k := 3) (ln := 6) C rfl rfl (gwT 33 (by decide +kernel) (by decide +kernel)) hN.2.1 rfl (by decide) (fun _ => rfl) (by decide) (by decide) (by rw [hw 3 0 (by decide)]; show b + 2 = _; omega) (hn 3 0 (by decide) (by decide)) (by decide) d_O_init_7 ?_
  refine p_putF C hni fl_O_11 rfl ok_O nm_O rfl rfl (fun _ => rfl) (fun _ => rfl) (hE) d_O_init_10 rfl rfl ?_
  refine p_aload_n (i0 := 0) C d_O_init_13 rfl rfl ?_
  refine p_iconst C d_O_init_14 (by decide) ?_
  refine p_putI C pl_O_17 (hE) d_O_init_15 rfl ?_
  refine p_iconst C d_O_init_18 (by decide) ?_
  refine p_istore_n (i0 := 1) C d_O_init_19 rfl (by decide) ?_
  exact PW.lvs [(1, _), (0, _)] ⟨rfl, rfl, trivial⟩ (PW.heq rfl rfl (show sz + 1 = b + 3 + 3 * (0 : Int).toNat by omega) (loop _ 0 (by omega) (by omega) rfl))
theorem eadd_ne {E : EX} {t i t2 i2 : Nat} (h : ¬ (t2 = t ∧ i2 = i)) : eadd E t i t2 i2 = E t2 i2 := if_neg h
theorem eK_O_hi (E : EX) {t i : Nat} (h : t < 3 ∨ 6 < t) : eK_O E t i = E t i := by
  unfold eK_O
  rw [eFs_hi _ _ _ _ (by omega), eadd_ne (by omega)]
theorem eK_U_hi (E : EX) {t i : Nat} (h : t < 8 ∨ 9 < t) : eK_U E t i = E t i := by
  unfold eK_U
  rw [eadd_ne (by omega), eadd_ne (by omega)]
theorem eK_M_hi (E : EX) {t i : Nat} (h : t < 11 ∨ 12 < t) : eK_M E t i = E t i := by
  unfold eK_M
  rw [eadd_ne (by omega), eadd_ne (by omega)]
theorem eK_P_hi (E : EX) {t i : Nat} (h : t < 14 ∨ 17 < t) : eK_P E t i = E t i := by
  unfold eK_P
  rw [eadd_ne (by omega), eadd_ne (by omega), eadd_ne (by omega), eadd_ne (by omega)]
theorem eK_S_hi (E : EX) {t i : Nat} (h : t < 19 ∨ 22 < t) : eK_S E t i = E t i := by
  unfold eK_S
  rw [eadd_ne (by omega), eadd_ne (by omega), eadd_ne (by omega), eadd_ne (by omega)]
theorem eK_R_hi (E : EX) {t i : Nat} (h : t < 41 ∨ 61 < t) : eK_R E t i = E t i := by
  unfold eK_R
  rw [eadd_ne (by omega), eadd_ne (by omega), eadd_ne (by omega), eadd_ne (by omega), eadd_ne (by omega), eadd_ne (by omega), eadd_ne (by omega), eadd_ne (by omega), eadd_ne (by omega), eadd_ne (by omega), eadd_ne (by omega), eadd_ne (by omega), eadd_ne (by omega), eadd_ne (by omega), eadd_ne (by omega), eadd_ne (by omega), eadd_ne (by omega), eadd_ne (by omega), eadd_ne (by omega), eadd_ne (by omega), eadd_ne (by omega)]
theorem eK_A_hi (E : EX) {t i : Nat} (h : t < 24 ∨ 28 < t) : eK_A E t i = E t i := by
  unfold eK_A e24
  rw [eadd_ne (by omega), eadd_ne (by omega), eadd_ne (by omega), eadd_ne (by omega), eadd_ne (by omega), eadd_ne (by omega), eadd_ne (by omega)]
def eK_H (E : EX) : EX := (eadd (eadd (eK_A (eadd (eK_S (eadd (eK_P (eadd (eK_M (eadd (eK_U (eadd (eK_O (eadd E 2 0)) 7 0)) 10 0)) 13 0)) 18 0)) 23 0)) 29 0) 30 0)
def hK_H (h : AH) : AH := (hset (hset (hset (hset (hset (hset (hset (hset (hK_A (hset (hK_S (hset (hK_P (hset (hK_M (hset (hK_U (hset (hK_O h) 1 0 0 1)) 1 0 1 1)) 1 0 2 1)) 1 0 3 1)) 1 0 4 1)) 1 0 5 1) 1 0 6 1) 1 0 7 1) 1 0 8 0) 1 0 9 (-1)) 1 0 10 0) 1 0 11 500) 1 0 12 0)
set_option maxHeartbeats 2000000 in
theorem k_H {l : Launch} (hl : l.stackTraces = false) {w : XW} {E : EX} {h : AH} {b sz : Nat} (hw : wB w b) (hs : sz = b + 1) (hE : E 1 0 = true) (hn : ∀ t i : Nat, 2 ≤ t → t ≤ 30 → E t i = false) : PM l y_H_init (wsM y_H_init b_H_init 1 none []) (rmK 4 46 984) w [vO 1 0] E h sz (eK_H E) (hK_H h) (sz + 46) := by
  refine PM.of hl (by decide +kernel) (Nat.le_of_ble_eq_true rfl) fun x hx C hni hN => ?_
  refine p_aload_n (i0 := 0) C d_H_init_0 rfl rfl ?_
  refine p_objInit C (gwT 24 (by decide +kernel) (by decide +kernel)) oi_i oi_c d_H_init_1 (by decide) (by decide) ?_
  refine p_aload_n (i0 := 0) C d_H_init_4 rfl rfl ?_
  refine p_new (t := 2) (i := 0) C rfl rfl rfl in_O ok_O df_O (gwT 27 (by decide +kernel) (by decide +kernel)) (gwT 28 (by decide +kernel) (by decide +kernel)) (gwT 2 (by decide +kernel) (by decide +kernel)) (by decide) (by rw [hw 2 0 (by decide)]; show b + 1 = _; omega) ((by exact hn 2 0 (by decide) (by decide))) (by decide) d_H_init_5 ?_
  refine p_dup C d_H_init_8 rfl ?_
  refine p_init C hN il_H_11 (k_O hx hw (by omega) (eadd_same _ _ _) (fun t i h1 h2 => by rw [eadd_ne (by omega)]; exact hn t i (by omega) (by omega))) (by decide) d_H_init_9 (by decide) (by decide) ?_
  refine p_putF C hni fl_H_12 rfl ok_H nm_H rfl rfl (fun _ => rfl) (fun _ => rfl) ((by rw [eK_O_hi _ (by omega), eadd_ne (by omega)]; exact hE)) d_H_init_12 rfl rfl ?_
  refine p_aload_n (i0 := 0) C d_H_init_15 rfl rfl ?_
  refine p_new (t := 7) (i := 0) C rfl rfl rfl in_U ok_U df_U (gwT 93 (by decide +kernel) (by decide +kernel)) (gwT 94 (by decide +kernel) (by decide +kernel)) (gwT 5 (by decide +kernel) (by decide +kernel)) (by decide) (by rw [hw 7 0 (by decide)]; show b + 21 = _; omega) ((by rw [eK_O_hi _ (by omega), eadd_ne (by omega)]; exact hn 7 0 (by decide) (by decide))) (by decide) d_H_init_16 ?_
  refine p_dup C d_H_init_19 rfl ?_
  refine p_init C hN il_H_18 (k_U hx hw (by omega) (eadd_same _ _ _) (fun t i h1 h2 => by rw [eadd_ne (by omega), eK_O_hi _ (by omega), eadd_ne (by omega)]; exact hn t i (by omega) (by omega))) (by decide) d_H_init_20 (by decide) (by decide) ?_
  refine p_putF C hni fl_H_19 rfl ok_H nm_H rfl rfl (fun _ => rfl) (fun _ => rfl) ((by rw [eK_U_hi _ (by omega), eadd_ne (by omega), eK_O_hi _ (by omega), eadd_ne (by omega)]; exact hE)) d_H_init_23 rfl rfl ?_
  refine p_aload_n (i0 := 0) C d_H_init_26 rfl rfl ?_
  refine p_new (t := 10) (i := 0) C rfl rfl rfl in_M ok_M df_M (gwT 114 (by decide +kernel) (by decide +kernel)) (gwT 115 (by decide +kernel) (by decide +kernel)) (gwT 6 (by decide +kernel) (by decide +kernel)) (by decide) (by rw [hw 10 0 (by decide)]; show b + 24 = _; omega) ((by rw [eK_U_hi _ (by omega), eadd_ne (by omega), eK_O_hi _ (by omega), eadd_ne (by omega)]; exact hn 10 0 (by decide) (by decide))) (by decide) d_H_init_27 ?_
  refine p_dup C d_H_init_30 rfl ?_
  refine p_init C hN il_H_25 (k_M hx hw (by omega) (eadd_same _ _ _) (fun t i h1 h2 => by rw [eadd_ne (by omega), eK_U_hi _ (by omega), eadd_ne (by omega), eK_O_hi _ (by omega), eadd_ne (by omega)]; exact hn t i (by omega) (by omega))) (by decide) d_H_init_31 (by decide) (by decide) ?_
  refine p_putF C hni fl_H_26 rfl ok_H nm_H rfl rfl (fun _ => rfl) (fun _ => rfl) ((by rw [eK_M_hi _ (by omega), eadd_ne (by omega), eK_U_hi _ (by omega), eadd_ne (by omega), eK_O_hi _ (by omega), eadd_ne (by omega)]; exact hE)) d_H_init_34 rfl rfl ?_
  refine p_aload_n (i0 := 0) C d_H_init_37 rfl rfl ?_
  refine p_new (t := 13) (i := 0) C rfl rfl rfl in_P ok_P df_P (gwT 148 (by decide +kernel) (by decide +kernel)) (gwT 149 (by decide +kernel) (by decide +kernel)) (gwT 7 (by decide +kernel) (by decide +kernel)) (by decide) (by rw [hw 13 0 (by decide)]; show b + 27 = _; omega) ((by rw [eK_M_hi _ (by omega), eadd_ne (by omega), eK_U_hi _ (by omega), eadd_ne (by omega), eK_O_hi _ (by omega), eadd_ne (by omega)]; exact hn 13 0 (by decide) (by decide))) (by decide) d_H_init_38 ?_
  refine p_dup C d_H_init_41 rfl ?_
  refine p_init C hN il_H_32 (k_P hx hw (by omega) (eadd_same _ _ _) (fun t i h1 h2 => by rw [eadd_ne (by omega), eK_M_hi _ (by omega), eadd_ne (by omega), eK_U_hi _ (by omega), eadd_ne (by omega), eK_O_hi _ (by omega), eadd_ne (by omega)]; exact hn t i (by omega) (by omega))) (by decide) d_H_init_42 (by decide) (by decide) ?_
  refine p_putF C hni fl_H_33 rfl ok_H nm_H rfl rfl (fun _ => rfl) (fun _ => rfl) ((by rw [eK_P_hi _ (by omega), eadd_ne (by omega), eK_M_hi _ (by omega), eadd_ne (by omega), eK_U_hi _ (by omega), eadd_ne (by omega), eK_O_hi _ (by omega), eadd_ne (by omega)]; exact hE)) d_H_init_45 rfl rfl ?_
  refine p_aload_n (i0 := 0) C d_H_init_48 rfl rfl ?_
  refine p_new (t := 18) (i := 0) C rfl rfl rfl in_S ok_S df_S (gwT 176 (by decide +kernel) (by decide +kernel)) (gwT 177 (by decide +kernel) (by decide +kernel)) (gwT 8 (by decide +kernel) (by decide +kernel)) (by decide) (by rw [hw 18 0 (by decide)]; show b + 32 = _; omega) ((by rw [eK_P_hi _ (by omega), eadd_ne (by omega), eK_M_hi _ (by omega), eadd_ne (by omega), eK_U_hi _ (by omega), eadd_ne (by omega), eK_O_hi _ (by omega), eadd_ne (by omega)]; exact hn 18 0 (by decide) (by decide))) (by decide) d_H_init_49 ?_
  refine p_dup C d_H_init_52 rfl ?_
  refine p_init C hN il_H_39 (k_S hx hw (by omega) (eadd_same _ _ _) (fun t i h1 h2 => by rw [eadd_ne (by omega), eK_P_hi _ (by omega), eadd_ne (by omega), eK_M_hi _ (by omega), eadd_ne (by omega), eK_U_hi _ (by omega), eadd_ne (by omega), eK_O_hi _ (by omega), eadd_ne (by omega)]; exact hn t i (by omega) (by omega))) (by decide) d_H_init_53 (by decide) (by decide) ?_
  refine p_putF C hni fl_H_40 rfl ok_H nm_H rfl rfl (fun _ => rfl) (fun _ => rfl) ((by rw [eK_S_hi _ (by omega), eadd_ne (by omega), eK_P_hi _ (by omega), eadd_ne (by omega), eK_M_hi _ (by omega), eadd_ne (by omega), eK_U_hi _ (by omega), eadd_ne (by omega), eK_O_hi _ (by omega), eadd_ne (by omega)]; exact hE)) d_H_init_56 rfl rfl ?_
  refine p_aload_n (i0 := 0) C d_H_init_59 rfl rfl ?_
  refine p_new (t := 23) (i := 0) C rfl rfl rfl in_A ok_A df_A (gwT 199 (by decide +kernel) (by decide +kernel)) (gwT 200 (by decide +kernel) (by decide +kernel)) (gwT 9 (by decide +kernel) (by decide +kernel)) (by decide) (by rw [hw 23 0 (by decide)]; show b + 37 = _; omega) ((by rw [eK_S_hi _ (by omega), eadd_ne (by omega), eK_P_hi _ (by omega), eadd_ne (by omega), eK_M_hi _ (by omega), eadd_ne (by omega), eK_U_hi _ (by omega), eadd_ne (by omega), eK_O_hi _ (by omega), eadd_ne (by omega)]; exact hn 23 0 (by decide) (by decide))) (by decide) d_H_init_60 ?_
  refine p_dup C d_H_init_63 rfl ?_
  refine p_init C hN il_H_46 (k_A hx hw (by omega) (eadd_same _ _ _) (fun t i h1 h2 => by rw [eadd_ne (by omega), eK_S_hi _ (by omega), eadd_ne (by omega), eK_P_hi _ (by omega), eadd_ne (by omega), eK_M_hi _ (by omega), eadd_ne (by omega), eK_U_hi _ (by omega), eadd_ne (by omega), eK_O_hi _ (by omega), eadd_ne (by omega)]; exact hn t i (by omega) (by omega))) (by decide) d_H_init_64 (by decide) (by decide) ?_
  refine p_putF C hni fl_H_47 rfl ok_H nm_H rfl rfl (fun _ => rfl) (fun _ => rfl) ((by rw [eK_A_hi _ (by omega), eadd_ne (by omega), eK_S_hi _ (by omega), eadd_ne (by omega), eK_P_hi _ (by omega), eadd_ne (by omega), eK_M_hi _ (by omega), eadd_ne (by omega), eK_U_hi _ (by omega), eadd_ne (by omega), eK_O_hi _ (by omega), eadd_ne (by omega)]; exact hE)) d_H_init_67 rfl rfl ?_
  refine p_aload_n (i0 := 0) C d_H_init_70 rfl rfl ?_
  refine p_bipush C d_H_init_71 (by decide) (by decide) ?_
  refine p_newarr (t := 29) (i := 0) (k := 0) (ln := 12) (ty := .int) C rfl rfl rfl (fun _ _ z => z) ac_int rfl (by decide) (fun _ => rfl) (by decide) (by decide) (by rw [hw 29 0 (by decide)]; show b + 45 = _; omega) ((by rw [eK_A_hi _ (by omega), eadd_ne (by omega), eK_S_hi _ (by omega), eadd_ne (by omega), eK_P_hi _ (by omega), eadd_ne (by omega), eK_M_hi _ (by omega), eadd_ne (by omega), eK_U_hi _ (by omega), eadd_ne (by omega), eK_O_hi _ (by omega), eadd_ne (by omega)]; exact hn 29 0 (by decide) (by decide))) (by decide) d_H_init_73 ?_
  refine p_putF C hni fl_H_51 rfl ok_H nm_H rfl rfl (fun _ => rfl) (fun _ => rfl) ((by rw [eadd_ne (by omega), eK_A_hi _ (by omega), eadd_ne (by omega), eK_S_hi _ (by omega), eadd_ne (by omega), eK_P_hi _ (by omega), eadd_ne (by omega), eK_M_hi _ (by omega), eadd_ne (by omega), eK_U_hi _ (by omega), eadd_ne (by omega), eK_O_hi _ (by omega), eadd_ne (by omega)]; exact hE)) d_H_init_75 rfl rfl ?_
  refine p_aload_n (i0 := 0) C d_H_init_78 rfl rfl ?_
  refine p_iconst C d_H_init_79 (by decide) ?_
  refine p_newarr (t := 30) (i := 0) (k := 0) (ln := 5) (ty := .int) C rfl rfl rfl (fun _ _ z => z) ac_int rfl (by decide) (fun _ => rfl) (by decide) (by decide) (by rw [hw 30 0 (by decide)]; show b + 46 = _; omega) ((by rw [eadd_ne (by omega), eK_A_hi _ (by omega), eadd_ne (by omega), eK_S_hi _ (by omega), eadd_ne (by omega), eK_P_hi _ (by omega), eadd_ne (by omega), eK_M_hi _ (by omega), eadd_ne (by omega), eK_U_hi _ (by omega), eadd_ne (by omega), eK_O_hi _ (by omega), eadd_ne (by omega)]; exact hn 30 0 (by decide) (by decide))) (by decide) d_H_init_80 ?_
  refine p_putF C hni fl_H_55 rfl ok_H nm_H rfl rfl (fun _ => rfl) (fun _ => rfl) ((by rw [eadd_ne (by omega), eadd_ne (by omega), eK_A_hi _ (by omega), eadd_ne (by omega), eK_S_hi _ (by omega), eadd_ne (by omega), eK_P_hi _ (by omega), eadd_ne (by omega), eK_M_hi _ (by omega), eadd_ne (by omega), eK_U_hi _ (by omega), eadd_ne (by omega), eK_O_hi _ (by omega), eadd_ne (by omega)]; exact hE)) d_H_init_82 rfl rfl ?_
  refine p_aload_n (i0 := 0) C d_H_init_85 rfl rfl ?_
  refine p_iconst C d_H_init_86 (by decide) ?_
  refine p_putI C pl_H_58 ((by rw [eadd_ne (by omega), eadd_ne (by omega), eK_A_hi _ (by omega), eadd_ne (by omega), eK_S_hi _ (by omega), eadd_ne (by omega), eK_P_hi _ (by omega), eadd_ne (by omega), eK_M_hi _ (by omega), eadd_ne (by omega), eK_U_hi _ (by omega), eadd_ne (by omega), eK_O_hi _ (by omega), eadd_ne (by omega)]; exact hE)) d_H_init_87 rfl ?_
  refine p_aload_n (i0 := 0) C d_H_init_90 rfl rfl ?_
  refine p_iconst C d_H_init_91 (by decide) ?_
  refine p_putI C pl_H_62 ((by rw [eadd_ne (by omega), eadd_ne (by omega), eK_A_hi _ (by omega), eadd_ne (by omega), eK_S_hi _ (by omega), eadd_ne (by omega), eK_P_hi _ (by omega), eadd_ne (by omega), eK_M_hi _ (by omega), eadd_ne (by omega), eK_U_hi _ (by omega), eadd_ne (by omega), eK_O_hi _ (by omega), eadd_ne (by omega)]; exact hE)) d_H_init_92 rfl ?_
  refine p_aload_n (i0 := 0) C d_H_init_95 rfl rfl ?_
  refine p_iconst C d_H_init_96 (by decide) ?_
  refine p_putI C pl_H_65 ((by rw [eadd_ne (by omega), eadd_ne (by omega), eK_A_hi _ (by omega), eadd_ne (by omega), eK_S_hi _ (by omega), eadd_ne (by omega), eK_P_hi _ (by omega), eadd_ne (by omega), eK_M_hi _ (by omega), eadd_ne (by omega), eK_U_hi _ (by omega), eadd_ne (by omega), eK_O_hi _ (by omega), eadd_ne (by omega)]; exact hE)) d_H_init_97 rfl ?_
  refine p_aload_n (i0 := 0) C d_H_init_100 rfl rfl ?_
  refine p_sipush C d_H_init_101 (by decide) (by decide) ?_
  refine p_putI C pl_H_68 ((by rw [eadd_ne (by omega), eadd_ne (by omega), eK_A_hi _ (by omega), eadd_ne (by omega), eK_S_hi _ (by omega), eadd_ne (by omega), eK_P_hi _ (by omega), eadd_ne (by omega), eK_M_hi _ (by omega), eadd_ne (by omega), eK_U_hi _ (by omega), eadd_ne (by omega), eK_O_hi _ (by omega), eadd_ne (by omega)]; exact hE)) d_H_init_104 rfl ?_
  refine p_aload_n (i0 := 0) C d_H_init_107 rfl rfl ?_
  refine p_iconst C d_H_init_108 (by decide) ?_
  refine p_putZ C pl_H_71 ((by rw [eadd_ne (by omega), eadd_ne (by omega), eK_A_hi _ (by omega), eadd_ne (by omega), eK_S_hi _ (by omega), eadd_ne (by omega), eK_P_hi _ (by omega), eadd_ne (by omega), eK_M_hi _ (by omega), eadd_ne (by omega), eK_U_hi _ (by omega), eadd_ne (by omega), eK_O_hi _ (by omega), eadd_ne (by omega)]; exact hE)) d_H_init_109 rfl (by decide) ?_
  refine PW.heq rfl rfl (by omega : _ = sz + 46) ?_
  exact p_vret C d_H_init_112 (by decide)

/-! Contracts: split. -/
def RD (h : AH) (n : Nat) (c k : Nat → Int) : AH := fun t i j => if t = 19 ∧ i = 0 ∧ j < n then c j else if t = 22 ∧ i = 0 ∧ j < n then k j else h t i j
theorem RD_fr (h : AH) (n : Nat) (c k : Nat → Int) {t : Nat} (e : t ≠ 19 ∧ t ≠ 22) : RD h n c k t = h t := by
  funext i j; unfold RD; rw [if_neg (by omega), if_neg (by omega)]
theorem RD_18 (h : AH) (n : Nat) (c k : Nat → Int) : RD h n c k 18 = h 18 := RD_fr h n c k (by decide)
theorem RD_20 (h : AH) (n : Nat) (c k : Nat → Int) : RD h n c k 20 = h 20 := RD_fr h n c k (by decide)
theorem RD_21 (h : AH) (n : Nat) (c k : Nat → Int) : RD h n c k 21 = h 21 := RD_fr h n c k (by decide)
theorem RD_zero (h : AH) (c k : Nat → Int) : h = RD h 0 c k := by
  funext t i j; unfold RD; rw [if_neg (by omega), if_neg (by omega)]
theorem RD_step (h : AH) (n : Nat) (c k : Nat → Int) : hset (hset (RD h n c k) 19 0 n (c n)) 22 0 n (k n) = RD h (n + 1) c k := by
  funext t i j; unfold hset RD
  by_cases e19 : t = 19 ∧ i = 0
  · obtain ⟨rfl, rfl⟩ := e19
    by_cases z : j = n
    · subst z; simp
    · by_cases z1 : j < n
      · simp [z, z1, show j < n + 1 by omega]
      · simp [z, z1, show ¬ j < n + 1 by omega]
  · by_cases e22 : t = 22 ∧ i = 0
    · obtain ⟨rfl, rfl⟩ := e22
      by_cases z : j = n
      · subst z; simp
      · by_cases z1 : j < n
        · simp [z, z1, show j < n + 1 by omega]
        · simp [z, z1, show ¬ j < n + 1 by omega]
    · rw [if_neg (by omega), if_neg (by omega), if_neg (by omega), if_neg (by omega), if_neg (by omega), if_neg (by omega)]
theorem RD_c (h : AH) {n : Nat} (c k : Nat → Int) {j : Nat} (e : j < n) : RD h n c k 19 0 j = c j := by unfold RD; rw [if_pos ⟨rfl, rfl, e⟩]
theorem RD_k (h : AH) {n : Nat} (c k : Nat → Int) {j : Nat} (e : j < n) : RD h n c k 22 0 j = k j := by unfold RD; rw [if_neg (by omega), if_pos ⟨rfl, rfl, e⟩]
/-- what split wants of n spans, a part p; D and N: all shares over one denominator -/
def SPL (h : AH) (n : Nat) (p D : Int) (N : Nat → Int) : Prop := (1 ≤ n ∧ n ≤ 72) ∧ (0 ≤ p ∧ p ≤ 260000) ∧ 0 < D ∧ (1 ≤ h 18 0 4 ∧ h 18 0 4 ≤ 432000000) ∧ ∀ s : Nat, s < n → (0 ≤ h 20 0 s ∧ h 20 0 s ≤ 720000000000) ∧ (1 ≤ h 21 0 s ∧ h 21 0 s ≤ 10000) ∧ h 20 0 s ≤ h 18 0 4 * h 21 0 s ∧ p * h 20 0 s * D = N s * (h 18 0 4 * h 21 0 s)
/-- what each span is given -/
def gvN (n : Nat) (p D : Int) (N : Nat → Int) : Nat → Int := gvC n (min (p - sumF n (fun s => N s / D)).toNat n) (fun s => N s % D) (fun s => N s / D)
/-- the rests are still right -/
def RST (h g : AH) (n : Nat) (D : Int) (c r : Nat → Int) (M : Int) : Prop := (∀ t : Nat, t ≠ 19 → t ≠ 22 → g t = h t) ∧ ∀ s : Nat, s < n → g 19 0 s = c s ∧ (0 ≤ c s ∧ c s ≤ M) ∧ g 22 0 s * D = h 18 0 4 * r s * h 21 0 s ∧ 0 ≤ g 22 0 s ∧ g 22 0 s ≤ 4320000000000
theorem RST.pick {h g : AH} {n : Nat} {D : Int} {c r : Nat → Int} {M : Int} (H : RST h g n D c r M) (q : Nat) : RST h (hset (hset g 19 0 q (c q + 1)) 22 0 q 0) n D (upI c q (c q + 1)) (upI r q 0) (M + 1) := by
  refine ⟨fun t h1 h2 => by rw [hset_fr _ _ _ _ h2, hset_fr _ _ _ _ h1]; exact H.1 t h1 h2, fun s hs => ?_⟩
  have z := H.2 s hs
  by_cases e : s = q
  · subst e
    rw [hset_same, hset_tag _ _ (by decide), hset_same]
    have e1 : upI c s (c s + 1) s = c s + 1 := by unfold upI; simp
    have e2 : upI r s 0 s = 0 := by unfold upI; simp
    rw [e1, e2]
    refine ⟨rfl, by omega, by simp, by omega, by omega⟩
  · rw [hset_tag _ _ (by decide), hset_slot _ _ e, hset_slot _ _ e, hset_tag _ _ (by decide)]
    have e1 : upI c q (c q + 1) s = c s := by unfold upI; simp [e]
    have e2 : upI r q 0 s = r s := by unfold upI; simp [e]
    rw [e1, e2]
    refine ⟨z.1, by omega, z.2.2.1, z.2.2.2.1, z.2.2.2.2⟩
set_option maxHeartbeats 1000000 in
theorem c_S_split {l : Launch} (hl : l.stackTraces = false) {w : XW} {h : AH} {p n D : Int} {N : Nat → Int} (hs : SPL h n.toNat p D N) : AM l y_S_split (wsM y_S_split b_S_split 6 none []) false (rmV 1 0) w [vO 18 0, vI p, vI n] h (RetP none (fun h' => (∀ t : Nat, t ≠ 19 → t ≠ 22 → h' t = h t) ∧ ∀ s : Nat, s < n.toNat → h' 19 0 s = gvN n.toNat p D N s)) := by
  refine AM.of hl (by decide +kernel) (Nat.le_of_ble_eq_true rfl) fun x hx C _ => ?_
  obtain ⟨hn0, hp, hD, hA, hW⟩ := hs
  have hn : 1 ≤ n ∧ n ≤ 72 := by omega
  have loop2 : ∀ (m : Nat) (i L : Int) (c r : Nat → Int) (g : AH), 0 ≤ i → i ≤ n → (n - i).toNat = m → L ≤ 260000 ∧ -20000000 ≤ L - i → RST h g n.toNat D c r (260000 + i) → (∀ s : Nat, s < n.toNat → gvC n.toNat (min L.toNat (n - i).toNat) r c s = gvN n.toNat p D N s) → AW x w 6 false 0 0 (AQ x w false 0 0 (RetP none (fun h' => (∀ t : Nat, t ≠ 19 → t ≠ 22 → h' t = h t) ∧ ∀ s : Nat, s < n.toNat → h' 19 0 s = gvN n.toNat p D N s))) 37 [(4, vI i), (3, vI L), (0, vO 18 0), (1, vI p), (2, vI n)] [] g := by
    intro m
    induction m using Nat.strongRecOn with
    | _ m ih =>
    intro i L c r g hi0 hi1 hm hL hR hG
    refine r_iload C d_S_split_37 rfl ?_
    refine r_iload_n (i0 := 2) C d_S_split_39 rfl rfl ?_
    refine r_icmp_ge (tgt := 82) C d_S_split_40 (by decide) (fun q40 => ?_) (fun q40 => ?_)
    · exact r_vret C d_S_split_82 (⟨rfl, hR.1, fun s hs => by rw [(hR.2 s hs).1, ← hG s hs, show min L.toNat (n - i).toNat = 0 by omega]; rfl⟩) (by decide) (fun q => nomatch q)
    · refine r_iload_n (i0 := 3) C d_S_split_43 rfl rfl ?_
      refine r_if_le (tgt := 82) C d_S_split_44 (by decide) (fun q44 => ?_) (fun q44 => ?_)
      · exact r_vret C d_S_split_82 (⟨rfl, hR.1, fun s hs => by rw [(hR.2 s hs).1, ← hG s hs, show min L.toNat (n - i).toNat = 0 by omega]; rfl⟩) (by decide) (fun q => nomatch q)
      · have g0 := gm_le r (n.toNat - 1)
        have e1 : (n - 1).toNat = n.toNat - 1 := by omega
        have gz := hR.2 (gm r (n.toNat - 1)) (by omega)
        refine r_aload_n (i0 := 0) C d_S_split_47 rfl rfl ?_
        refine r_iload_n (i0 := 2) C d_S_split_48 rfl rfl ?_
        refine r_callVp C cl_S_99 im_S_greatestCutOff rfl rfl (c_S_greatestCutOff hx (r := r) (X := D) (Y := h 18 0 4) hn hD (by omega) (fun s hs => by have z := hR.2 s hs; have y := hW s hs; rw [hR.1 21 (by decide) (by decide)]; exact ⟨z.2.2.1, y.2.1.1, y.2.1.2, z.2.2.2⟩)) rfl rfl d_S_split_49 (by decide) (Nat.le_of_ble_eq_true rfl) ?_
        rw [e1]
        refine r_istore C d_S_split_52 (by decide) ?_
        refine r_aload_n (i0 := 0) C d_S_split_54 rfl rfl ?_
        refine r_getO C fl_S_9 d_S_split_55 rfl rfl (fun hi => hi) ?_
        refine r_iload C d_S_split_58 rfl ?_
        refine r_dup2 C d_S_split_60 rfl rfl ?_
        refine r_iaload (ln := 72) C d_S_split_61 rfl (fun _ => rfl) rfl (by omega) ?_
        rw [show ((((gm r (n.toNat - 1)) : Nat) : Int)).toNat = (gm r (n.toNat - 1)) from Int.toNat_natCast _, gz.1]
        refine r_iconst C d_S_split_62 (by decide) ?_
        refine r_iadd C d_S_split_63 (by omega) ?_
        refine r_iastore (ln := 72) C d_S_split_64 rfl (fun _ => rfl) rfl (by omega) ?_
        refine r_aload_n (i0 := 0) C d_S_split_65 rfl rfl ?_
        refine r_getO C fl_S_22 d_S_split_66 rfl rfl (fun hi => hi) ?_
        refine r_iload C d_S_split_69 rfl ?_
        refine r_lconst C 0 d_S_split_71 (by decide) (by decide) ?_
        refine r_lastore (ln := 72) C d_S_split_72 rfl (fun _ => rfl) rfl (by omega) ?_
        refine r_iinc C d_S_split_73 rfl (by decide) (by omega) ?_
        refine r_iinc C d_S_split_76 rfl (by decide) (by omega) ?_
        refine r_goto (tgt := 37) C d_S_split_79 (by decide) ?_
        rw [show ((((gm r (n.toNat - 1)) : Nat) : Int)).toNat = (gm r (n.toNat - 1)) from Int.toNat_natCast _]
        refine AW.lvs [(4, _), (3, _), (0, _), (1, _), (2, _)] ⟨rfl, rfl, rfl, rfl, rfl, trivial⟩ (ih (m - 1) (by omega) (i + 1) (L - 1) (upI c (gm r (n.toNat - 1)) (c (gm r (n.toNat - 1)) + 1)) (upI r (gm r (n.toNat - 1)) 0) _ (by omega) (by omega) (by omega) (by omega) (by rw [show (260000 : Int) + (i + 1) = 260000 + i + 1 by omega]; exact hR.pick (gm r (n.toNat - 1))) ?_)
        intro s hs
        rw [← hG s hs, show min L.toNat (n - i).toNat = min (L - 1).toNat (n - (i + 1)).toNat + 1 by omega]
        rfl
  have qbd : ∀ s : Nat, s < n.toNat → N s / D ≤ 260000 := by
    intro s hs
    have y := hW s hs
    have ab := Int.mul_pos (show 0 < h 18 0 4 by omega) (show 0 < h 21 0 s by omega)
    rw [← quo_eq ab hD y.2.2.2]
    have z := Int.ediv_le_ediv ab (Int.mul_le_mul_of_nonneg_left y.2.2.1 (show 0 ≤ p by omega))
    rw [Int.mul_ediv_cancel _ (by omega)] at z
    omega
  have qb0 : ∀ s : Nat, s < n.toNat → 0 ≤ N s / D := by
    intro s hs
    have y := hW s hs
    have ab := Int.mul_pos (show 0 < h 18 0 4 by omega) (show 0 < h 21 0 s by omega)
    rw [← quo_eq ab hD y.2.2.2]
    exact Int.ediv_nonneg (Int.mul_nonneg hp.1 y.1.1) (by omega)
  have sbd : ∀ q : Nat, q ≤ n.toNat → 0 * (q : Int) ≤ sumF q (fun s => N s / D) ∧ sumF q (fun s => N s / D) ≤ 260000 * q := fun q hq => sumF_bd fun s hs => ⟨qb0 s (by omega), qbd s (by omega)⟩
  have loop : ∀ (m : Nat) (i A : Int), 0 ≤ i → i ≤ n → (n - i).toNat = m → A = p - sumF i.toNat (fun s => N s / D) → AW x w 6 false 0 0 (AQ x w false 0 0 (RetP none (fun h' => (∀ t : Nat, t ≠ 19 → t ≠ 22 → h' t = h t) ∧ ∀ s : Nat, s < n.toNat → h' 19 0 s = gvN n.toNat p D N s))) 5 [(4, vI i), (3, vI A), (0, vO 18 0), (1, vI p), (2, vI n)] [] (RD h i.toNat (fun s => N s / D) (fun s => p * h 20 0 s % (h 18 0 4 * h 21 0 s))) := by
    intro m
    induction m using Nat.strongRecOn with
    | _ m ih =>
    intro i A hi0 hi1 hm hA2
    refine r_iload C d_S_split_5 rfl ?_
    refine r_iload_n (i0 := 2) C d_S_split_7 rfl rfl ?_
    refine r_icmp_ge (tgt := 34) C d_S_split_8 (by decide) (fun q8 => ?_) (fun q8 => ?_)
    · refine r_iconst C d_S_split_34 (by decide) ?_
      refine r_istore C d_S_split_35 (by decide) ?_
      have e : i.toNat = n.toNat := by omega
      have z := sbd n.toNat (by omega)
      rw [e] at hA2
      rw [e]
      refine AW.lvs [(4, _), (3, _), (0, _), (1, _), (2, _)] ⟨rfl, rfl, rfl, rfl, rfl, trivial⟩ (loop2 _ 0 A (fun s => N s / D) (fun s => N s % D) _ (by omega) (by omega) rfl (by omega) ⟨fun t h1 h2 => RD_fr _ _ _ _ ⟨h1, h2⟩, fun s hs => ?_⟩ (fun s hs => by rw [hA2, show (n - 0).toNat = n.toNat by omega]; rfl))
      have y := hW s hs
      have ab := Int.mul_pos (show 0 < h 18 0 4 by omega) (show 0 < h 21 0 s by omega)
      have qe := quo_eq ab hD y.2.2.2
      have re := rem_eq ab hD y.2.2.2
      have pw := mulN (A := 260000) (B := 720000000000) (a := p) (b := h 20 0 s) (by omega) (by omega)
      have q0 : 0 ≤ N s / D := by rw [← qe]; exact Int.ediv_nonneg pw.1 (by omega)
      have q1 : N s / D ≤ 260000 := qbd s hs
      have m1 := mulN (A := 432000000) (B := 10000) (a := h 18 0 4) (b := h 21 0 s) (by omega) (by omega)
      have r0 := Int.emod_nonneg (p * h 20 0 s) (show h 18 0 4 * h 21 0 s ≠ 0 by omega)
      have r1 := Int.emod_lt_of_pos (p * h 20 0 s) ab
      rw [RD_c _ _ _ hs, RD_k _ _ _ hs]
      exact ⟨rfl, (show 0 ≤ N s / D ∧ N s / D ≤ 260000 + 0 from ⟨by omega, by omega⟩), by rw [re]; ac_rfl, r0, by omega⟩
    · have y := hW i.toNat (by omega)
      have ab := Int.mul_pos (show 0 < h 18 0 4 by omega) (show 0 < h 21 0 i.toNat by omega)
      have qe := quo_eq ab hD y.2.2.2
      have pw := mulN (A := 260000) (B := 720000000000) (a := p) (b := h 20 0 i.toNat) (by omega) (by omega)
      have q0 : 0 ≤ N i.toNat / D := by rw [← qe]; exact Int.ediv_nonneg pw.1 (by omega)
      have q1 : N i.toNat / D ≤ 260000 := qbd i.toNat (by omega)
      refine r_aload_n (i0 := 0) C d_S_split_11 rfl rfl ?_
      refine r_iload_n (i0 := 1) C d_S_split_12 rfl rfl ?_
      refine r_iload C d_S_split_13 rfl ?_
      refine r_callVw C cl_S_96 im_S_roundDown rfl rfl (c_S_roundDown hx (by omega) hp (by rw [RD_18]; exact hA) (by rw [RD_20]; exact y.1) (by rw [RD_21]; exact y.2.1) (by rw [RD_18, RD_20, RD_21]; exact y.2.2.1)) rfl rfl d_S_split_15 (by decide) (by decide) (Nat.le_of_ble_eq_true rfl) (fun h15 p15 => ?_)
      subst p15
      rw [RD_18, RD_20, RD_21, qe]
      refine r_iload_n (i0 := 3) C d_S_split_18 rfl rfl ?_
      refine r_aload_n (i0 := 0) C d_S_split_19 rfl rfl ?_
      refine r_getO C fl_S_9 d_S_split_20 rfl rfl (fun hi => hi) ?_
      refine r_iload C d_S_split_23 rfl ?_
      refine r_iaload (ln := 72) C d_S_split_25 rfl (fun _ => rfl) rfl (by omega) ?_
      rw [hset_tag _ _ (by decide), hset_same]
      refine r_isub C d_S_split_26 (by rw [hA2]; have z := sbd i.toNat (by omega); omega) ?_
      refine r_istore_n (i0 := 3) C d_S_split_27 rfl (by decide) ?_
      refine r_iinc C d_S_split_28 rfl (by decide) (by omega) ?_
      refine r_goto (tgt := 5) C d_S_split_31 (by decide) ?_
      have e2 : (i + 1).toNat = i.toNat + 1 := by omega
      have ee := ih (m - 1) (by omega) (i + 1) (A - N i.toNat / D) (by omega) (by omega) (by omega) (by rw [sumF_int hi0, hA2]; omega)
      rw [e2] at ee
      refine AW.lvs [(4, _), (3, _), (0, _), (1, _), (2, _)] ⟨rfl, rfl, rfl, rfl, rfl, trivial⟩ (AW.heq (RD_step h i.toNat (fun s => N s / D) (fun s => p * h 20 0 s % (h 18 0 4 * h 21 0 s))) ee)
  refine r_iload_n (i0 := 1) C d_S_split_0 rfl rfl ?_
  refine r_istore_n (i0 := 3) C d_S_split_1 rfl (by decide) ?_
  refine r_iconst C d_S_split_2 (by decide) ?_
  refine r_istore C d_S_split_3 (by decide) ?_
  exact AW.lvs [(4, _), (3, _), (0, _), (1, _), (2, _)] ⟨rfl, rfl, rfl, rfl, rfl, trivial⟩ (AW.heq (RD_zero h (fun s => N s / D) (fun s => p * h 20 0 s % (h 18 0 4 * h 21 0 s))) (AW.dirty (loop _ 0 p (by omega) (by omega) rfl (by show p = p - 0; omega))))

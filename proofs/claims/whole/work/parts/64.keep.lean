/-! Contracts: the stock that is kept, the year's close. -/
/-- how many of the first n layers are in the stock; the rows when these are moved to the front -/
def kct (v : Nat → Int) (n : Nat) : Nat := match n with
  | 0 => 0
  | n + 1 => if 0 < v n then kct v n + 1 else kct v n
def krow (v q u : Nat → Int) (n : Nat) : Nat → Int := match n with
  | 0 => u
  | n + 1 => if 0 < v n then upI (krow v q u n) (kct v n) (q n) else krow v q u n
theorem kct_le (v : Nat → Int) : ∀ n, kct v n ≤ n := by
  intro n
  induction n with
  | zero => exact Nat.le_refl _
  | succ n ih => unfold kct; split <;> omega
theorem krow_hi (v q u : Nat → Int) : ∀ n j, n ≤ j → krow v q u n j = u j := by
  intro n
  induction n with
  | zero => intro j _; rfl
  | succ n ih =>
    intro j hj
    have l := kct_le v n
    unfold krow
    split
    · unfold upI; rw [if_neg (by omega)]; exact ih j (by omega)
    · exact ih j (by omega)
theorem krow_all {v q u : Nat → Int} {P : Int → Prop} : ∀ {n L : Nat}, n ≤ L → (∀ j, j < L → P (u j)) → (∀ j, j < n → 0 < v j → P (q j)) → ∀ j, j < L → P (krow v q u n j) := by
  intro n
  induction n with
  | zero => intro L _ h1 _ j hj; exact h1 j hj
  | succ n ih =>
    intro L hL h1 h2 j hj
    unfold krow
    split
    · rename_i z
      unfold upI
      split
      · exact h2 n (by omega) z
      · exact ih (by omega) h1 (fun j hj hv => h2 j (by omega) hv) j hj
    · exact ih (by omega) h1 (fun j hj hv => h2 j (by omega) hv) j hj
theorem lfV_tail {L : Nat} {u u' : Nat → Int} {s : Int} {k : Nat} (hk : k < L) (h : ∀ j, k < j → u' j = u j) : lfV L u' s k = lfV L u s k := by
  unfold lfV
  have e : ∀ m, k + 1 ≤ m → sumF m u' - sumF (k + 1) u' = sumF m u - sumF (k + 1) u := by
    intro m
    induction m with
    | zero => intro h; omega
    | succ m ih =>
      intro hm
      by_cases q : k + 1 = m + 1
      · rw [q]; omega
      · have z := ih (by omega)
        show sumF m u' + u' m - _ = sumF m u + u m - _
        rw [h m (by omega)]; omega
  rw [e L (by omega)]
theorem inV_tail {L : Nat} {u u' : Nat → Int} {s : Int} {k : Nat} (hk : k < L) (h : ∀ j, k ≤ j → u' j = u j) : inV L u' s k = inV L u s k := by
  unfold inV
  rw [lfV_tail hk (fun j hj => h j (by omega)), h k (Nat.le_refl _)]
theorem ciV_tail {L : Nat} {u u' c c' : Nat → Int} {s : Int} {k : Nat} (hk : k < L) (h : ∀ j, k ≤ j → u' j = u j) (h2 : c' k = c k) : ciV L u' c' s k = ciV L u c s k := by
  unfold ciV
  rw [inV_tail hk h, h k (Nat.le_refl _), h2]
/-- the class's fuel with rows u and c -/
def KR (h : AH) (u c : Nat → Int) : AH := fun t i j => if t = 8 ∧ i = 0 then u j else if t = 9 ∧ i = 0 then c j else h t i j
theorem KR_fr (h : AH) (u c : Nat → Int) {t : Nat} (e : t ≠ 8 ∧ t ≠ 9) : KR h u c t = h t := by funext i j; unfold KR; rw [if_neg (by omega), if_neg (by omega)]
theorem KR_8 (h : AH) (u c : Nat → Int) : KR h u c 8 0 = u := by funext j; unfold KR; rw [if_pos ⟨rfl, rfl⟩]
theorem KR_9 (h : AH) (u c : Nat → Int) : KR h u c 9 0 = c := by funext j; unfold KR; rw [if_neg (by omega), if_pos ⟨rfl, rfl⟩]
theorem KR_self (h : AH) : h = KR h (h 8 0) (h 9 0) := by
  funext t i j; unfold KR
  split
  · rename_i z; obtain ⟨rfl, rfl⟩ := z; rfl
  · split
    · rename_i z; obtain ⟨rfl, rfl⟩ := z; rfl
    · rfl
theorem KR_step (h : AH) (u c : Nat → Int) (g : Nat) (a b : Int) : hset (hset (KR h u c) 9 0 g b) 8 0 g a = KR h (upI u g a) (upI c g b) := by
  funext t i j; unfold hset KR upI
  by_cases e8 : t = 8 ∧ i = 0
  · obtain ⟨rfl, rfl⟩ := e8
    by_cases z : j = g <;> simp [z]
  · by_cases e9 : t = 9 ∧ i = 0
    · obtain ⟨rfl, rfl⟩ := e9
      by_cases z : j = g <;> simp [z]
    · rw [if_neg (by omega), if_neg (by omega), if_neg e8, if_neg e9, if_neg e8, if_neg e9]
def vK (h : AH) : Nat → Int := inV (h 7 0 2).toNat (h 8 0) (h 7 0 3)
def qK (h : AH) : Nat → Int := ciV (h 7 0 2).toNat (h 8 0) (h 9 0) (h 7 0 3)
def ksH (h : AH) (n : Nat) : AH := KR h (krow (vK h) (vK h) (h 8 0) n) (krow (vK h) (qK h) (h 9 0) n)
theorem ksH_fu {h : AH} (hU : FUv (h 7 0 2).toNat (h 8 0) (h 9 0)) {n : Nat} (hn : n ≤ (h 7 0 2).toNat) : FUv (h 7 0 2).toNat (krow (vK h) (vK h) (h 8 0) n) (krow (vK h) (qK h) (h 9 0) n) := by
  refine ⟨hU.1, fun k hk => ⟨?_, ?_⟩⟩
  · exact krow_all (P := fun z => 1 ≤ z ∧ z ≤ 1000) hn (fun j hj => (hU.2 j hj).1) (fun j hj hv => by have z := inV_bd (s := h 7 0 3) hU (show j < _ by omega); have y := (hU.2 j (by omega)).1; unfold vK at *; omega) k hk
  · exact krow_all (P := fun z => 0 ≤ z ∧ z ≤ 20000) hn (fun j hj => (hU.2 j hj).2) (fun j hj hv => by have z := ciV_bd (s := h 7 0 3) hU (show j < _ by omega); have y := (hU.2 j (by omega)).2; unfold qK; omega) k hk
set_option maxHeartbeats 1000000 in
theorem c_U_keepStock {l : Launch} (hl : l.stackTraces = false) {w : XW} {h : AH} (hL : 0 ≤ h 7 0 2) (hU : FUv (h 7 0 2).toNat (h 8 0) (h 9 0)) (hs : -1 ≤ h 7 0 3 ∧ h 7 0 3 ≤ 12000) : AM l y_U_keepStock (wsM y_U_keepStock b_U_keepStock 4 none []) false (rmV 3 0) w [vO 7 0] h (RetP none (fun h' => h' = hset (hset (ksH h (h 7 0 2).toNat) 7 0 2 (kct (vK h) (h 7 0 2).toNat : Nat)) 7 0 3 (-1))) := by
  refine AM.of hl (by decide +kernel) (Nat.le_of_ble_eq_true rfl) fun x hx C _ => ?_
  have hL1 := hU.1
  have loop : ∀ (m : Nat) (i A : Int), 0 ≤ i → i ≤ (h 7 0 2) → ((h 7 0 2) - i).toNat = m → A = ((kct (vK h) i.toNat : Nat) : Int) → AW x w 4 false 0 0 (AQ x w false 0 0 (RetP none (fun h' => h' = hset (hset (ksH h (h 7 0 2).toNat) 7 0 2 (kct (vK h) (h 7 0 2).toNat : Nat)) 7 0 3 (-1)))) 4 [(2, vI i), (1, vI A), (0, vO 7 0)] [] (ksH h i.toNat) := by
    intro m
    induction m using Nat.strongRecOn with
    | _ m ih =>
    intro i A hi0 hi1 hm hA
    refine r_iload_n (i0 := 2) C d_U_keepStock_4 rfl rfl ?_
    refine r_aload_n (i0 := 0) C d_U_keepStock_5 rfl rfl ?_
    refine r_getI C fl_U_18 d_U_keepStock_6 rfl ?_
    rw [show ksH h i.toNat 7 = h 7 from KR_fr _ _ _ (by decide)]
    refine r_icmp_ge (tgt := 49) C d_U_keepStock_9 (by decide) (fun q9 => ?_) (fun q9 => ?_)
    · have e : i.toNat = (h 7 0 2).toNat := (by omega)
      rw [e] at hA
      rw [hA, e]
      refine r_aload_n (i0 := 0) C d_U_keepStock_49 rfl rfl ?_
      refine r_iload_n (i0 := 1) C d_U_keepStock_50 rfl rfl ?_
      refine r_putI C pl_U_18 d_U_keepStock_51 rfl ?_
      refine r_aload_n (i0 := 0) C d_U_keepStock_54 rfl rfl ?_
      refine r_iconst C d_U_keepStock_55 (by decide) ?_
      refine r_putI C pl_U_22 d_U_keepStock_56 rfl ?_
      exact r_vret C d_U_keepStock_59 (⟨rfl, rfl⟩) (by decide) (fun q => nomatch q)
    · have f7 : ksH h i.toNat 7 = h 7 := KR_fr _ _ _ (by decide)
      have f8 : ksH h i.toNat 8 0 = krow (vK h) (vK h) (h 8 0) i.toNat := KR_8 _ _ _
      have f9 : ksH h i.toNat 9 0 = krow (vK h) (qK h) (h 9 0) i.toNat := KR_9 _ _ _
      have kl := kct_le (vK h) i.toNat
      have hi : i.toNat < (h 7 0 2).toNat := by omega
      have v0 := inV_bd (s := h 7 0 3) hU hi
      have fu := ksH_fu hU (Nat.le_of_lt hi)
      have ev : inV (h 7 0 2).toNat (krow (vK h) (vK h) (h 8 0) i.toNat) (h 7 0 3) i.toNat = vK h i.toNat := inV_tail hi (fun j hj => krow_hi _ _ _ _ _ hj)
      have ec : ciV (h 7 0 2).toNat (krow (vK h) (vK h) (h 8 0) i.toNat) (krow (vK h) (qK h) (h 9 0) i.toNat) (h 7 0 3) i.toNat = qK h i.toNat := ciV_tail hi (fun j hj => krow_hi _ _ _ _ _ hj) (krow_hi _ _ _ _ _ (Nat.le_refl _))
      refine r_aload_n (i0 := 0) C d_U_keepStock_12 rfl rfl ?_
      refine r_iload_n (i0 := 2) C d_U_keepStock_13 rfl rfl ?_
      refine r_callVp C cl_U_45 im_U_stockUnits rfl rfl (c_U_stockUnits hx (by rw [f7]; exact hL) (by rw [f7, f8, f9]; exact fu) (by rw [f7]; exact hs) (by rw [f7]; omega)) rfl rfl d_U_keepStock_14 (by decide) (Nat.le_of_ble_eq_true rfl) ?_
      rw [f7, f8, ev]
      refine r_istore_n (i0 := 3) C d_U_keepStock_17 rfl (by decide) ?_
      refine r_iload_n (i0 := 3) C d_U_keepStock_18 rfl rfl ?_
      refine r_if_le (tgt := 43) C d_U_keepStock_19 (by decide) (fun q19 => ?_) (fun q19 => ?_)
      · refine r_iinc C d_U_keepStock_43 rfl (by decide) (by omega) ?_
        refine r_goto (tgt := 4) C d_U_keepStock_46 (by decide) ?_
        have e2 : (i + 1).toNat = i.toNat + 1 := by omega
        first
          | (refine AW.lvs [(2, _), (1, _), (0, _)] ⟨rfl, rfl, rfl, trivial⟩ (AW.heq ?_ (ih (m - 1) (by omega) (i + 1) _ (by omega) (by omega) (by omega) ?_))
             · rw [e2, hA, show ((((kct (vK h) i.toNat) : Nat) : Int)).toNat = kct (vK h) i.toNat from Int.toNat_natCast _]; show hset (hset (KR h _ _) 9 0 _ _) 8 0 _ _ = KR h (if 0 < vK h i.toNat then _ else _) (if 0 < vK h i.toNat then _ else _); rw [if_pos (by omega), if_pos (by omega)]; exact KR_step _ _ _ _ _ _
             · rw [e2]; show A + 1 = ((if 0 < vK h i.toNat then _ else _ : Nat) : Int); rw [if_pos (by omega)]; omega)
          | (refine AW.lvs [(2, _), (1, _), (0, _)] ⟨rfl, rfl, rfl, trivial⟩ (AW.heq ?_ (ih (m - 1) (by omega) (i + 1) _ (by omega) (by omega) (by omega) ?_))
             · rw [e2]; show KR h _ _ = KR h (if 0 < vK h i.toNat then _ else _) (if 0 < vK h i.toNat then _ else _); rw [if_neg (by omega), if_neg (by omega)]
             · rw [e2]; show A = ((if 0 < vK h i.toNat then _ else _ : Nat) : Int); rw [if_neg (by omega)]; omega)
      · refine r_aload_n (i0 := 0) C d_U_keepStock_22 rfl rfl ?_
        refine r_getO C fl_U_15 d_U_keepStock_23 rfl rfl (fun hi => hi) ?_
        refine r_iload_n (i0 := 1) C d_U_keepStock_26 rfl rfl ?_
        refine r_aload_n (i0 := 0) C d_U_keepStock_27 rfl rfl ?_
        refine r_iload_n (i0 := 2) C d_U_keepStock_28 rfl rfl ?_
        refine r_callVp C cl_U_32 im_U_stockCents rfl rfl (c_U_stockCents hx (by rw [f7]; exact hL) (by rw [f7, f8, f9]; exact fu) (by rw [f7]; exact hs) (by rw [f7]; omega)) rfl rfl d_U_keepStock_29 (by decide) (Nat.le_of_ble_eq_true rfl) ?_
        rw [f7, f8, f9, ec]
        refine r_iastore (ln := 12) C d_U_keepStock_32 rfl (fun _ => rfl) rfl (by omega) ?_
        refine r_aload_n (i0 := 0) C d_U_keepStock_33 rfl rfl ?_
        refine r_getO C fl_U_9 d_U_keepStock_34 rfl rfl (fun hi => hi) ?_
        refine r_iload_n (i0 := 1) C d_U_keepStock_37 rfl rfl ?_
        refine r_iload_n (i0 := 3) C d_U_keepStock_38 rfl rfl ?_
        refine r_iastore (ln := 12) C d_U_keepStock_39 rfl (fun _ => rfl) rfl (by omega) ?_
        refine r_iinc C d_U_keepStock_40 rfl (by decide) (by omega) ?_
        refine r_iinc C d_U_keepStock_43 rfl (by decide) (by omega) ?_
        refine r_goto (tgt := 4) C d_U_keepStock_46 (by decide) ?_
        have e2 : (i + 1).toNat = i.toNat + 1 := by omega
        first
          | (refine AW.lvs [(2, _), (1, _), (0, _)] ⟨rfl, rfl, rfl, trivial⟩ (AW.heq ?_ (ih (m - 1) (by omega) (i + 1) _ (by omega) (by omega) (by omega) ?_))
             · rw [e2, hA, show ((((kct (vK h) i.toNat) : Nat) : Int)).toNat = kct (vK h) i.toNat from Int.toNat_natCast _]; show hset (hset (KR h _ _) 9 0 _ _) 8 0 _ _ = KR h (if 0 < vK h i.toNat then _ else _) (if 0 < vK h i.toNat then _ else _); rw [if_pos (by omega), if_pos (by omega)]; exact KR_step _ _ _ _ _ _
             · rw [e2]; show A + 1 = ((if 0 < vK h i.toNat then _ else _ : Nat) : Int); rw [if_pos (by omega)]; omega)
          | (refine AW.lvs [(2, _), (1, _), (0, _)] ⟨rfl, rfl, rfl, trivial⟩ (AW.heq ?_ (ih (m - 1) (by omega) (i + 1) _ (by omega) (by omega) (by omega) ?_))
             · rw [e2]; show KR h _ _ = KR h (if 0 < vK h i.toNat then _ else _) (if 0 < vK h i.toNat then _ else _); rw [if_neg (by omega), if_neg (by omega)]
             · rw [e2]; show A = ((if 0 < vK h i.toNat then _ else _ : Nat) : Int); rw [if_neg (by omega)]; omega)
  refine r_iconst C d_U_keepStock_0 (by decide) ?_
  refine r_istore_n (i0 := 1) C d_U_keepStock_1 rfl (by decide) ?_
  refine r_iconst C d_U_keepStock_2 (by decide) ?_
  refine r_istore_n (i0 := 2) C d_U_keepStock_3 rfl (by decide) ?_
  exact AW.lvs [(2, _), (1, _), (0, _)] ⟨rfl, rfl, rfl, trivial⟩ (AW.dirty (AW.heq (KR_self h) (loop _ 0 0 (by omega) (by omega) rfl rfl)))

/-! Contracts: spans. -/
set_option maxHeartbeats 1000000 in
theorem c_P_addSpan {l : Launch} (hl : l.stackTraces = false) {w : XW} {h : AH} {S : List SP} {a b c d : Int} (hS : S.length < 72) : AM l y_P_addSpan (wsM y_P_addSpan b_P_addSpan 5 none []) false (rmV 0 0) w [vO 13 0, vI a, vI b, vI c, vI d] (SPH h S) (RetP none (fun h' => h' = SPH h (S ++ [(a, b, c, d)]))) := by
  refine AM.of hl (by decide +kernel) (Nat.le_of_ble_eq_true rfl) fun x hx C _ => ?_
  refine r_aload_n (i0 := 0) C d_P_addSpan_0 rfl rfl ?_
  refine r_getI C fl_P_24 d_P_addSpan_1 rfl ?_
  simp only [hset_tag, hset_slot, SPH_cnt, ne_eq, not_false_eq_true, Nat.reduceEqDiff]
  refine r_bipush C d_P_addSpan_4 (by decide) (by decide) ?_
  refine r_icmp_lt (tgt := 10) C d_P_addSpan_6 (by decide) (fun q6 => ?_) (fun q6 => ?_)
  · refine r_aload_n (i0 := 0) C d_P_addSpan_10 rfl rfl ?_
    refine r_getO C fl_P_9 d_P_addSpan_11 rfl rfl (fun hi => hi) ?_
    refine r_aload_n (i0 := 0) C d_P_addSpan_14 rfl rfl ?_
    refine r_getI C fl_P_24 d_P_addSpan_15 rfl ?_
    simp only [hset_tag, hset_slot, SPH_cnt, ne_eq, not_false_eq_true, Nat.reduceEqDiff]
    refine r_iload_n (i0 := 1) C d_P_addSpan_18 rfl rfl ?_
    refine r_iastore (ln := 72) C d_P_addSpan_19 rfl (fun _ => rfl) rfl (by omega) ?_
    refine r_aload_n (i0 := 0) C d_P_addSpan_20 rfl rfl ?_
    refine r_getO C fl_P_15 d_P_addSpan_21 rfl rfl (fun hi => hi) ?_
    refine r_aload_n (i0 := 0) C d_P_addSpan_24 rfl rfl ?_
    refine r_getI C fl_P_24 d_P_addSpan_25 rfl ?_
    simp only [hset_tag, hset_slot, SPH_cnt, ne_eq, not_false_eq_true, Nat.reduceEqDiff]
    refine r_iload_n (i0 := 2) C d_P_addSpan_28 rfl rfl ?_
    refine r_iastore (ln := 72) C d_P_addSpan_29 rfl (fun _ => rfl) rfl (by omega) ?_
    refine r_aload_n (i0 := 0) C d_P_addSpan_30 rfl rfl ?_
    refine r_getO C fl_P_18 d_P_addSpan_31 rfl rfl (fun hi => hi) ?_
    refine r_aload_n (i0 := 0) C d_P_addSpan_34 rfl rfl ?_
    refine r_getI C fl_P_24 d_P_addSpan_35 rfl ?_
    simp only [hset_tag, hset_slot, SPH_cnt, ne_eq, not_false_eq_true, Nat.reduceEqDiff]
    refine r_iload_n (i0 := 3) C d_P_addSpan_38 rfl rfl ?_
    refine r_iastore (ln := 72) C d_P_addSpan_39 rfl (fun _ => rfl) rfl (by omega) ?_
    refine r_aload_n (i0 := 0) C d_P_addSpan_40 rfl rfl ?_
    refine r_getO C fl_P_21 d_P_addSpan_41 rfl rfl (fun hi => hi) ?_
    refine r_aload_n (i0 := 0) C d_P_addSpan_44 rfl rfl ?_
    refine r_getI C fl_P_24 d_P_addSpan_45 rfl ?_
    simp only [hset_tag, hset_slot, SPH_cnt, ne_eq, not_false_eq_true, Nat.reduceEqDiff]
    refine r_iload C d_P_addSpan_48 rfl ?_
    refine r_iastore (ln := 72) C d_P_addSpan_50 rfl (fun _ => rfl) rfl (by omega) ?_
    refine r_aload_n (i0 := 0) C d_P_addSpan_51 rfl rfl ?_
    refine r_dup C d_P_addSpan_52 rfl ?_
    refine r_getI C fl_P_24 d_P_addSpan_53 rfl ?_
    simp only [hset_tag, hset_slot, SPH_cnt, ne_eq, not_false_eq_true, Nat.reduceEqDiff]
    refine r_iconst C d_P_addSpan_56 (by decide) ?_
    refine r_iadd C d_P_addSpan_57 (by omega) ?_
    refine r_putI C pl_P_24 d_P_addSpan_58 rfl ?_
    exact r_vret C d_P_addSpan_61 (⟨rfl, by have e := SPH_add h S (a, b, c, d); rw [← e]; have n0 : ((S.length : Int)).toNat = S.length := (by omega); rw [n0]⟩) (by decide) (fun q => nomatch q)
  · exfalso; omega 
/-- the class's changes of flat f -/
def cHs (h : AH) (f : Nat) : Nat → Bool := fun t => decide (h 6 f t ≠ -2)
abbrev cVl (h : AH) (f : Nat) : Nat → Int := fun t => h 6 f t
theorem SPH_6 (h : AH) (S : List SP) : SPH h S 6 = h 6 := SPH_fr h S (by decide)
theorem SPH_4 (h : AH) (S : List SP) : SPH h S 4 = h 4 := SPH_fr h S (by decide)
theorem SPH_2 (h : AH) (S : List SP) : SPH h S 2 = h 2 := SPH_fr h S (by decide)
theorem AW.dirty {x : MX} {w : XW} {nL : Nat} {cl : Bool} {cells slots : Nat} {Q : State → Prop} {pc : Nat} {lv : List (Nat × AV)} {st : List AV} {h : AH} (k : AW x w nL false cells slots Q pc lv st h) : AW x w nL cl cells slots Q pc lv st h := fun hh hl hs H ls locs hR hv hS => k hh hl hs H ls locs hR hv hS.weak
set_option maxHeartbeats 1000000 in
theorem c_P_layFlat {l : Launch} (hl : l.stackTraces = false) {w : XW} {h : AH} {S0 : List SP} {f : Nat} {a : Int} (hS : S0.length ≤ 60) : AM l y_P_layFlat (wsM y_P_layFlat b_P_layFlat 6 none []) false (rmV 1 0) w [vO 13 0, vI a, vO 4 f] (SPH h S0) (RetP none (fun h' => h' = SPH h (S0 ++ spF a (cHs h f) (cVl h f) (h 4 f 3)))) := by
  refine AM.of hl (by decide +kernel) (Nat.le_of_ble_eq_true rfl) fun x hx C _ => ?_
  have hlen := goS_len a (cHs h f) (cVl h f) 11 1 0 (if cHs h f 0 then cVl h f 0 else h 4 f 3)
  have hTl : (S0 ++ spF a (cHs h f) (cVl h f) (h 4 f 3)).length ≤ 72 := by rw [List.length_append]; unfold spF; omega
  have loop : ∀ (m : Nat) (t b who : Int) (S : List SP), 1 ≤ t → t ≤ 12 → (12 - t).toNat = m → S ++ goS a (cHs h f) (cVl h f) (12 - t).toNat t.toNat b who = (S0 ++ spF a (cHs h f) (cVl h f) (h 4 f 3)) → AW x w 6 false 0 0 (AQ x w false 0 0 (RetP none (fun h' => h' = SPH h (S0 ++ spF a (cHs h f) (cVl h f) (h 4 f 3))))) 28 [(5, vI t), (4, vI who), (3, vI b), (0, vO 13 0), (1, vI a), (2, vO 4 f)] [] (SPH h S) := by
    intro m
    induction m using Nat.strongRecOn with
    | _ m ih =>
    intro t b who S ht0 ht1 hm hT
    refine r_iload C d_P_layFlat_28 rfl ?_
    refine r_bipush C d_P_layFlat_30 (by decide) (by decide) ?_
    refine r_icmp_ge (tgt := 72) C d_P_layFlat_32 (by decide) (fun q32 => ?_) (fun q32 => ?_)
    · refine r_aload_n (i0 := 0) C d_P_layFlat_72 rfl rfl ?_
      refine r_iload_n (i0 := 1) C d_P_layFlat_73 rfl rfl ?_
      refine r_iload_n (i0 := 3) C d_P_layFlat_74 rfl rfl ?_
      refine r_bipush C d_P_layFlat_75 (by decide) (by decide) ?_
      refine r_iload C d_P_layFlat_77 rfl ?_
      refine r_callVw C cl_P_51 im_P_addSpan rfl rfl (c_P_addSpan hx (by have e := congrArg List.length hT; rw [List.length_append] at e; have g := goS_len a (cHs h f) (cVl h f) (12 - t).toNat t.toNat b who; omega)) rfl rfl d_P_layFlat_79 (by decide) (by decide) (Nat.le_of_ble_eq_true rfl) (fun h79 p79 => ?_)
      subst p79
      exact r_vret C d_P_layFlat_82 (⟨rfl, by rw [← hT, show (12 - t).toNat = 0 by omega]; rfl⟩) (by decide) (fun q => nomatch q)
    · refine r_aload_n (i0 := 2) C d_P_layFlat_35 rfl rfl ?_
      refine r_iload C d_P_layFlat_36 rfl ?_
      refine r_callVp C cl_P_39 im_F_hasChange rfl rfl (c_F_hasChange hx (by omega)) rfl rfl d_P_layFlat_38 (by decide) (Nat.le_of_ble_eq_true rfl) ?_
      simp only [SPH_6]
      refine r_if_eq (tgt := 66) C d_P_layFlat_41 (by decide) (fun q41 => ?_) (fun q41 => ?_)
      · refine r_iinc C d_P_layFlat_66 rfl (by decide) (by omega) ?_
        refine r_goto (tgt := 28) C d_P_layFlat_69 (by decide) ?_
        have e2 : (t + 1).toNat = t.toNat + 1 := by omega
        have e3 : (12 - t).toNat = (12 - (t + 1)).toNat + 1 := by omega
        have e4 : ((t.toNat : Nat) : Int) = t := by omega
        refine AW.lvs [(5, _), (4, _), (3, _), (0, _), (1, _), (2, _)] ⟨rfl, rfl, rfl, rfl, rfl, rfl, trivial⟩ (ih (m - 1) (by omega) (t + 1) _ _ _ (by omega) (by omega) (by omega) ?_)
        rw [← hT, e3, e2]
        conv => rhs; unfold goS
        first
          | (rw [if_neg (show ¬ cHs h f t.toNat = true by unfold cHs; simp; omega)]; done)
          | (rw [if_pos (show cHs h f t.toNat = true by unfold cHs; simp; omega), e4, List.append_assoc]; rfl)
      · refine r_aload_n (i0 := 0) C d_P_layFlat_44 rfl rfl ?_
        refine r_iload_n (i0 := 1) C d_P_layFlat_45 rfl rfl ?_
        refine r_iload_n (i0 := 3) C d_P_layFlat_46 rfl rfl ?_
        refine r_iload C d_P_layFlat_47 rfl ?_
        refine r_iload C d_P_layFlat_49 rfl ?_
        refine r_callVw C cl_P_51 im_P_addSpan rfl rfl (c_P_addSpan hx (by have e := congrArg List.length hT; rw [List.length_append] at e; have g := goS_len a (cHs h f) (cVl h f) (12 - t).toNat t.toNat b who; omega)) rfl rfl d_P_layFlat_51 (by decide) (by decide) (Nat.le_of_ble_eq_true rfl) (fun h51 p51 => ?_)
        subst p51
        refine r_iload C d_P_layFlat_54 rfl ?_
        refine r_istore_n (i0 := 3) C d_P_layFlat_56 rfl (by decide) ?_
        refine r_aload_n (i0 := 2) C d_P_layFlat_57 rfl rfl ?_
        refine r_getO C fl_P_45 d_P_layFlat_58 rfl rfl (fun hi => hi) ?_
        refine r_iload C d_P_layFlat_61 rfl ?_
        refine r_iaload (ln := 12) C d_P_layFlat_63 rfl (fun _ => rfl) rfl (by omega) ?_
        simp only [SPH_6]
        refine r_istore C d_P_layFlat_64 (by decide) ?_
        refine r_iinc C d_P_layFlat_66 rfl (by decide) (by omega) ?_
        refine r_goto (tgt := 28) C d_P_layFlat_69 (by decide) ?_
        have e2 : (t + 1).toNat = t.toNat + 1 := by omega
        have e3 : (12 - t).toNat = (12 - (t + 1)).toNat + 1 := by omega
        have e4 : ((t.toNat : Nat) : Int) = t := by omega
        refine AW.lvs [(5, _), (4, _), (3, _), (0, _), (1, _), (2, _)] ⟨rfl, rfl, rfl, rfl, rfl, rfl, trivial⟩ (ih (m - 1) (by omega) (t + 1) _ _ _ (by omega) (by omega) (by omega) ?_)
        rw [← hT, e3, e2]
        conv => rhs; unfold goS
        first
          | (rw [if_neg (show ¬ cHs h f t.toNat = true by unfold cHs; simp; omega)]; done)
          | (rw [if_pos (show cHs h f t.toNat = true by unfold cHs; simp; omega), e4, List.append_assoc]; rfl)
  have join : ∀ v : Int, v = (if cHs h f 0 then cVl h f 0 else h 4 f 3) → AW x w 6 true 0 0 (AQ x w false 0 0 (RetP none (fun h' => h' = SPH h (S0 ++ spF a (cHs h f) (cVl h f) (h 4 f 3))))) 23 [(3, vI 0), (0, vO 13 0), (1, vI a), (2, vO 4 f)] [vI v] (SPH h S0) := by
    intro v hv
    refine r_istore C d_P_layFlat_23 (by decide) ?_
    refine r_iconst C d_P_layFlat_25 (by decide) ?_
    refine r_istore C d_P_layFlat_26 (by decide) ?_
    refine AW.lvs [(5, vI 1), (4, vI v), (3, vI 0), (0, vO 13 0), (1, vI a), (2, vO 4 f)] ⟨rfl, rfl, rfl, rfl, rfl, rfl, trivial⟩ (AW.dirty (loop _ 1 0 v S0 (by omega) (by omega) rfl ?_))
    rw [hv]
    rfl
  refine r_iconst C d_P_layFlat_0 (by decide) ?_
  refine r_istore_n (i0 := 3) C d_P_layFlat_1 rfl (by decide) ?_
  refine r_aload_n (i0 := 2) C d_P_layFlat_2 rfl rfl ?_
  refine r_iconst C d_P_layFlat_3 (by decide) ?_
  refine r_callVp C cl_P_39 im_F_hasChange rfl rfl (c_F_hasChange hx (by omega)) rfl rfl d_P_layFlat_4 (by decide) (Nat.le_of_ble_eq_true rfl) ?_
  simp only [SPH_6]
  simp only [show (0 : Int).toNat = 0 from rfl]
  refine r_if_eq (tgt := 19) C d_P_layFlat_7 (by decide) (fun q7 => ?_) (fun q7 => ?_)
  · refine r_aload_n (i0 := 2) C d_P_layFlat_19 rfl rfl ?_
    refine r_getI C fl_P_48 d_P_layFlat_20 rfl ?_
    simp only [SPH_4]
    exact join _ (by unfold cHs; simp; first | (rw [if_pos (by omega)]; done) | (rw [if_neg (by omega)]; done) | (intro z; omega) | omega)
  · refine r_aload_n (i0 := 2) C d_P_layFlat_10 rfl rfl ?_
    refine r_getO C fl_P_45 d_P_layFlat_11 rfl rfl (fun hi => hi) ?_
    refine r_iconst C d_P_layFlat_14 (by decide) ?_
    refine r_iaload (ln := 12) C d_P_layFlat_15 rfl (fun _ => rfl) rfl (by omega) ?_
    simp only [SPH_6]
    simp only [show (0 : Int).toNat = 0 from rfl]
    refine r_goto (tgt := 23) C d_P_layFlat_16 (by decide) ?_
    exact join _ (by unfold cHs; simp; first | (rw [if_pos (by omega)]; done) | (rw [if_neg (by omega)]; done) | (intro z; omega) | omega)
set_option maxHeartbeats 1000000 in
theorem c_P_lay {l : Launch} (hl : l.stackTraces = false) {w : XW} {h : AH} (hc : 0 ≤ h 2 0 1 ∧ h 2 0 1 ≤ 6) : AM l y_P_lay (wsM y_P_lay b_P_lay 3 none []) false (rmV 2 0) w [vO 13 0, vO 2 0] h (RetP none (fun h' => h' = SPH h (spA (cHs h) (cVl h) (fun f => h 4 f 3) (h 2 0 1).toNat))) := by
  refine AM.of hl (by decide +kernel) (Nat.le_of_ble_eq_true rfl) fun x hx C _ => ?_
  have loop : ∀ (m : Nat) (i : Int), 0 ≤ i → i ≤ h 2 0 1 → (h 2 0 1 - i).toNat = m → AW x w 3 false 0 0 (AQ x w false 0 0 (RetP none (fun h' => h' = SPH h (spA (cHs h) (cVl h) (fun f => h 4 f 3) (h 2 0 1).toNat)))) 7 [(2, vI i), (0, vO 13 0), (1, vO 2 0)] [] (SPH h (spA (cHs h) (cVl h) (fun f => h 4 f 3) i.toNat)) := by
    intro m
    induction m using Nat.strongRecOn with
    | _ m ih =>
    intro i hi0 hi1 hm
    refine r_iload_n (i0 := 2) C d_P_lay_7 rfl rfl ?_
    refine r_aload_n (i0 := 1) C d_P_lay_8 rfl rfl ?_
    refine r_getI C fl_P_28 d_P_lay_9 rfl ?_
    simp only [SPH_2]
    refine r_icmp_ge (tgt := 32) C d_P_lay_12 (by decide) (fun q12 => ?_) (fun q12 => ?_)
    · have e : i.toNat = (h 2 0 1).toNat := (by omega)
      rw [e]
      exact r_vret C d_P_lay_32 (⟨rfl, rfl⟩) (by decide) (fun q => nomatch q)
    · refine r_aload_n (i0 := 0) C d_P_lay_15 rfl rfl ?_
      refine r_iload_n (i0 := 2) C d_P_lay_16 rfl rfl ?_
      refine r_aload_n (i0 := 1) C d_P_lay_17 rfl rfl ?_
      refine r_getO C fl_P_31 d_P_lay_18 rfl rfl (fun hi => hi) ?_
      refine r_iload_n (i0 := 2) C d_P_lay_21 rfl rfl ?_
      refine r_aaF C d_P_lay_22 (by omega) ?_
      refine r_callVw C cl_P_35 im_P_layFlat rfl rfl (c_P_layFlat hx (by have := spA_len (cHs h) (cVl h) (fun f => h 4 f 3) i.toNat; omega)) rfl rfl d_P_lay_23 (by decide) (by decide) (Nat.le_of_ble_eq_true rfl) (fun h23 p23 => ?_)
      subst p23
      refine r_iinc C d_P_lay_26 rfl (by decide) (by omega) ?_
      refine r_goto (tgt := 7) C d_P_lay_29 (by decide) ?_
      have e2 : (i + 1).toNat = i.toNat + 1 := by omega
      have ee := ih (m - 1) (by omega) (i + 1) (by omega) (by omega) (by omega)
      rw [e2] at ee
      refine AW.heq ?_ ee
      show SPH h _ = SPH h (spA _ _ _ i.toNat ++ spF _ _ _ _)
      rw [show ((i.toNat : Nat) : Int) = i by omega]
  refine r_aload_n (i0 := 0) C d_P_lay_0 rfl rfl ?_
  refine r_iconst C d_P_lay_1 (by decide) ?_
  refine r_putI C pl_P_24 d_P_lay_2 rfl ?_
  refine r_iconst C d_P_lay_5 (by decide) ?_
  refine r_istore_n (i0 := 2) C d_P_lay_6 rfl (by decide) ?_
  rw [SPH_nil]
  exact loop _ 0 (by omega) (by omega) rfl

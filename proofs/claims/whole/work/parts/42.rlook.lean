/-! Contracts: kindOf and look of the reference. -/
set_option maxHeartbeats 1000000 in
theorem c_R_kindOf {l : Launch} (hl : l.stackTraces = false) {w : XW} {h : AH} {a : Int} (ha : 0 ≤ a ∧ a < 6) (hr : ∀ t : Nat, t < 13 → -1 ≤ rdR h a.toNat t ∧ rdR h a.toNat t ≤ 99) (hk : h 47 0 a.toNat = -1 ∨ 1 ≤ h 47 0 a.toNat ∧ h 47 0 a.toNat ≤ 200) : AM l y_R_kindOf (wsM y_R_kindOf b_R_kindOf 3 (some .int) []) true (rmV 1 0) w [vO 40 0, vI a] h (Ret (some (vI (kdS (rdI (rdR h a.toNat)) (h 47 0 a.toNat) (h 40 0 29) (h 40 0 28) (h 40 0 27)))) h) := by
  refine AM.of hl (by decide +kernel) (Nat.le_of_ble_eq_true rfl) fun x hx C _ => ?_
  refine r_aload_n (i0 := 0) C d_R_kindOf_0 rfl rfl ?_
  refine r_iload_n (i0 := 1) C d_R_kindOf_1 rfl rfl ?_
  refine r_callVp C cl_R_128 im_R_isRead rfl rfl (c_R_isRead hx ha hr) rfl rfl d_R_kindOf_2 (by decide) (Nat.le_of_ble_eq_true rfl) ?_
  refine r_if_eq (tgt := 10) C d_R_kindOf_5 (by decide) (fun q5 => ?_) (fun q5 => ?_)
  · refine r_aload_n (i0 := 0) C d_R_kindOf_10 rfl rfl ?_
    refine r_getO C fl_R_28 d_R_kindOf_11 rfl rfl (fun hi => hi) ?_
    refine r_iload_n (i0 := 1) C d_R_kindOf_14 rfl rfl ?_
    refine r_iaload (ln := 6) C d_R_kindOf_15 rfl (fun _ => rfl) rfl (by omega) ?_
    refine r_if_lt (tgt := 37) C d_R_kindOf_16 (by decide) (fun q16 => ?_) (fun q16 => ?_)
    · refine r_iconst C d_R_kindOf_37 (by decide) ?_
      refine r_istore_n (i0 := 2) C d_R_kindOf_38 rfl (by decide) ?_
      refine r_iload_n (i0 := 2) C d_R_kindOf_39 rfl rfl ?_
      refine r_if_eq (tgt := 47) C d_R_kindOf_40 (by decide) (fun q40 => ?_) (fun q40 => ?_)
      · refine r_aload_n (i0 := 0) C d_R_kindOf_47 rfl rfl ?_
        refine r_getI C fl_R_137 d_R_kindOf_48 rfl ?_
        refine r_if_le (tgt := 58) C d_R_kindOf_51 (by decide) (fun q51 => ?_) (fun q51 => ?_)
        · refine r_iconst C d_R_kindOf_58 (by decide) ?_
          exact r_iret C d_R_kindOf_59 (fun _ => ⟨vi_e (by have := rdI_01 (rdR h a.toNat); unfold kdS; (repeat' split) <;> omega), rfl⟩) (by decide) (fun _ => ⟨rfl, rfl, rfl⟩)
        · refine r_iconst C d_R_kindOf_54 (by decide) ?_
          refine r_goto (tgt := 59) C d_R_kindOf_55 (by decide) ?_
          exact r_iret C d_R_kindOf_59 (fun _ => ⟨vi_e (by have := rdI_01 (rdR h a.toNat); unfold kdS; (repeat' split) <;> omega), rfl⟩) (by decide) (fun _ => ⟨rfl, rfl, rfl⟩)
      · refine r_iconst C d_R_kindOf_43 (by decide) ?_
        refine r_goto (tgt := 59) C d_R_kindOf_44 (by decide) ?_
        exact r_iret C d_R_kindOf_59 (fun _ => ⟨vi_e (by have := rdI_01 (rdR h a.toNat); unfold kdS; (repeat' split) <;> omega), rfl⟩) (by decide) (fun _ => ⟨rfl, rfl, rfl⟩)
    · refine r_aload_n (i0 := 0) C d_R_kindOf_19 rfl rfl ?_
      refine r_getI C fl_R_131 d_R_kindOf_20 rfl ?_
      refine r_if_le (tgt := 37) C d_R_kindOf_23 (by decide) (fun q23 => ?_) (fun q23 => ?_)
      · refine r_iconst C d_R_kindOf_37 (by decide) ?_
        refine r_istore_n (i0 := 2) C d_R_kindOf_38 rfl (by decide) ?_
        refine r_iload_n (i0 := 2) C d_R_kindOf_39 rfl rfl ?_
        refine r_if_eq (tgt := 47) C d_R_kindOf_40 (by decide) (fun q40 => ?_) (fun q40 => ?_)
        · refine r_aload_n (i0 := 0) C d_R_kindOf_47 rfl rfl ?_
          refine r_getI C fl_R_137 d_R_kindOf_48 rfl ?_
          refine r_if_le (tgt := 58) C d_R_kindOf_51 (by decide) (fun q51 => ?_) (fun q51 => ?_)
          · refine r_iconst C d_R_kindOf_58 (by decide) ?_
            exact r_iret C d_R_kindOf_59 (fun _ => ⟨vi_e (by have := rdI_01 (rdR h a.toNat); unfold kdS; (repeat' split) <;> omega), rfl⟩) (by decide) (fun _ => ⟨rfl, rfl, rfl⟩)
          · refine r_iconst C d_R_kindOf_54 (by decide) ?_
            refine r_goto (tgt := 59) C d_R_kindOf_55 (by decide) ?_
            exact r_iret C d_R_kindOf_59 (fun _ => ⟨vi_e (by have := rdI_01 (rdR h a.toNat); unfold kdS; (repeat' split) <;> omega), rfl⟩) (by decide) (fun _ => ⟨rfl, rfl, rfl⟩)
        · refine r_iconst C d_R_kindOf_43 (by decide) ?_
          refine r_goto (tgt := 59) C d_R_kindOf_44 (by decide) ?_
          exact r_iret C d_R_kindOf_59 (fun _ => ⟨vi_e (by have := rdI_01 (rdR h a.toNat); unfold kdS; (repeat' split) <;> omega), rfl⟩) (by decide) (fun _ => ⟨rfl, rfl, rfl⟩)
      · refine r_aload_n (i0 := 0) C d_R_kindOf_26 rfl rfl ?_
        refine r_getI C fl_R_134 d_R_kindOf_27 rfl ?_
        refine r_if_le (tgt := 37) C d_R_kindOf_30 (by decide) (fun q30 => ?_) (fun q30 => ?_)
        · refine r_iconst C d_R_kindOf_37 (by decide) ?_
          refine r_istore_n (i0 := 2) C d_R_kindOf_38 rfl (by decide) ?_
          refine r_iload_n (i0 := 2) C d_R_kindOf_39 rfl rfl ?_
          refine r_if_eq (tgt := 47) C d_R_kindOf_40 (by decide) (fun q40 => ?_) (fun q40 => ?_)
          · refine r_aload_n (i0 := 0) C d_R_kindOf_47 rfl rfl ?_
            refine r_getI C fl_R_137 d_R_kindOf_48 rfl ?_
            refine r_if_le (tgt := 58) C d_R_kindOf_51 (by decide) (fun q51 => ?_) (fun q51 => ?_)
            · refine r_iconst C d_R_kindOf_58 (by decide) ?_
              exact r_iret C d_R_kindOf_59 (fun _ => ⟨vi_e (by have := rdI_01 (rdR h a.toNat); unfold kdS; (repeat' split) <;> omega), rfl⟩) (by decide) (fun _ => ⟨rfl, rfl, rfl⟩)
            · refine r_iconst C d_R_kindOf_54 (by decide) ?_
              refine r_goto (tgt := 59) C d_R_kindOf_55 (by decide) ?_
              exact r_iret C d_R_kindOf_59 (fun _ => ⟨vi_e (by have := rdI_01 (rdR h a.toNat); unfold kdS; (repeat' split) <;> omega), rfl⟩) (by decide) (fun _ => ⟨rfl, rfl, rfl⟩)
          · refine r_iconst C d_R_kindOf_43 (by decide) ?_
            refine r_goto (tgt := 59) C d_R_kindOf_44 (by decide) ?_
            exact r_iret C d_R_kindOf_59 (fun _ => ⟨vi_e (by have := rdI_01 (rdR h a.toNat); unfold kdS; (repeat' split) <;> omega), rfl⟩) (by decide) (fun _ => ⟨rfl, rfl, rfl⟩)
        · refine r_iconst C d_R_kindOf_33 (by decide) ?_
          refine r_goto (tgt := 38) C d_R_kindOf_34 (by decide) ?_
          refine r_istore_n (i0 := 2) C d_R_kindOf_38 rfl (by decide) ?_
          refine r_iload_n (i0 := 2) C d_R_kindOf_39 rfl rfl ?_
          refine r_if_eq (tgt := 47) C d_R_kindOf_40 (by decide) (fun q40 => ?_) (fun q40 => ?_)
          · refine r_aload_n (i0 := 0) C d_R_kindOf_47 rfl rfl ?_
            refine r_getI C fl_R_137 d_R_kindOf_48 rfl ?_
            refine r_if_le (tgt := 58) C d_R_kindOf_51 (by decide) (fun q51 => ?_) (fun q51 => ?_)
            · refine r_iconst C d_R_kindOf_58 (by decide) ?_
              exact r_iret C d_R_kindOf_59 (fun _ => ⟨vi_e (by have := rdI_01 (rdR h a.toNat); unfold kdS; (repeat' split) <;> omega), rfl⟩) (by decide) (fun _ => ⟨rfl, rfl, rfl⟩)
            · refine r_iconst C d_R_kindOf_54 (by decide) ?_
              refine r_goto (tgt := 59) C d_R_kindOf_55 (by decide) ?_
              exact r_iret C d_R_kindOf_59 (fun _ => ⟨vi_e (by have := rdI_01 (rdR h a.toNat); unfold kdS; (repeat' split) <;> omega), rfl⟩) (by decide) (fun _ => ⟨rfl, rfl, rfl⟩)
          · refine r_iconst C d_R_kindOf_43 (by decide) ?_
            refine r_goto (tgt := 59) C d_R_kindOf_44 (by decide) ?_
            exact r_iret C d_R_kindOf_59 (fun _ => ⟨vi_e (by have := rdI_01 (rdR h a.toNat); unfold kdS; (repeat' split) <;> omega), rfl⟩) (by decide) (fun _ => ⟨rfl, rfl, rfl⟩)
  · refine r_iconst C d_R_kindOf_8 (by decide) ?_
    exact r_iret C d_R_kindOf_9 (fun _ => ⟨vi_e (by have := rdI_01 (rdR h a.toNat); unfold kdS; (repeat' split) <;> omega), rfl⟩) (by decide) (fun _ => ⟨rfl, rfl, rfl⟩)
theorem AW.heq {x : MX} {w : XW} {nL : Nat} {cl : Bool} {cells slots : Nat} {Q : State → Prop} {pc : Nat} {lv : List (Nat × AV)} {st : List AV} {h h1 : AH} (e : h = h1) (k : AW x w nL cl cells slots Q pc lv st h1) : AW x w nL cl cells slots Q pc lv st h := e ▸ k
set_option maxHeartbeats 1000000 in
theorem c_R_look {l : Launch} (hl : l.stackTraces = false) {w : XW} {h : AH} (hc : 0 ≤ h 40 0 1 ∧ h 40 0 1 ≤ 6) (hF : FIr (h 40 0 1).toNat h) : AM l y_R_look (wsM y_R_look b_R_look 9 none []) false (rmV 3 0) w [vO 40 0] h (RetP none (fun h' => h' = RK h (h 40 0 1).toNat (tdV (h 40 0 1).toNat (rAr h) (rFc h) (rKn h) (rRd h)) (ruV (h 40 0 1).toNat (rFc h) (rRd h)) (raV (h 40 0 1).toNat (rAr h) (rRd h)) (rcV (h 40 0 1).toNat (rRd h)) (plV (h 40 0 1).toNat (rKn h) (rRd h)) (puV (h 40 0 1).toNat (rFc h) (rKn h) (rRd h)) (beV (h 40 0 1).toNat (rAr h) (rFc h) (rKn h) (rRd h)))) := by
  refine AM.of hl (by decide +kernel) (Nat.le_of_ble_eq_true rfl) fun x hx C _ => ?_
  have loop2 : ∀ (m : Nat) (i : Int), 0 ≤ i → i ≤ h 40 0 1 → (h 40 0 1 - i).toNat = m → AW x w 9 false 0 0 (AQ x w false 0 0 (RetP none (fun h' => h' = RK h (h 40 0 1).toNat (tdV (h 40 0 1).toNat (rAr h) (rFc h) (rKn h) (rRd h)) (ruV (h 40 0 1).toNat (rFc h) (rRd h)) (raV (h 40 0 1).toNat (rAr h) (rRd h)) (rcV (h 40 0 1).toNat (rRd h)) (plV (h 40 0 1).toNat (rKn h) (rRd h)) (puV (h 40 0 1).toNat (rFc h) (rKn h) (rRd h)) (beV (h 40 0 1).toNat (rAr h) (rFc h) (rKn h) (rRd h))))) 200 [(5, vI i), (0, vO 40 0), (1, vL (onV (h 40 0 1).toNat (rFc h) (rKn h) (rRd h))), (3, vL (twV (h 40 0 1).toNat (rAr h) (rRd h)))] [] (RK h i.toNat (tdV (h 40 0 1).toNat (rAr h) (rFc h) (rKn h) (rRd h)) (ruV (h 40 0 1).toNat (rFc h) (rRd h)) (raV (h 40 0 1).toNat (rAr h) (rRd h)) (rcV (h 40 0 1).toNat (rRd h)) (plV (h 40 0 1).toNat (rKn h) (rRd h)) (puV (h 40 0 1).toNat (rFc h) (rKn h) (rRd h)) (beV (h 40 0 1).toNat (rAr h) (rFc h) (rKn h) (rRd h))) := by
    intro m
    induction m using Nat.strongRecOn with
    | _ m ih =>
    intro i hi0 hi1 hm
    have join293 : i < h 40 0 1 → ∀ k v : Int, k = (kdW (h 40 0 1).toNat (rFc h) (rKn h) (rRd h)) i.toNat → v = vS k (mU (h 43 0 i.toNat) (rdR h i.toNat)) (h 47 0 i.toNat) (h 41 0 i.toNat) (puV (h 40 0 1).toNat (rFc h) (rKn h) (rRd h)) (ruV (h 40 0 1).toNat (rFc h) (rRd h)) (beV (h 40 0 1).toNat (rAr h) (rFc h) (rKn h) (rRd h)) (onV (h 40 0 1).toNat (rFc h) (rKn h) (rRd h)) (twV (h 40 0 1).toNat (rAr h) (rRd h)) → AW x w 9 false 0 0 (AQ x w false 0 0 (RetP none (fun h' => h' = RK h (h 40 0 1).toNat (tdV (h 40 0 1).toNat (rAr h) (rFc h) (rKn h) (rRd h)) (ruV (h 40 0 1).toNat (rFc h) (rRd h)) (raV (h 40 0 1).toNat (rAr h) (rRd h)) (rcV (h 40 0 1).toNat (rRd h)) (plV (h 40 0 1).toNat (rKn h) (rRd h)) (puV (h 40 0 1).toNat (rFc h) (rKn h) (rRd h)) (beV (h 40 0 1).toNat (rAr h) (rFc h) (rKn h) (rRd h))))) 293 [(7, vL v), (6, vI k), (5, vI i), (0, vO 40 0), (1, vL (onV (h 40 0 1).toNat (rFc h) (rKn h) (rRd h))), (3, vL (twV (h 40 0 1).toNat (rAr h) (rRd h)))] [] (RK h i.toNat (tdV (h 40 0 1).toNat (rAr h) (rFc h) (rKn h) (rRd h)) (ruV (h 40 0 1).toNat (rFc h) (rRd h)) (raV (h 40 0 1).toNat (rAr h) (rRd h)) (rcV (h 40 0 1).toNat (rRd h)) (plV (h 40 0 1).toNat (rKn h) (rRd h)) (puV (h 40 0 1).toNat (rFc h) (rKn h) (rRd h)) (beV (h 40 0 1).toNat (rAr h) (rFc h) (rKn h) (rRd h))) := by
      intro hlt k v hk hv
      refine r_aload_n (i0 := 0) C d_R_look_293 rfl rfl ?_
      refine r_getO C fl_R_65 d_R_look_294 rfl rfl (fun hi => hi) ?_
      refine r_iload C d_R_look_297 rfl ?_
      refine r_iload C d_R_look_299 rfl ?_
      refine r_if_eq (tgt := 329) C d_R_look_301 (by decide) (fun q301 => ?_) (fun q301 => ?_)
      · refine r_lload C d_R_look_329 rfl ?_
        refine r_lastore (ln := 6) C d_R_look_331 rfl (fun _ => rfl) rfl (by omega) ?_
        refine r_iinc C d_R_look_332 rfl (by decide) (by omega) ?_
        refine r_goto (tgt := 200) C d_R_look_335 (by decide) ?_
        have e2 : (i + 1).toNat = i.toNat + 1 := by omega
        have ee := ih (m - 1) (by omega) (i + 1) (by omega) (by omega) (by omega)
        rw [e2, ← RK_step] at ee
        refine AW.lvs [(5, vI (i + 1)), (0, vO 40 0), (1, vL (onV (h 40 0 1).toNat (rFc h) (rKn h) (rRd h))), (3, vL (twV (h 40 0 1).toNat (rAr h) (rRd h)))] ⟨rfl, rfl, rfl, rfl, trivial⟩ ?_
        refine AW.heq ?_ ee
        congr 1
        show _ = tdS ((kdW (h 40 0 1).toNat (rFc h) (rKn h) (rRd h)) i.toNat) (mU (h 43 0 i.toNat) (rdR h i.toNat)) (h 47 0 i.toNat) (h 41 0 i.toNat) (puV (h 40 0 1).toNat (rFc h) (rKn h) (rRd h)) (ruV (h 40 0 1).toNat (rFc h) (rRd h)) (beV (h 40 0 1).toNat (rAr h) (rFc h) (rKn h) (rRd h)) (onV (h 40 0 1).toNat (rFc h) (rKn h) (rRd h)) (twV (h 40 0 1).toNat (rAr h) (rRd h))
        unfold tdS
        rw [← hk, ← hv]
        first | (rw [if_pos (by omega)]; done) | (rw [if_neg (by omega)]; done)
      · refine r_lload C d_R_look_304 rfl ?_
        refine r_ldc2 C d_R_look_306 k_R_157 (by decide) ?_
        refine r_aload_n (i0 := 0) C d_R_look_309 rfl rfl ?_
        refine r_getL C fl_R_150 d_R_look_310 rfl ?_
        simp only [hset_fr, hset_tag, hset_slot, hset_same, RK_f41, RK_f43, RK_f44, RK_f47, RK_rd, RK_g1, RK_g25, RK_g26, RK_g27, RK_g28, RK_g29, RK_g30, ne_eq, not_false_eq_true, reduceCtorEq, Nat.reduceEqDiff]
        refine r_lmul C d_R_look_313 (by have a1 := ruV_bd (hF.sub (show (h 40 0 1).toNat ≤ (h 40 0 1).toNat by omega)) (show (h 40 0 1).toNat ≤ 6 by omega); have a2 := puV_bd (hF.sub (show (h 40 0 1).toNat ≤ (h 40 0 1).toNat by omega)) (show (h 40 0 1).toNat ≤ 6 by omega); have a3 := beV_bd (hF.sub (show (h 40 0 1).toNat ≤ (h 40 0 1).toNat by omega)) (show (h 40 0 1).toNat ≤ 6 by omega); have a4 := onV_bd (hF.sub (show (h 40 0 1).toNat ≤ (h 40 0 1).toNat by omega)) (show (h 40 0 1).toNat ≤ 6 by omega); have a5 := twV_bd (hF.sub (show (h 40 0 1).toNat ≤ (h 40 0 1).toNat by omega)) (show (h 40 0 1).toNat ≤ 6 by omega); omega) ?_
        refine r_lcmp_le (tgt := 329) C d_R_look_314 d_R_look_315 (by decide) (fun q314 => ?_) (fun q314 => ?_)
        · refine r_lload C d_R_look_329 rfl ?_
          refine r_lastore (ln := 6) C d_R_look_331 rfl (fun _ => rfl) rfl (by omega) ?_
          refine r_iinc C d_R_look_332 rfl (by decide) (by omega) ?_
          refine r_goto (tgt := 200) C d_R_look_335 (by decide) ?_
          have e2 : (i + 1).toNat = i.toNat + 1 := by omega
          have ee := ih (m - 1) (by omega) (i + 1) (by omega) (by omega) (by omega)
          rw [e2, ← RK_step] at ee
          refine AW.lvs [(5, vI (i + 1)), (0, vO 40 0), (1, vL (onV (h 40 0 1).toNat (rFc h) (rKn h) (rRd h))), (3, vL (twV (h 40 0 1).toNat (rAr h) (rRd h)))] ⟨rfl, rfl, rfl, rfl, trivial⟩ ?_
          refine AW.heq ?_ ee
          congr 1
          show _ = tdS ((kdW (h 40 0 1).toNat (rFc h) (rKn h) (rRd h)) i.toNat) (mU (h 43 0 i.toNat) (rdR h i.toNat)) (h 47 0 i.toNat) (h 41 0 i.toNat) (puV (h 40 0 1).toNat (rFc h) (rKn h) (rRd h)) (ruV (h 40 0 1).toNat (rFc h) (rRd h)) (beV (h 40 0 1).toNat (rAr h) (rFc h) (rKn h) (rRd h)) (onV (h 40 0 1).toNat (rFc h) (rKn h) (rRd h)) (twV (h 40 0 1).toNat (rAr h) (rRd h))
          unfold tdS
          rw [← hk, ← hv]
          first | (rw [if_pos (by omega)]; done) | (rw [if_neg (by omega)]; done)
        · refine r_ldc2 C d_R_look_318 k_R_157 (by decide) ?_
          refine r_aload_n (i0 := 0) C d_R_look_321 rfl rfl ?_
          refine r_getL C fl_R_150 d_R_look_322 rfl ?_
          simp only [hset_fr, hset_tag, hset_slot, hset_same, RK_f41, RK_f43, RK_f44, RK_f47, RK_rd, RK_g1, RK_g25, RK_g26, RK_g27, RK_g28, RK_g29, RK_g30, ne_eq, not_false_eq_true, reduceCtorEq, Nat.reduceEqDiff]
          refine r_lmul C d_R_look_325 (by have a1 := ruV_bd (hF.sub (show (h 40 0 1).toNat ≤ (h 40 0 1).toNat by omega)) (show (h 40 0 1).toNat ≤ 6 by omega); have a2 := puV_bd (hF.sub (show (h 40 0 1).toNat ≤ (h 40 0 1).toNat by omega)) (show (h 40 0 1).toNat ≤ 6 by omega); have a3 := beV_bd (hF.sub (show (h 40 0 1).toNat ≤ (h 40 0 1).toNat by omega)) (show (h 40 0 1).toNat ≤ 6 by omega); have a4 := onV_bd (hF.sub (show (h 40 0 1).toNat ≤ (h 40 0 1).toNat by omega)) (show (h 40 0 1).toNat ≤ 6 by omega); have a5 := twV_bd (hF.sub (show (h 40 0 1).toNat ≤ (h 40 0 1).toNat by omega)) (show (h 40 0 1).toNat ≤ 6 by omega); omega) ?_
          refine r_goto (tgt := 331) C d_R_look_326 (by decide) ?_
          refine r_lastore (ln := 6) C d_R_look_331 rfl (fun _ => rfl) rfl (by omega) ?_
          refine r_iinc C d_R_look_332 rfl (by decide) (by omega) ?_
          refine r_goto (tgt := 200) C d_R_look_335 (by decide) ?_
          have e2 : (i + 1).toNat = i.toNat + 1 := by omega
          have ee := ih (m - 1) (by omega) (i + 1) (by omega) (by omega) (by omega)
          rw [e2, ← RK_step] at ee
          refine AW.lvs [(5, vI (i + 1)), (0, vO 40 0), (1, vL (onV (h 40 0 1).toNat (rFc h) (rKn h) (rRd h))), (3, vL (twV (h 40 0 1).toNat (rAr h) (rRd h)))] ⟨rfl, rfl, rfl, rfl, trivial⟩ ?_
          refine AW.heq ?_ ee
          congr 1
          show _ = tdS ((kdW (h 40 0 1).toNat (rFc h) (rKn h) (rRd h)) i.toNat) (mU (h 43 0 i.toNat) (rdR h i.toNat)) (h 47 0 i.toNat) (h 41 0 i.toNat) (puV (h 40 0 1).toNat (rFc h) (rKn h) (rRd h)) (ruV (h 40 0 1).toNat (rFc h) (rRd h)) (beV (h 40 0 1).toNat (rAr h) (rFc h) (rKn h) (rRd h)) (onV (h 40 0 1).toNat (rFc h) (rKn h) (rRd h)) (twV (h 40 0 1).toNat (rAr h) (rRd h))
          unfold tdS
          rw [← hk, ← hv]
          first | (rw [if_pos (by omega)]; done) | (rw [if_neg (by omega)]; done)
    refine r_iload C d_R_look_200 rfl ?_
    refine r_aload_n (i0 := 0) C d_R_look_202 rfl rfl ?_
    refine r_getI C fl_R_88 d_R_look_203 rfl ?_
    simp only [hset_fr, hset_tag, hset_slot, hset_same, RK_f41, RK_f43, RK_f44, RK_f47, RK_rd, RK_g1, RK_g25, RK_g26, RK_g27, RK_g28, RK_g29, RK_g30, ne_eq, not_false_eq_true, reduceCtorEq, Nat.reduceEqDiff]
    refine r_icmp_ge (tgt := 338) C d_R_look_206 (by decide) (fun q206 => ?_) (fun q206 => ?_)
    · have e : i.toNat = (h 40 0 1).toNat := (by omega)
      rw [e]
      exact r_vret C d_R_look_338 (⟨rfl, rfl⟩) (by decide) (fun q => nomatch q)
    · refine r_aload_n (i0 := 0) C d_R_look_209 rfl rfl ?_
      refine r_iload C d_R_look_210 rfl ?_
      refine r_callVp C cl_R_154 im_R_kindOf rfl rfl (c_R_kindOf hx (by omega) (by simp only [RK_rd]; exact (hF i.toNat (by omega)).2.2.2) (by simp only [RK_f47]; exact (hF i.toNat (by omega)).2.2.1)) rfl rfl d_R_look_212 (by decide) (Nat.le_of_ble_eq_true rfl) ?_
      simp only [hset_fr, hset_tag, hset_slot, hset_same, RK_f41, RK_f43, RK_f44, RK_f47, RK_rd, RK_g1, RK_g25, RK_g26, RK_g27, RK_g28, RK_g29, RK_g30, ne_eq, not_false_eq_true, reduceCtorEq, Nat.reduceEqDiff]
      rw [show kdS (rdI (rdR h i.toNat)) (h 47 0 i.toNat) (puV (h 40 0 1).toNat (rFc h) (rKn h) (rRd h)) (plV (h 40 0 1).toNat (rKn h) (rRd h)) (rcV (h 40 0 1).toNat (rRd h)) = (kdW (h 40 0 1).toNat (rFc h) (rKn h) (rRd h)) i.toNat from rfl]
      refine r_istore C d_R_look_215 (by decide) ?_
      refine r_lconst C 0 d_R_look_217 (by decide) (by decide) ?_
      refine r_lstore C d_R_look_218 (by decide) ?_
      refine r_iload C d_R_look_220 rfl ?_
      refine r_if_ne (tgt := 242) C d_R_look_222 (by decide) (fun q222 => ?_) (fun q222 => ?_)
      · refine r_iload C d_R_look_242 rfl ?_
        refine r_iconst C d_R_look_244 (by decide) ?_
        refine r_icmp_ne (tgt := 269) C d_R_look_245 (by decide) (fun q245 => ?_) (fun q245 => ?_)
        · refine r_iload C d_R_look_269 rfl ?_
          refine r_iconst C d_R_look_271 (by decide) ?_
          refine r_icmp_ne (tgt := 293) C d_R_look_272 (by decide) (fun q272 => ?_) (fun q272 => ?_)
          · refine AW.lvs [(7, vL _), (6, vI _), (5, vI i), (0, vO 40 0), (1, vL (onV (h 40 0 1).toNat (rFc h) (rKn h) (rRd h))), (3, vL (twV (h 40 0 1).toNat (rAr h) (rRd h)))] ⟨rfl, rfl, rfl, rfl, rfl, rfl, trivial⟩ (join293 (by omega) _ _ rfl ?_)
            unfold vS
            first | (rw [if_pos (by omega)]; done) | (rw [if_neg (by omega), if_pos (by omega)]; done) | (rw [if_neg (by omega), if_neg (by omega), if_pos (by omega)]; done) | (rw [if_neg (by omega), if_neg (by omega), if_neg (by omega)]; done)
          · refine r_lload_n (i0 := 1) C d_R_look_275 rfl rfl ?_
            refine r_aload_n (i0 := 0) C d_R_look_276 rfl rfl ?_
            refine r_getO C fl_R_7 d_R_look_277 rfl rfl (fun hi => hi) ?_
            refine r_iload C d_R_look_280 rfl ?_
            refine r_iaload (ln := 6) C d_R_look_282 rfl (fun _ => rfl) rfl (by omega) ?_
            simp only [hset_fr, hset_tag, hset_slot, hset_same, RK_f41, RK_f43, RK_f44, RK_f47, RK_rd, RK_g1, RK_g25, RK_g26, RK_g27, RK_g28, RK_g29, RK_g30, ne_eq, not_false_eq_true, reduceCtorEq, Nat.reduceEqDiff]
            refine r_i2l C d_R_look_283 ?_
            refine r_lmul C d_R_look_284 (by have a1 := ruV_bd (hF.sub (show (h 40 0 1).toNat ≤ (h 40 0 1).toNat by omega)) (show (h 40 0 1).toNat ≤ 6 by omega); have a2 := puV_bd (hF.sub (show (h 40 0 1).toNat ≤ (h 40 0 1).toNat by omega)) (show (h 40 0 1).toNat ≤ 6 by omega); have a3 := beV_bd (hF.sub (show (h 40 0 1).toNat ≤ (h 40 0 1).toNat by omega)) (show (h 40 0 1).toNat ≤ 6 by omega); have a4 := onV_bd (hF.sub (show (h 40 0 1).toNat ≤ (h 40 0 1).toNat by omega)) (show (h 40 0 1).toNat ≤ 6 by omega); have a5 := twV_bd (hF.sub (show (h 40 0 1).toNat ≤ (h 40 0 1).toNat by omega)) (show (h 40 0 1).toNat ≤ 6 by omega); have f0 := hF i.toNat (by omega); dsimp only [rAr, rFc, rKn, rRd] at f0; have p1 := mulB (A := 1200) (B := 300) (a := (onV (h 40 0 1).toNat (rFc h) (rKn h) (rRd h))) (b := h 41 0 i.toNat) (by omega) (by omega); have p2 := mulB (A := 360000) (B := 1200) (a := (onV (h 40 0 1).toNat (rFc h) (rKn h) (rRd h)) * h 41 0 i.toNat) (b := (ruV (h 40 0 1).toNat (rFc h) (rRd h))) (by omega) (by omega); omega) ?_
            refine r_aload_n (i0 := 0) C d_R_look_285 rfl rfl ?_
            refine r_getI C fl_R_140 d_R_look_286 rfl ?_
            simp only [hset_fr, hset_tag, hset_slot, hset_same, RK_f41, RK_f43, RK_f44, RK_f47, RK_rd, RK_g1, RK_g25, RK_g26, RK_g27, RK_g28, RK_g29, RK_g30, ne_eq, not_false_eq_true, reduceCtorEq, Nat.reduceEqDiff]
            refine r_i2l C d_R_look_289 ?_
            refine r_lmul C d_R_look_290 (by have a1 := ruV_bd (hF.sub (show (h 40 0 1).toNat ≤ (h 40 0 1).toNat by omega)) (show (h 40 0 1).toNat ≤ 6 by omega); have a2 := puV_bd (hF.sub (show (h 40 0 1).toNat ≤ (h 40 0 1).toNat by omega)) (show (h 40 0 1).toNat ≤ 6 by omega); have a3 := beV_bd (hF.sub (show (h 40 0 1).toNat ≤ (h 40 0 1).toNat by omega)) (show (h 40 0 1).toNat ≤ 6 by omega); have a4 := onV_bd (hF.sub (show (h 40 0 1).toNat ≤ (h 40 0 1).toNat by omega)) (show (h 40 0 1).toNat ≤ 6 by omega); have a5 := twV_bd (hF.sub (show (h 40 0 1).toNat ≤ (h 40 0 1).toNat by omega)) (show (h 40 0 1).toNat ≤ 6 by omega); have f0 := hF i.toNat (by omega); dsimp only [rAr, rFc, rKn, rRd] at f0; have p1 := mulB (A := 1200) (B := 300) (a := (onV (h 40 0 1).toNat (rFc h) (rKn h) (rRd h))) (b := h 41 0 i.toNat) (by omega) (by omega); have p2 := mulB (A := 360000) (B := 1200) (a := (onV (h 40 0 1).toNat (rFc h) (rKn h) (rRd h)) * h 41 0 i.toNat) (b := (ruV (h 40 0 1).toNat (rFc h) (rRd h))) (by omega) (by omega); omega) ?_
            refine r_lstore C d_R_look_291 (by decide) ?_
            refine AW.lvs [(7, vL _), (6, vI _), (5, vI i), (0, vO 40 0), (1, vL (onV (h 40 0 1).toNat (rFc h) (rKn h) (rRd h))), (3, vL (twV (h 40 0 1).toNat (rAr h) (rRd h)))] ⟨rfl, rfl, rfl, rfl, rfl, rfl, trivial⟩ (join293 (by omega) _ _ rfl ?_)
            unfold vS
            first | (rw [if_pos (by omega)]; done) | (rw [if_neg (by omega), if_pos (by omega)]; done) | (rw [if_neg (by omega), if_neg (by omega), if_pos (by omega)]; done) | (rw [if_neg (by omega), if_neg (by omega), if_neg (by omega)]; done)
        · refine r_lload_n (i0 := 3) C d_R_look_248 rfl rfl ?_
          refine r_aload_n (i0 := 0) C d_R_look_249 rfl rfl ?_
          refine r_getO C fl_R_28 d_R_look_250 rfl rfl (fun hi => hi) ?_
          refine r_iload C d_R_look_253 rfl ?_
          refine r_iaload (ln := 6) C d_R_look_255 rfl (fun _ => rfl) rfl (by omega) ?_
          simp only [hset_fr, hset_tag, hset_slot, hset_same, RK_f41, RK_f43, RK_f44, RK_f47, RK_rd, RK_g1, RK_g25, RK_g26, RK_g27, RK_g28, RK_g29, RK_g30, ne_eq, not_false_eq_true, reduceCtorEq, Nat.reduceEqDiff]
          refine r_i2l C d_R_look_256 ?_
          refine r_lmul C d_R_look_257 (by have a1 := ruV_bd (hF.sub (show (h 40 0 1).toNat ≤ (h 40 0 1).toNat by omega)) (show (h 40 0 1).toNat ≤ 6 by omega); have a2 := puV_bd (hF.sub (show (h 40 0 1).toNat ≤ (h 40 0 1).toNat by omega)) (show (h 40 0 1).toNat ≤ 6 by omega); have a3 := beV_bd (hF.sub (show (h 40 0 1).toNat ≤ (h 40 0 1).toNat by omega)) (show (h 40 0 1).toNat ≤ 6 by omega); have a4 := onV_bd (hF.sub (show (h 40 0 1).toNat ≤ (h 40 0 1).toNat by omega)) (show (h 40 0 1).toNat ≤ 6 by omega); have a5 := twV_bd (hF.sub (show (h 40 0 1).toNat ≤ (h 40 0 1).toNat by omega)) (show (h 40 0 1).toNat ≤ 6 by omega); have f0 := hF i.toNat (by omega); dsimp only [rAr, rFc, rKn, rRd] at f0; have p1 := mulB (A := 300) (B := 300) (a := (twV (h 40 0 1).toNat (rAr h) (rRd h))) (b := h 47 0 i.toNat) (by omega) (by omega); have p2 := mulB (A := 90000) (B := 1200) (a := (twV (h 40 0 1).toNat (rAr h) (rRd h)) * h 47 0 i.toNat) (b := (puV (h 40 0 1).toNat (rFc h) (rKn h) (rRd h))) (by omega) (by omega); omega) ?_
          refine r_aload_n (i0 := 0) C d_R_look_258 rfl rfl ?_
          refine r_getI C fl_R_134 d_R_look_259 rfl ?_
          simp only [hset_fr, hset_tag, hset_slot, hset_same, RK_f41, RK_f43, RK_f44, RK_f47, RK_rd, RK_g1, RK_g25, RK_g26, RK_g27, RK_g28, RK_g29, RK_g30, ne_eq, not_false_eq_true, reduceCtorEq, Nat.reduceEqDiff]
          refine r_i2l C d_R_look_262 ?_
          refine r_lmul C d_R_look_263 (by have a1 := ruV_bd (hF.sub (show (h 40 0 1).toNat ≤ (h 40 0 1).toNat by omega)) (show (h 40 0 1).toNat ≤ 6 by omega); have a2 := puV_bd (hF.sub (show (h 40 0 1).toNat ≤ (h 40 0 1).toNat by omega)) (show (h 40 0 1).toNat ≤ 6 by omega); have a3 := beV_bd (hF.sub (show (h 40 0 1).toNat ≤ (h 40 0 1).toNat by omega)) (show (h 40 0 1).toNat ≤ 6 by omega); have a4 := onV_bd (hF.sub (show (h 40 0 1).toNat ≤ (h 40 0 1).toNat by omega)) (show (h 40 0 1).toNat ≤ 6 by omega); have a5 := twV_bd (hF.sub (show (h 40 0 1).toNat ≤ (h 40 0 1).toNat by omega)) (show (h 40 0 1).toNat ≤ 6 by omega); have f0 := hF i.toNat (by omega); dsimp only [rAr, rFc, rKn, rRd] at f0; have p1 := mulB (A := 300) (B := 300) (a := (twV (h 40 0 1).toNat (rAr h) (rRd h))) (b := h 47 0 i.toNat) (by omega) (by omega); have p2 := mulB (A := 90000) (B := 1200) (a := (twV (h 40 0 1).toNat (rAr h) (rRd h)) * h 47 0 i.toNat) (b := (puV (h 40 0 1).toNat (rFc h) (rKn h) (rRd h))) (by omega) (by omega); omega) ?_
          refine r_lstore C d_R_look_264 (by decide) ?_
          refine r_goto (tgt := 293) C d_R_look_266 (by decide) ?_
          refine AW.lvs [(7, vL _), (6, vI _), (5, vI i), (0, vO 40 0), (1, vL (onV (h 40 0 1).toNat (rFc h) (rKn h) (rRd h))), (3, vL (twV (h 40 0 1).toNat (rAr h) (rRd h)))] ⟨rfl, rfl, rfl, rfl, rfl, rfl, trivial⟩ (join293 (by omega) _ _ rfl ?_)
          unfold vS
          first | (rw [if_pos (by omega)]; done) | (rw [if_neg (by omega), if_pos (by omega)]; done) | (rw [if_neg (by omega), if_neg (by omega), if_pos (by omega)]; done) | (rw [if_neg (by omega), if_neg (by omega), if_neg (by omega)]; done)
      · refine r_aload_n (i0 := 0) C d_R_look_225 rfl rfl ?_
        refine r_iload C d_R_look_226 rfl ?_
        refine r_callVp C cl_R_146 im_R_measured rfl rfl (c_R_measured hx (by omega) (by simp only [RK_rd]; exact (hF i.toNat (by omega)).2.2.2) (by simp only [RK_f43]; exact (hF i.toNat (by omega)).2.1)) rfl rfl d_R_look_228 (by decide) (Nat.le_of_ble_eq_true rfl) ?_
        simp only [hset_fr, hset_tag, hset_slot, hset_same, RK_f41, RK_f43, RK_f44, RK_f47, RK_rd, RK_g1, RK_g25, RK_g26, RK_g27, RK_g28, RK_g29, RK_g30, ne_eq, not_false_eq_true, reduceCtorEq, Nat.reduceEqDiff]
        refine r_i2l C d_R_look_231 ?_
        refine r_aload_n (i0 := 0) C d_R_look_232 rfl rfl ?_
        refine r_getL C fl_R_150 d_R_look_233 rfl ?_
        simp only [hset_fr, hset_tag, hset_slot, hset_same, RK_f41, RK_f43, RK_f44, RK_f47, RK_rd, RK_g1, RK_g25, RK_g26, RK_g27, RK_g28, RK_g29, RK_g30, ne_eq, not_false_eq_true, reduceCtorEq, Nat.reduceEqDiff]
        refine r_lmul C d_R_look_236 (by have a1 := ruV_bd (hF.sub (show (h 40 0 1).toNat ≤ (h 40 0 1).toNat by omega)) (show (h 40 0 1).toNat ≤ 6 by omega); have a2 := puV_bd (hF.sub (show (h 40 0 1).toNat ≤ (h 40 0 1).toNat by omega)) (show (h 40 0 1).toNat ≤ 6 by omega); have a3 := beV_bd (hF.sub (show (h 40 0 1).toNat ≤ (h 40 0 1).toNat by omega)) (show (h 40 0 1).toNat ≤ 6 by omega); have a4 := onV_bd (hF.sub (show (h 40 0 1).toNat ≤ (h 40 0 1).toNat by omega)) (show (h 40 0 1).toNat ≤ 6 by omega); have a5 := twV_bd (hF.sub (show (h 40 0 1).toNat ≤ (h 40 0 1).toNat by omega)) (show (h 40 0 1).toNat ≤ 6 by omega); have f0 := hF i.toNat (by omega); dsimp only [rAr, rFc, rKn, rRd] at f0; have u1 := mulB (A := 100) (B := 2) (a := rdR h i.toNat 12 - rdR h i.toNat 0) (b := h 43 0 i.toNat) (by have := f0.2.2.2 0 (by omega); have := f0.2.2.2 12 (by omega); omega) (by omega); have u2 := mulB (A := 200) (B := 360000) (a := mU (h 43 0 i.toNat) (rdR h i.toNat)) (b := (beV (h 40 0 1).toNat (rAr h) (rFc h) (rKn h) (rRd h))) (by unfold mU; omega) (by omega); omega) ?_
        refine r_lstore C d_R_look_237 (by decide) ?_
        refine r_goto (tgt := 293) C d_R_look_239 (by decide) ?_
        refine AW.lvs [(7, vL _), (6, vI _), (5, vI i), (0, vO 40 0), (1, vL (onV (h 40 0 1).toNat (rFc h) (rKn h) (rRd h))), (3, vL (twV (h 40 0 1).toNat (rAr h) (rRd h)))] ⟨rfl, rfl, rfl, rfl, rfl, rfl, trivial⟩ (join293 (by omega) _ _ rfl ?_)
        unfold vS
        first | (rw [if_pos (by omega)]; done) | (rw [if_neg (by omega), if_pos (by omega)]; done) | (rw [if_neg (by omega), if_neg (by omega), if_pos (by omega)]; done) | (rw [if_neg (by omega), if_neg (by omega), if_neg (by omega)]; done)
  have join189 : ∀ v : Int, v = (twV (h 40 0 1).toNat (rAr h) (rRd h)) → AW x w 9 false 0 0 (AQ x w false 0 0 (RetP none (fun h' => h' = RK h (h 40 0 1).toNat (tdV (h 40 0 1).toNat (rAr h) (rFc h) (rKn h) (rRd h)) (ruV (h 40 0 1).toNat (rFc h) (rRd h)) (raV (h 40 0 1).toNat (rAr h) (rRd h)) (rcV (h 40 0 1).toNat (rRd h)) (plV (h 40 0 1).toNat (rKn h) (rRd h)) (puV (h 40 0 1).toNat (rFc h) (rKn h) (rRd h)) (beV (h 40 0 1).toNat (rAr h) (rFc h) (rKn h) (rRd h))))) 189 [(1, vL (onV (h 40 0 1).toNat (rFc h) (rKn h) (rRd h))), (0, vO 40 0)] [vL v] (RK h 0 (tdV (h 40 0 1).toNat (rAr h) (rFc h) (rKn h) (rRd h)) (ruV (h 40 0 1).toNat (rFc h) (rRd h)) (raV (h 40 0 1).toNat (rAr h) (rRd h)) (rcV (h 40 0 1).toNat (rRd h)) (plV (h 40 0 1).toNat (rKn h) (rRd h)) (puV (h 40 0 1).toNat (rFc h) (rKn h) (rRd h)) (h 40 0 30)) := by
    intro v hv
    subst hv
    refine r_lstore_n (i0 := 3) C d_R_look_189 rfl (by decide) ?_
    refine r_aload_n (i0 := 0) C d_R_look_190 rfl rfl ?_
    refine r_lload_n (i0 := 1) C d_R_look_191 rfl rfl ?_
    refine r_lload_n (i0 := 3) C d_R_look_192 rfl rfl ?_
    refine r_lmul C d_R_look_193 (by have := beV_bd (hF.sub (show (h 40 0 1).toNat ≤ (h 40 0 1).toNat by omega)) (show (h 40 0 1).toNat ≤ 6 by omega); unfold beV at this; omega) ?_
    refine r_putL C pl_R_150 d_R_look_194 rfl ?_
    rw [RK_30, show (onV (h 40 0 1).toNat (rFc h) (rKn h) (rRd h)) * (twV (h 40 0 1).toNat (rAr h) (rRd h)) = (beV (h 40 0 1).toNat (rAr h) (rFc h) (rKn h) (rRd h)) from rfl]
    refine r_iconst C d_R_look_197 (by decide) ?_
    refine r_istore C d_R_look_198 (by decide) ?_
    refine AW.lvs [(5, vI 0), (0, vO 40 0), (1, vL (onV (h 40 0 1).toNat (rFc h) (rKn h) (rRd h))), (3, vL (twV (h 40 0 1).toNat (rAr h) (rRd h)))] ⟨rfl, rfl, rfl, rfl, trivial⟩ ?_
    exact loop2 _ 0 (by omega) (by omega) rfl
  have join172 : ∀ v : Int, v = (onV (h 40 0 1).toNat (rFc h) (rKn h) (rRd h)) → AW x w 9 false 0 0 (AQ x w false 0 0 (RetP none (fun h' => h' = RK h (h 40 0 1).toNat (tdV (h 40 0 1).toNat (rAr h) (rFc h) (rKn h) (rRd h)) (ruV (h 40 0 1).toNat (rFc h) (rRd h)) (raV (h 40 0 1).toNat (rAr h) (rRd h)) (rcV (h 40 0 1).toNat (rRd h)) (plV (h 40 0 1).toNat (rKn h) (rRd h)) (puV (h 40 0 1).toNat (rFc h) (rKn h) (rRd h)) (beV (h 40 0 1).toNat (rAr h) (rFc h) (rKn h) (rRd h))))) 172 [(0, vO 40 0)] [vL v] (RK h 0 (tdV (h 40 0 1).toNat (rAr h) (rFc h) (rKn h) (rRd h)) (ruV (h 40 0 1).toNat (rFc h) (rRd h)) (raV (h 40 0 1).toNat (rAr h) (rRd h)) (rcV (h 40 0 1).toNat (rRd h)) (plV (h 40 0 1).toNat (rKn h) (rRd h)) (puV (h 40 0 1).toNat (rFc h) (rKn h) (rRd h)) (h 40 0 30)) := by
    intro v hv
    subst hv
    refine r_lstore_n (i0 := 1) C d_R_look_172 rfl (by decide) ?_
    refine r_aload_n (i0 := 0) C d_R_look_173 rfl rfl ?_
    refine r_getI C fl_R_137 d_R_look_174 rfl ?_
    simp only [hset_fr, hset_tag, hset_slot, hset_same, RK_f41, RK_f43, RK_f44, RK_f47, RK_rd, RK_g1, RK_g25, RK_g26, RK_g27, RK_g28, RK_g29, RK_g30, ne_eq, not_false_eq_true, reduceCtorEq, Nat.reduceEqDiff]
    refine r_if_le (tgt := 188) C d_R_look_177 (by decide) (fun q177 => ?_) (fun q177 => ?_)
    · refine r_lconst C 1 d_R_look_188 (by decide) (by decide) ?_
      exact join189 _ (by unfold twV; first | (rw [if_pos (by omega)]; done) | (rw [if_neg (by omega)]; done))
    · refine r_aload_n (i0 := 0) C d_R_look_180 rfl rfl ?_
      refine r_getI C fl_R_143 d_R_look_181 rfl ?_
      simp only [hset_fr, hset_tag, hset_slot, hset_same, RK_f41, RK_f43, RK_f44, RK_f47, RK_rd, RK_g1, RK_g25, RK_g26, RK_g27, RK_g28, RK_g29, RK_g30, ne_eq, not_false_eq_true, reduceCtorEq, Nat.reduceEqDiff]
      refine r_i2l C d_R_look_184 ?_
      refine r_goto (tgt := 189) C d_R_look_185 (by decide) ?_
      exact join189 _ (by unfold twV; first | (rw [if_pos (by omega)]; done) | (rw [if_neg (by omega)]; done))
  have tail : AW x w 9 false 0 0 (AQ x w false 0 0 (RetP none (fun h' => h' = RK h (h 40 0 1).toNat (tdV (h 40 0 1).toNat (rAr h) (rFc h) (rKn h) (rRd h)) (ruV (h 40 0 1).toNat (rFc h) (rRd h)) (raV (h 40 0 1).toNat (rAr h) (rRd h)) (rcV (h 40 0 1).toNat (rRd h)) (plV (h 40 0 1).toNat (rKn h) (rRd h)) (puV (h 40 0 1).toNat (rFc h) (rKn h) (rRd h)) (beV (h 40 0 1).toNat (rAr h) (rFc h) (rKn h) (rRd h))))) 149 [(0, vO 40 0)] [] (RK h 0 (tdV (h 40 0 1).toNat (rAr h) (rFc h) (rKn h) (rRd h)) (ruV (h 40 0 1).toNat (rFc h) (rRd h)) (raV (h 40 0 1).toNat (rAr h) (rRd h)) (rcV (h 40 0 1).toNat (rRd h)) (plV (h 40 0 1).toNat (rKn h) (rRd h)) (puV (h 40 0 1).toNat (rFc h) (rKn h) (rRd h)) (h 40 0 30)) := by
    refine r_aload_n (i0 := 0) C d_R_look_149 rfl rfl ?_
    refine r_getI C fl_R_131 d_R_look_150 rfl ?_
    simp only [hset_fr, hset_tag, hset_slot, hset_same, RK_f41, RK_f43, RK_f44, RK_f47, RK_rd, RK_g1, RK_g25, RK_g26, RK_g27, RK_g28, RK_g29, RK_g30, ne_eq, not_false_eq_true, reduceCtorEq, Nat.reduceEqDiff]
    refine r_if_le (tgt := 171) C d_R_look_153 (by decide) (fun q153 => ?_) (fun q153 => ?_)
    · refine r_lconst C 1 d_R_look_171 (by decide) (by decide) ?_
      exact join172 _ (by unfold onV; first | (rw [if_pos (by omega)]; done) | (rw [if_neg (by omega)]; done))
    · refine r_aload_n (i0 := 0) C d_R_look_156 rfl rfl ?_
      refine r_getI C fl_R_134 d_R_look_157 rfl ?_
      simp only [hset_fr, hset_tag, hset_slot, hset_same, RK_f41, RK_f43, RK_f44, RK_f47, RK_rd, RK_g1, RK_g25, RK_g26, RK_g27, RK_g28, RK_g29, RK_g30, ne_eq, not_false_eq_true, reduceCtorEq, Nat.reduceEqDiff]
      refine r_if_le (tgt := 171) C d_R_look_160 (by decide) (fun q160 => ?_) (fun q160 => ?_)
      · refine r_lconst C 1 d_R_look_171 (by decide) (by decide) ?_
        exact join172 _ (by unfold onV; first | (rw [if_pos (by omega)]; done) | (rw [if_neg (by omega)]; done))
      · refine r_aload_n (i0 := 0) C d_R_look_163 rfl rfl ?_
        refine r_getI C fl_R_131 d_R_look_164 rfl ?_
        simp only [hset_fr, hset_tag, hset_slot, hset_same, RK_f41, RK_f43, RK_f44, RK_f47, RK_rd, RK_g1, RK_g25, RK_g26, RK_g27, RK_g28, RK_g29, RK_g30, ne_eq, not_false_eq_true, reduceCtorEq, Nat.reduceEqDiff]
        refine r_i2l C d_R_look_167 ?_
        refine r_goto (tgt := 172) C d_R_look_168 (by decide) ?_
        exact join172 _ (by unfold onV; first | (rw [if_pos (by omega)]; done) | (rw [if_neg (by omega)]; done))
  have loop1 : ∀ (m : Nat) (i A B G D E : Int), 0 ≤ i → i ≤ h 40 0 1 → (h 40 0 1 - i).toNat = m → A = sumF i.toNat (ruG (rFc h) (rRd h)) → B = sumF i.toNat (raG (rAr h) (rRd h)) → G = sumF i.toNat (rcG (rRd h)) → D = sumF i.toNat (plG (rKn h) (rRd h)) → E = sumF i.toNat (puG (rFc h) (rKn h) (rRd h)) → AW x w 9 false 0 0 (AQ x w false 0 0 (RetP none (fun h' => h' = RK h (h 40 0 1).toNat (tdV (h 40 0 1).toNat (rAr h) (rFc h) (rKn h) (rRd h)) (ruV (h 40 0 1).toNat (rFc h) (rRd h)) (raV (h 40 0 1).toNat (rAr h) (rRd h)) (rcV (h 40 0 1).toNat (rRd h)) (plV (h 40 0 1).toNat (rKn h) (rRd h)) (puV (h 40 0 1).toNat (rFc h) (rKn h) (rRd h)) (beV (h 40 0 1).toNat (rAr h) (rFc h) (rKn h) (rRd h))))) 27 [(1, vI i), (0, vO 40 0)] [] (RK h 0 (tdV (h 40 0 1).toNat (rAr h) (rFc h) (rKn h) (rRd h)) A B G D E (h 40 0 30)) := by
    intro m
    induction m using Nat.strongRecOn with
    | _ m ih =>
    intro i A B G D E hi0 hi1 hm hA hB hG hD hE
    refine r_iload_n (i0 := 1) C d_R_look_27 rfl rfl ?_
    refine r_aload_n (i0 := 0) C d_R_look_28 rfl rfl ?_
    refine r_getI C fl_R_88 d_R_look_29 rfl ?_
    simp only [hset_fr, hset_tag, hset_slot, hset_same, RK_f41, RK_f43, RK_f44, RK_f47, RK_rd, RK_g1, RK_g25, RK_g26, RK_g27, RK_g28, RK_g29, RK_g30, ne_eq, not_false_eq_true, reduceCtorEq, Nat.reduceEqDiff]
    refine r_icmp_ge (tgt := 149) C d_R_look_32 (by decide) (fun q32 => ?_) (fun q32 => ?_)
    · have e : i.toNat = (h 40 0 1).toNat := (by omega)
      rw [e] at hA hB hG hD hE
      subst hA; subst hB; subst hG; subst hD; subst hE
      exact AW.lvs [(0, vO 40 0)] ⟨rfl, trivial⟩ tail
    · refine r_aload_n (i0 := 0) C d_R_look_35 rfl rfl ?_
      refine r_iload_n (i0 := 1) C d_R_look_36 rfl rfl ?_
      refine r_callVp C cl_R_128 im_R_isRead rfl rfl (c_R_isRead hx (by omega) (by simp only [RK_rd]; exact (hF i.toNat (by omega)).2.2.2)) rfl rfl d_R_look_37 (by decide) (Nat.le_of_ble_eq_true rfl) ?_
      simp only [hset_fr, hset_tag, hset_slot, hset_same, RK_f41, RK_f43, RK_f44, RK_f47, RK_rd, RK_g1, RK_g25, RK_g26, RK_g27, RK_g28, RK_g29, RK_g30, ne_eq, not_false_eq_true, reduceCtorEq, Nat.reduceEqDiff]
      refine r_if_eq (tgt := 143) C d_R_look_40 (by decide) (fun q40 => ?_) (fun q40 => ?_)
      · refine r_iinc C d_R_look_143 rfl (by decide) (by omega) ?_
        refine r_goto (tgt := 27) C d_R_look_146 (by decide) ?_
        refine AW.lvs [(1, vI (i + 1)), (0, vO 40 0)] ⟨rfl, rfl, trivial⟩ (ih (m - 1) (by omega) (i + 1) _ _ _ _ _ (by omega) (by omega) (by omega) ?_ ?_ ?_ ?_ ?_)
        · exact (by rw [sumF_int hi0, ← hA]; unfold ruG; (try dsimp only [rAr, rFc, rKn, rRd]); have := rdI_01 (rdR h i.toNat); have f0 := hF i.toNat (by omega); dsimp only [rAr, rFc, rKn, rRd] at f0; (repeat' split) <;> omega)
        · exact (by rw [sumF_int hi0, ← hB]; unfold raG; (try dsimp only [rAr, rFc, rKn, rRd]); have := rdI_01 (rdR h i.toNat); have f0 := hF i.toNat (by omega); dsimp only [rAr, rFc, rKn, rRd] at f0; (repeat' split) <;> omega)
        · exact (by rw [sumF_int hi0, ← hG]; unfold rcG; (try dsimp only [rAr, rFc, rKn, rRd]); have := rdI_01 (rdR h i.toNat); have f0 := hF i.toNat (by omega); dsimp only [rAr, rFc, rKn, rRd] at f0; (repeat' split) <;> omega)
        · exact (by rw [sumF_int hi0, ← hD]; unfold plG; (try dsimp only [rAr, rFc, rKn, rRd]); have := rdI_01 (rdR h i.toNat); have f0 := hF i.toNat (by omega); dsimp only [rAr, rFc, rKn, rRd] at f0; (repeat' split) <;> omega)
        · exact (by rw [sumF_int hi0, ← hE]; unfold puG; (try dsimp only [rAr, rFc, rKn, rRd]); have := rdI_01 (rdR h i.toNat); have f0 := hF i.toNat (by omega); dsimp only [rAr, rFc, rKn, rRd] at f0; (repeat' split) <;> omega)
      · refine r_aload_n (i0 := 0) C d_R_look_43 rfl rfl ?_
        refine r_dup C d_R_look_44 rfl ?_
        refine r_getI C fl_R_137 d_R_look_45 rfl ?_
        simp only [hset_fr, hset_tag, hset_slot, hset_same, RK_f41, RK_f43, RK_f44, RK_f47, RK_rd, RK_g1, RK_g25, RK_g26, RK_g27, RK_g28, RK_g29, RK_g30, ne_eq, not_false_eq_true, reduceCtorEq, Nat.reduceEqDiff]
        refine r_iconst C d_R_look_48 (by decide) ?_
        refine r_iadd C d_R_look_49 (by have g1 := ru_bd (hF.sub (show i.toNat ≤ (h 40 0 1).toNat by omega)); have g2 := ra_bd (hF.sub (show i.toNat ≤ (h 40 0 1).toNat by omega)); have g3 := rc_bd (n := i.toNat) (rd := rRd h); have g4 := pl_bd (hF.sub (show i.toNat ≤ (h 40 0 1).toNat by omega)); have g5 := pu_bd (hF.sub (show i.toNat ≤ (h 40 0 1).toNat by omega)); have f0 := hF i.toNat (by omega); dsimp only [rAr, rFc, rKn, rRd] at f0; have m0 := mU_bd (fc := h 43 0 i.toNat) (r := rdR h i.toNat) (by have := rdI_01 (rdR h i.toNat); omega) f0.2.2.2 f0.2.1; omega) ?_
        refine r_putI C pl_R_137 d_R_look_50 rfl ?_
        rw [RK_27]
        refine r_aload_n (i0 := 0) C d_R_look_53 rfl rfl ?_
        refine r_aload_n (i0 := 0) C d_R_look_54 rfl rfl ?_
        refine r_getI C fl_R_143 d_R_look_55 rfl ?_
        simp only [hset_fr, hset_tag, hset_slot, hset_same, RK_f41, RK_f43, RK_f44, RK_f47, RK_rd, RK_g1, RK_g25, RK_g26, RK_g27, RK_g28, RK_g29, RK_g30, ne_eq, not_false_eq_true, reduceCtorEq, Nat.reduceEqDiff]
        refine r_aload_n (i0 := 0) C d_R_look_58 rfl rfl ?_
        refine r_getO C fl_R_7 d_R_look_59 rfl rfl (fun hi => hi) ?_
        refine r_iload_n (i0 := 1) C d_R_look_62 rfl rfl ?_
        refine r_iaload (ln := 6) C d_R_look_63 rfl (fun _ => rfl) rfl (by omega) ?_
        simp only [hset_fr, hset_tag, hset_slot, hset_same, RK_f41, RK_f43, RK_f44, RK_f47, RK_rd, RK_g1, RK_g25, RK_g26, RK_g27, RK_g28, RK_g29, RK_g30, ne_eq, not_false_eq_true, reduceCtorEq, Nat.reduceEqDiff]
        refine r_iadd C d_R_look_64 (by have g1 := ru_bd (hF.sub (show i.toNat ≤ (h 40 0 1).toNat by omega)); have g2 := ra_bd (hF.sub (show i.toNat ≤ (h 40 0 1).toNat by omega)); have g3 := rc_bd (n := i.toNat) (rd := rRd h); have g4 := pl_bd (hF.sub (show i.toNat ≤ (h 40 0 1).toNat by omega)); have g5 := pu_bd (hF.sub (show i.toNat ≤ (h 40 0 1).toNat by omega)); have f0 := hF i.toNat (by omega); dsimp only [rAr, rFc, rKn, rRd] at f0; have m0 := mU_bd (fc := h 43 0 i.toNat) (r := rdR h i.toNat) (by have := rdI_01 (rdR h i.toNat); omega) f0.2.2.2 f0.2.1; omega) ?_
        refine r_putI C pl_R_143 d_R_look_65 rfl ?_
        rw [RK_26]
        refine r_aload_n (i0 := 0) C d_R_look_68 rfl rfl ?_
        refine r_aload_n (i0 := 0) C d_R_look_69 rfl rfl ?_
        refine r_getI C fl_R_140 d_R_look_70 rfl ?_
        simp only [hset_fr, hset_tag, hset_slot, hset_same, RK_f41, RK_f43, RK_f44, RK_f47, RK_rd, RK_g1, RK_g25, RK_g26, RK_g27, RK_g28, RK_g29, RK_g30, ne_eq, not_false_eq_true, reduceCtorEq, Nat.reduceEqDiff]
        refine r_aload_n (i0 := 0) C d_R_look_73 rfl rfl ?_
        refine r_iload_n (i0 := 1) C d_R_look_74 rfl rfl ?_
        refine r_callVp C cl_R_146 im_R_measured rfl rfl (c_R_measured hx (by omega) (by simp only [RK_rd]; exact (hF i.toNat (by omega)).2.2.2) (by simp only [RK_f43]; exact (hF i.toNat (by omega)).2.1)) rfl rfl d_R_look_75 (by decide) (Nat.le_of_ble_eq_true rfl) ?_
        simp only [hset_fr, hset_tag, hset_slot, hset_same, RK_f41, RK_f43, RK_f44, RK_f47, RK_rd, RK_g1, RK_g25, RK_g26, RK_g27, RK_g28, RK_g29, RK_g30, ne_eq, not_false_eq_true, reduceCtorEq, Nat.reduceEqDiff]
        refine r_iadd C d_R_look_78 (by have g1 := ru_bd (hF.sub (show i.toNat ≤ (h 40 0 1).toNat by omega)); have g2 := ra_bd (hF.sub (show i.toNat ≤ (h 40 0 1).toNat by omega)); have g3 := rc_bd (n := i.toNat) (rd := rRd h); have g4 := pl_bd (hF.sub (show i.toNat ≤ (h 40 0 1).toNat by omega)); have g5 := pu_bd (hF.sub (show i.toNat ≤ (h 40 0 1).toNat by omega)); have f0 := hF i.toNat (by omega); dsimp only [rAr, rFc, rKn, rRd] at f0; have m0 := mU_bd (fc := h 43 0 i.toNat) (r := rdR h i.toNat) (by have := rdI_01 (rdR h i.toNat); omega) f0.2.2.2 f0.2.1; omega) ?_
        refine r_putI C pl_R_140 d_R_look_79 rfl ?_
        rw [RK_25]
        refine r_aload_n (i0 := 0) C d_R_look_82 rfl rfl ?_
        refine r_aload_n (i0 := 0) C d_R_look_83 rfl rfl ?_
        refine r_getO C fl_R_28 d_R_look_84 rfl rfl (fun hi => hi) ?_
        refine r_iload_n (i0 := 1) C d_R_look_87 rfl rfl ?_
        refine r_iaload (ln := 6) C d_R_look_88 rfl (fun _ => rfl) rfl (by omega) ?_
        simp only [hset_fr, hset_tag, hset_slot, hset_same, RK_f41, RK_f43, RK_f44, RK_f47, RK_rd, RK_g1, RK_g25, RK_g26, RK_g27, RK_g28, RK_g29, RK_g30, ne_eq, not_false_eq_true, reduceCtorEq, Nat.reduceEqDiff]
        refine r_if_ge (tgt := 99) C d_R_look_89 (by decide) (fun q89 => ?_) (fun q89 => ?_)
        · refine r_aload_n (i0 := 0) C d_R_look_99 rfl rfl ?_
          refine r_getI C fl_R_131 d_R_look_100 rfl ?_
          simp only [hset_fr, hset_tag, hset_slot, hset_same, RK_f41, RK_f43, RK_f44, RK_f47, RK_rd, RK_g1, RK_g25, RK_g26, RK_g27, RK_g28, RK_g29, RK_g30, ne_eq, not_false_eq_true, reduceCtorEq, Nat.reduceEqDiff]
          refine r_aload_n (i0 := 0) C d_R_look_103 rfl rfl ?_
          refine r_getO C fl_R_28 d_R_look_104 rfl rfl (fun hi => hi) ?_
          refine r_iload_n (i0 := 1) C d_R_look_107 rfl rfl ?_
          refine r_iaload (ln := 6) C d_R_look_108 rfl (fun _ => rfl) rfl (by omega) ?_
          simp only [hset_fr, hset_tag, hset_slot, hset_same, RK_f41, RK_f43, RK_f44, RK_f47, RK_rd, RK_g1, RK_g25, RK_g26, RK_g27, RK_g28, RK_g29, RK_g30, ne_eq, not_false_eq_true, reduceCtorEq, Nat.reduceEqDiff]
          refine r_iadd C d_R_look_109 (by have g1 := ru_bd (hF.sub (show i.toNat ≤ (h 40 0 1).toNat by omega)); have g2 := ra_bd (hF.sub (show i.toNat ≤ (h 40 0 1).toNat by omega)); have g3 := rc_bd (n := i.toNat) (rd := rRd h); have g4 := pl_bd (hF.sub (show i.toNat ≤ (h 40 0 1).toNat by omega)); have g5 := pu_bd (hF.sub (show i.toNat ≤ (h 40 0 1).toNat by omega)); have f0 := hF i.toNat (by omega); dsimp only [rAr, rFc, rKn, rRd] at f0; have m0 := mU_bd (fc := h 43 0 i.toNat) (r := rdR h i.toNat) (by have := rdI_01 (rdR h i.toNat); omega) f0.2.2.2 f0.2.1; omega) ?_
          refine r_putI C pl_R_131 d_R_look_110 rfl ?_
          rw [RK_28]
          refine r_aload_n (i0 := 0) C d_R_look_113 rfl rfl ?_
          refine r_aload_n (i0 := 0) C d_R_look_114 rfl rfl ?_
          refine r_getO C fl_R_28 d_R_look_115 rfl rfl (fun hi => hi) ?_
          refine r_iload_n (i0 := 1) C d_R_look_118 rfl rfl ?_
          refine r_iaload (ln := 6) C d_R_look_119 rfl (fun _ => rfl) rfl (by omega) ?_
          simp only [hset_fr, hset_tag, hset_slot, hset_same, RK_f41, RK_f43, RK_f44, RK_f47, RK_rd, RK_g1, RK_g25, RK_g26, RK_g27, RK_g28, RK_g29, RK_g30, ne_eq, not_false_eq_true, reduceCtorEq, Nat.reduceEqDiff]
          refine r_if_ge (tgt := 130) C d_R_look_120 (by decide) (fun q120 => ?_) (fun q120 => ?_)
          · refine r_aload_n (i0 := 0) C d_R_look_130 rfl rfl ?_
            refine r_getI C fl_R_134 d_R_look_131 rfl ?_
            simp only [hset_fr, hset_tag, hset_slot, hset_same, RK_f41, RK_f43, RK_f44, RK_f47, RK_rd, RK_g1, RK_g25, RK_g26, RK_g27, RK_g28, RK_g29, RK_g30, ne_eq, not_false_eq_true, reduceCtorEq, Nat.reduceEqDiff]
            refine r_aload_n (i0 := 0) C d_R_look_134 rfl rfl ?_
            refine r_iload_n (i0 := 1) C d_R_look_135 rfl rfl ?_
            refine r_callVp C cl_R_146 im_R_measured rfl rfl (c_R_measured hx (by omega) (by simp only [RK_rd]; exact (hF i.toNat (by omega)).2.2.2) (by simp only [RK_f43]; exact (hF i.toNat (by omega)).2.1)) rfl rfl d_R_look_136 (by decide) (Nat.le_of_ble_eq_true rfl) ?_
            simp only [hset_fr, hset_tag, hset_slot, hset_same, RK_f41, RK_f43, RK_f44, RK_f47, RK_rd, RK_g1, RK_g25, RK_g26, RK_g27, RK_g28, RK_g29, RK_g30, ne_eq, not_false_eq_true, reduceCtorEq, Nat.reduceEqDiff]
            refine r_iadd C d_R_look_139 (by have g1 := ru_bd (hF.sub (show i.toNat ≤ (h 40 0 1).toNat by omega)); have g2 := ra_bd (hF.sub (show i.toNat ≤ (h 40 0 1).toNat by omega)); have g3 := rc_bd (n := i.toNat) (rd := rRd h); have g4 := pl_bd (hF.sub (show i.toNat ≤ (h 40 0 1).toNat by omega)); have g5 := pu_bd (hF.sub (show i.toNat ≤ (h 40 0 1).toNat by omega)); have f0 := hF i.toNat (by omega); dsimp only [rAr, rFc, rKn, rRd] at f0; have m0 := mU_bd (fc := h 43 0 i.toNat) (r := rdR h i.toNat) (by have := rdI_01 (rdR h i.toNat); omega) f0.2.2.2 f0.2.1; omega) ?_
            refine r_putI C pl_R_134 d_R_look_140 rfl ?_
            rw [RK_29]
            refine r_iinc C d_R_look_143 rfl (by decide) (by omega) ?_
            refine r_goto (tgt := 27) C d_R_look_146 (by decide) ?_
            refine AW.lvs [(1, vI (i + 1)), (0, vO 40 0)] ⟨rfl, rfl, trivial⟩ (ih (m - 1) (by omega) (i + 1) _ _ _ _ _ (by omega) (by omega) (by omega) ?_ ?_ ?_ ?_ ?_)
            · exact (by rw [sumF_int hi0, ← hA]; unfold ruG; (try dsimp only [rAr, rFc, rKn, rRd]); have := rdI_01 (rdR h i.toNat); have f0 := hF i.toNat (by omega); dsimp only [rAr, rFc, rKn, rRd] at f0; (repeat' split) <;> omega)
            · exact (by rw [sumF_int hi0, ← hB]; unfold raG; (try dsimp only [rAr, rFc, rKn, rRd]); have := rdI_01 (rdR h i.toNat); have f0 := hF i.toNat (by omega); dsimp only [rAr, rFc, rKn, rRd] at f0; (repeat' split) <;> omega)
            · exact (by rw [sumF_int hi0, ← hG]; unfold rcG; (try dsimp only [rAr, rFc, rKn, rRd]); have := rdI_01 (rdR h i.toNat); have f0 := hF i.toNat (by omega); dsimp only [rAr, rFc, rKn, rRd] at f0; (repeat' split) <;> omega)
            · exact (by rw [sumF_int hi0, ← hD]; unfold plG; (try dsimp only [rAr, rFc, rKn, rRd]); have := rdI_01 (rdR h i.toNat); have f0 := hF i.toNat (by omega); dsimp only [rAr, rFc, rKn, rRd] at f0; (repeat' split) <;> omega)
            · exact (by rw [sumF_int hi0, ← hE]; unfold puG; (try dsimp only [rAr, rFc, rKn, rRd]); have := rdI_01 (rdR h i.toNat); have f0 := hF i.toNat (by omega); dsimp only [rAr, rFc, rKn, rRd] at f0; (repeat' split) <;> omega)
          · refine r_aload_n (i0 := 0) C d_R_look_123 rfl rfl ?_
            refine r_getI C fl_R_134 d_R_look_124 rfl ?_
            simp only [hset_fr, hset_tag, hset_slot, hset_same, RK_f41, RK_f43, RK_f44, RK_f47, RK_rd, RK_g1, RK_g25, RK_g26, RK_g27, RK_g28, RK_g29, RK_g30, ne_eq, not_false_eq_true, reduceCtorEq, Nat.reduceEqDiff]
            refine r_goto (tgt := 140) C d_R_look_127 (by decide) ?_
            refine r_putI C pl_R_134 d_R_look_140 rfl ?_
            rw [RK_29]
            refine r_iinc C d_R_look_143 rfl (by decide) (by omega) ?_
            refine r_goto (tgt := 27) C d_R_look_146 (by decide) ?_
            refine AW.lvs [(1, vI (i + 1)), (0, vO 40 0)] ⟨rfl, rfl, trivial⟩ (ih (m - 1) (by omega) (i + 1) _ _ _ _ _ (by omega) (by omega) (by omega) ?_ ?_ ?_ ?_ ?_)
            · exact (by rw [sumF_int hi0, ← hA]; unfold ruG; (try dsimp only [rAr, rFc, rKn, rRd]); have := rdI_01 (rdR h i.toNat); have f0 := hF i.toNat (by omega); dsimp only [rAr, rFc, rKn, rRd] at f0; (repeat' split) <;> omega)
            · exact (by rw [sumF_int hi0, ← hB]; unfold raG; (try dsimp only [rAr, rFc, rKn, rRd]); have := rdI_01 (rdR h i.toNat); have f0 := hF i.toNat (by omega); dsimp only [rAr, rFc, rKn, rRd] at f0; (repeat' split) <;> omega)
            · exact (by rw [sumF_int hi0, ← hG]; unfold rcG; (try dsimp only [rAr, rFc, rKn, rRd]); have := rdI_01 (rdR h i.toNat); have f0 := hF i.toNat (by omega); dsimp only [rAr, rFc, rKn, rRd] at f0; (repeat' split) <;> omega)
            · exact (by rw [sumF_int hi0, ← hD]; unfold plG; (try dsimp only [rAr, rFc, rKn, rRd]); have := rdI_01 (rdR h i.toNat); have f0 := hF i.toNat (by omega); dsimp only [rAr, rFc, rKn, rRd] at f0; (repeat' split) <;> omega)
            · exact (by rw [sumF_int hi0, ← hE]; unfold puG; (try dsimp only [rAr, rFc, rKn, rRd]); have := rdI_01 (rdR h i.toNat); have f0 := hF i.toNat (by omega); dsimp only [rAr, rFc, rKn, rRd] at f0; (repeat' split) <;> omega)
        · refine r_aload_n (i0 := 0) C d_R_look_92 rfl rfl ?_
          refine r_getI C fl_R_131 d_R_look_93 rfl ?_
          simp only [hset_fr, hset_tag, hset_slot, hset_same, RK_f41, RK_f43, RK_f44, RK_f47, RK_rd, RK_g1, RK_g25, RK_g26, RK_g27, RK_g28, RK_g29, RK_g30, ne_eq, not_false_eq_true, reduceCtorEq, Nat.reduceEqDiff]
          refine r_goto (tgt := 110) C d_R_look_96 (by decide) ?_
          refine r_putI C pl_R_131 d_R_look_110 rfl ?_
          rw [RK_28]
          refine r_aload_n (i0 := 0) C d_R_look_113 rfl rfl ?_
          refine r_aload_n (i0 := 0) C d_R_look_114 rfl rfl ?_
          refine r_getO C fl_R_28 d_R_look_115 rfl rfl (fun hi => hi) ?_
          refine r_iload_n (i0 := 1) C d_R_look_118 rfl rfl ?_
          refine r_iaload (ln := 6) C d_R_look_119 rfl (fun _ => rfl) rfl (by omega) ?_
          simp only [hset_fr, hset_tag, hset_slot, hset_same, RK_f41, RK_f43, RK_f44, RK_f47, RK_rd, RK_g1, RK_g25, RK_g26, RK_g27, RK_g28, RK_g29, RK_g30, ne_eq, not_false_eq_true, reduceCtorEq, Nat.reduceEqDiff]
          refine r_if_ge (tgt := 130) C d_R_look_120 (by decide) (fun q120 => ?_) (fun q120 => ?_)
          · refine r_aload_n (i0 := 0) C d_R_look_130 rfl rfl ?_
            refine r_getI C fl_R_134 d_R_look_131 rfl ?_
            simp only [hset_fr, hset_tag, hset_slot, hset_same, RK_f41, RK_f43, RK_f44, RK_f47, RK_rd, RK_g1, RK_g25, RK_g26, RK_g27, RK_g28, RK_g29, RK_g30, ne_eq, not_false_eq_true, reduceCtorEq, Nat.reduceEqDiff]
            refine r_aload_n (i0 := 0) C d_R_look_134 rfl rfl ?_
            refine r_iload_n (i0 := 1) C d_R_look_135 rfl rfl ?_
            refine r_callVp C cl_R_146 im_R_measured rfl rfl (c_R_measured hx (by omega) (by simp only [RK_rd]; exact (hF i.toNat (by omega)).2.2.2) (by simp only [RK_f43]; exact (hF i.toNat (by omega)).2.1)) rfl rfl d_R_look_136 (by decide) (Nat.le_of_ble_eq_true rfl) ?_
            simp only [hset_fr, hset_tag, hset_slot, hset_same, RK_f41, RK_f43, RK_f44, RK_f47, RK_rd, RK_g1, RK_g25, RK_g26, RK_g27, RK_g28, RK_g29, RK_g30, ne_eq, not_false_eq_true, reduceCtorEq, Nat.reduceEqDiff]
            refine r_iadd C d_R_look_139 (by have g1 := ru_bd (hF.sub (show i.toNat ≤ (h 40 0 1).toNat by omega)); have g2 := ra_bd (hF.sub (show i.toNat ≤ (h 40 0 1).toNat by omega)); have g3 := rc_bd (n := i.toNat) (rd := rRd h); have g4 := pl_bd (hF.sub (show i.toNat ≤ (h 40 0 1).toNat by omega)); have g5 := pu_bd (hF.sub (show i.toNat ≤ (h 40 0 1).toNat by omega)); have f0 := hF i.toNat (by omega); dsimp only [rAr, rFc, rKn, rRd] at f0; have m0 := mU_bd (fc := h 43 0 i.toNat) (r := rdR h i.toNat) (by have := rdI_01 (rdR h i.toNat); omega) f0.2.2.2 f0.2.1; omega) ?_
            refine r_putI C pl_R_134 d_R_look_140 rfl ?_
            rw [RK_29]
            refine r_iinc C d_R_look_143 rfl (by decide) (by omega) ?_
            refine r_goto (tgt := 27) C d_R_look_146 (by decide) ?_
            refine AW.lvs [(1, vI (i + 1)), (0, vO 40 0)] ⟨rfl, rfl, trivial⟩ (ih (m - 1) (by omega) (i + 1) _ _ _ _ _ (by omega) (by omega) (by omega) ?_ ?_ ?_ ?_ ?_)
            · exact (by rw [sumF_int hi0, ← hA]; unfold ruG; (try dsimp only [rAr, rFc, rKn, rRd]); have := rdI_01 (rdR h i.toNat); have f0 := hF i.toNat (by omega); dsimp only [rAr, rFc, rKn, rRd] at f0; (repeat' split) <;> omega)
            · exact (by rw [sumF_int hi0, ← hB]; unfold raG; (try dsimp only [rAr, rFc, rKn, rRd]); have := rdI_01 (rdR h i.toNat); have f0 := hF i.toNat (by omega); dsimp only [rAr, rFc, rKn, rRd] at f0; (repeat' split) <;> omega)
            · exact (by rw [sumF_int hi0, ← hG]; unfold rcG; (try dsimp only [rAr, rFc, rKn, rRd]); have := rdI_01 (rdR h i.toNat); have f0 := hF i.toNat (by omega); dsimp only [rAr, rFc, rKn, rRd] at f0; (repeat' split) <;> omega)
            · exact (by rw [sumF_int hi0, ← hD]; unfold plG; (try dsimp only [rAr, rFc, rKn, rRd]); have := rdI_01 (rdR h i.toNat); have f0 := hF i.toNat (by omega); dsimp only [rAr, rFc, rKn, rRd] at f0; (repeat' split) <;> omega)
            · exact (by rw [sumF_int hi0, ← hE]; unfold puG; (try dsimp only [rAr, rFc, rKn, rRd]); have := rdI_01 (rdR h i.toNat); have f0 := hF i.toNat (by omega); dsimp only [rAr, rFc, rKn, rRd] at f0; (repeat' split) <;> omega)
          · refine r_aload_n (i0 := 0) C d_R_look_123 rfl rfl ?_
            refine r_getI C fl_R_134 d_R_look_124 rfl ?_
            simp only [hset_fr, hset_tag, hset_slot, hset_same, RK_f41, RK_f43, RK_f44, RK_f47, RK_rd, RK_g1, RK_g25, RK_g26, RK_g27, RK_g28, RK_g29, RK_g30, ne_eq, not_false_eq_true, reduceCtorEq, Nat.reduceEqDiff]
            refine r_goto (tgt := 140) C d_R_look_127 (by decide) ?_
            refine r_putI C pl_R_134 d_R_look_140 rfl ?_
            rw [RK_29]
            refine r_iinc C d_R_look_143 rfl (by decide) (by omega) ?_
            refine r_goto (tgt := 27) C d_R_look_146 (by decide) ?_
            refine AW.lvs [(1, vI (i + 1)), (0, vO 40 0)] ⟨rfl, rfl, trivial⟩ (ih (m - 1) (by omega) (i + 1) _ _ _ _ _ (by omega) (by omega) (by omega) ?_ ?_ ?_ ?_ ?_)
            · exact (by rw [sumF_int hi0, ← hA]; unfold ruG; (try dsimp only [rAr, rFc, rKn, rRd]); have := rdI_01 (rdR h i.toNat); have f0 := hF i.toNat (by omega); dsimp only [rAr, rFc, rKn, rRd] at f0; (repeat' split) <;> omega)
            · exact (by rw [sumF_int hi0, ← hB]; unfold raG; (try dsimp only [rAr, rFc, rKn, rRd]); have := rdI_01 (rdR h i.toNat); have f0 := hF i.toNat (by omega); dsimp only [rAr, rFc, rKn, rRd] at f0; (repeat' split) <;> omega)
            · exact (by rw [sumF_int hi0, ← hG]; unfold rcG; (try dsimp only [rAr, rFc, rKn, rRd]); have := rdI_01 (rdR h i.toNat); have f0 := hF i.toNat (by omega); dsimp only [rAr, rFc, rKn, rRd] at f0; (repeat' split) <;> omega)
            · exact (by rw [sumF_int hi0, ← hD]; unfold plG; (try dsimp only [rAr, rFc, rKn, rRd]); have := rdI_01 (rdR h i.toNat); have f0 := hF i.toNat (by omega); dsimp only [rAr, rFc, rKn, rRd] at f0; (repeat' split) <;> omega)
            · exact (by rw [sumF_int hi0, ← hE]; unfold puG; (try dsimp only [rAr, rFc, rKn, rRd]); have := rdI_01 (rdR h i.toNat); have f0 := hF i.toNat (by omega); dsimp only [rAr, rFc, rKn, rRd] at f0; (repeat' split) <;> omega)
  refine r_aload_n (i0 := 0) C d_R_look_0 rfl rfl ?_
  refine r_iconst C d_R_look_1 (by decide) ?_
  refine r_putI C pl_R_140 d_R_look_2 rfl ?_
  refine r_aload_n (i0 := 0) C d_R_look_5 rfl rfl ?_
  refine r_iconst C d_R_look_6 (by decide) ?_
  refine r_putI C pl_R_143 d_R_look_7 rfl ?_
  refine r_aload_n (i0 := 0) C d_R_look_10 rfl rfl ?_
  refine r_iconst C d_R_look_11 (by decide) ?_
  refine r_putI C pl_R_137 d_R_look_12 rfl ?_
  refine r_aload_n (i0 := 0) C d_R_look_15 rfl rfl ?_
  refine r_iconst C d_R_look_16 (by decide) ?_
  refine r_putI C pl_R_131 d_R_look_17 rfl ?_
  refine r_aload_n (i0 := 0) C d_R_look_20 rfl rfl ?_
  refine r_iconst C d_R_look_21 (by decide) ?_
  refine r_putI C pl_R_134 d_R_look_22 rfl ?_
  refine r_iconst C d_R_look_25 (by decide) ?_
  refine r_istore_n (i0 := 1) C d_R_look_26 rfl (by decide) ?_
  have e0 := loop1 _ 0 0 0 0 0 0 (by omega) (by omega) rfl rfl rfl rfl rfl rfl
  have e1 : RK h 0 (tdV (h 40 0 1).toNat (rAr h) (rFc h) (rKn h) (rRd h)) 0 0 0 0 0 (h 40 0 30) = hset (hset (hset (hset (hset h 40 0 25 0) 40 0 26 0) 40 0 27 0) 40 0 28 0) 40 0 29 0 := by
    conv => rhs; rw [← RK_self h (tdV (h 40 0 1).toNat (rAr h) (rFc h) (rKn h) (rRd h))]
    simp only [RK_25, RK_26, RK_27, RK_28, RK_29]
  rw [e1] at e0
  exact e0

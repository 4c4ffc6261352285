/-! Contracts of the reference: isByArea. -/
theorem kdS_0 {rI kn pu pl ra : Int} : kdS rI kn pu pl ra = 0 ↔ rI = 1 := by
  unfold kdS
  by_cases c : rI = 1
  · simp [c]
  · rw [if_neg c]
    constructor
    · intro z
      split at z
      · cases z
      · split at z <;> cases z
    · intro z; exact absurd z c
/-- how the reference takes flat f's meter, of the sums that it has written down -/
def kF (h : AH) : Nat → Int := fun f => kdS (rdI (rdR h f)) (h 47 0 f) (h 40 0 29) (h 40 0 28) (h 40 0 27)
set_option maxHeartbeats 1000000 in
theorem c_R_isByArea {l : Launch} (hl : l.stackTraces = false) {w : XW} {h : AH} (hc : 0 ≤ h 40 0 1 ∧ h 40 0 1 ≤ 6) (hF : FIr (h 40 0 1).toNat h) (htd : ∀ f : Nat, f < (h 40 0 1).toNat → 0 ≤ h 56 0 f ∧ h 56 0 f ≤ 72000000) : AM l y_R_isByArea (wsM y_R_isByArea b_R_isByArea 7 (some .boolean) []) true (rmV 2 0) w [vO 40 0] h (Ret (some (vI (1 - fitI (h 40 0 1).toNat (kF h) (h 41 0) (sumF (h 40 0 1).toNat (h 56 0))))) h) := by
  refine AM.of hl (by decide +kernel) (Nat.le_of_ble_eq_true rfl) fun x hx C _ => ?_
  have loop : ∀ (m : Nat) (i A O T K : Int), 0 ≤ i → i ≤ h 40 0 1 → (h 40 0 1 - i).toNat = m → A = sumF i.toNat (h 41 0) → O = sumF i.toNat (oaG (kF h) (h 41 0)) → T = sumF i.toNat (h 56 0) → K = bI (anyF i.toNat (fun f => decide (kF h f = 3))) → AW x w 7 true 0 0 (AQ x w true 0 0 (Ret (some (vI (1 - fitI (h 40 0 1).toNat (kF h) (h 41 0) (sumF (h 40 0 1).toNat (h 56 0))))) h)) 12 [(6, vI i), (5, vI K), (3, vL T), (2, vI O), (1, vI A), (0, vO 40 0)] [] h := by
    intro m
    induction m using Nat.strongRecOn with
    | _ m ih =>
    intro i A O T K hi0 hi1 hm hA hO hT hK
    have K01 : K = 0 ∨ K = 1 := by rw [hK]; exact bI_01 _
    refine r_iload C d_R_isByArea_12 rfl ?_
    refine r_aload_n (i0 := 0) C d_R_isByArea_14 rfl rfl ?_
    refine r_getI C fl_R_88 d_R_isByArea_15 rfl ?_
    refine r_icmp_ge (tgt := 92) C d_R_isByArea_18 (by decide) (fun q18 => ?_) (fun q18 => ?_)
    · have s2 := sumF_bd (g := (oaG (kF h) (h 41 0))) (L := 0) (M := 50) (n := i.toNat) (fun j hj => by have := (hF j (by omega)).1; unfold oaG; split <;> omega)
      have s3 := sumF_bd (g := (h 56 0)) (L := 0) (M := 72000000) (n := i.toNat) (fun j hj => htd j (by omega))
      refine r_iload C d_R_isByArea_92 rfl ?_
      refine r_if_ne (tgt := 110) C d_R_isByArea_94 (by decide) (fun q94 => ?_) (fun q94 => ?_)
      · refine r_iconst C d_R_isByArea_110 (by decide) ?_
        refine r_goto (tgt := 115) C d_R_isByArea_111 (by decide) ?_
        exact r_zret C d_R_isByArea_115 (by omega) (⟨vi_e (by have e : i.toNat = (h 40 0 1).toNat := (by omega); rw [e] at hA hO hT hK s2 s3; unfold fitI; rw [← hA, ← hO, ← hT]; first | (rw [if_pos ⟨bI_f (by rw [← hK]; omega), by omega, by omega⟩]; rfl) | (rw [if_neg (fun z => by rw [z.1] at hK; have hk2 : K = 0 := hK; omega)]; rfl)), rfl⟩) (by decide) (fun _ => ⟨rfl, rfl, rfl⟩)
      · refine r_iconst C d_R_isByArea_97 (by decide) ?_
        refine r_iload_n (i0 := 2) C d_R_isByArea_98 rfl rfl ?_
        refine r_imul C d_R_isByArea_99 (by omega) ?_
        refine r_iload_n (i0 := 1) C d_R_isByArea_100 rfl rfl ?_
        refine r_icmp_gt (tgt := 110) C d_R_isByArea_101 (by decide) (fun q101 => ?_) (fun q101 => ?_)
        · refine r_iconst C d_R_isByArea_110 (by decide) ?_
          refine r_goto (tgt := 115) C d_R_isByArea_111 (by decide) ?_
          exact r_zret C d_R_isByArea_115 (by omega) (⟨vi_e (by have e : i.toNat = (h 40 0 1).toNat := (by omega); rw [e] at hA hO hT hK s2 s3; unfold fitI; rw [← hA, ← hO, ← hT]; first | (rw [if_pos ⟨bI_f (by rw [← hK]; omega), by omega, by omega⟩]; rfl) | (rw [if_neg (fun z => by rw [z.1] at hK; have hk2 : K = 0 := hK; omega)]; rfl)), rfl⟩) (by decide) (fun _ => ⟨rfl, rfl, rfl⟩)
        · refine r_lload_n (i0 := 3) C d_R_isByArea_104 rfl rfl ?_
          refine r_lconst C 0 d_R_isByArea_105 (by decide) (by decide) ?_
          refine r_lcmp_ne (tgt := 114) C d_R_isByArea_106 d_R_isByArea_107 (by decide) (fun q106 => ?_) (fun q106 => ?_)
          · refine r_iconst C d_R_isByArea_114 (by decide) ?_
            exact r_zret C d_R_isByArea_115 (by omega) (⟨vi_e (by have e : i.toNat = (h 40 0 1).toNat := (by omega); rw [e] at hA hO hT hK s2 s3; unfold fitI; rw [← hA, ← hO, ← hT]; first | (rw [if_pos ⟨bI_f (by rw [← hK]; omega), by omega, by omega⟩]; rfl) | (rw [if_neg (fun z => by rw [z.1] at hK; have hk2 : K = 0 := hK; omega)]; rfl)), rfl⟩) (by decide) (fun _ => ⟨rfl, rfl, rfl⟩)
          · refine r_iconst C d_R_isByArea_110 (by decide) ?_
            refine r_goto (tgt := 115) C d_R_isByArea_111 (by decide) ?_
            exact r_zret C d_R_isByArea_115 (by omega) (⟨vi_e (by have e : i.toNat = (h 40 0 1).toNat := (by omega); rw [e] at hA hO hT hK s2 s3; unfold fitI; rw [← hA, ← hO, ← hT]; first | (rw [if_pos ⟨bI_f (by rw [← hK]; omega), by omega, by omega⟩]; rfl) | (rw [if_neg (fun z => by rw [z.1] at hK; have hk2 : K = 0 := hK; omega)]; rfl)), rfl⟩) (by decide) (fun _ => ⟨rfl, rfl, rfl⟩)
    · have F : 0 ≤ h 41 0 i.toNat ∧ h 41 0 i.toNat ≤ 50 := (hF i.toNat (by omega)).1
      have s1 := sumF_bd (g := (h 41 0)) (L := 0) (M := 50) (n := i.toNat) (fun j hj => (hF j (by omega)).1)
      have s2 := sumF_bd (g := (oaG (kF h) (h 41 0))) (L := 0) (M := 50) (n := i.toNat) (fun j hj => by have := (hF j (by omega)).1; unfold oaG; split <;> omega)
      have s3 := sumF_bd (g := (h 56 0)) (L := 0) (M := 72000000) (n := i.toNat) (fun j hj => htd j (by omega))
      have t1 := htd i.toNat (by omega)
      have r01 := rdI_01 (rdR h i.toNat)
      have k0 : kF h i.toNat = 0 ↔ rdI (rdR h i.toNat) = 1 := kdS_0
      refine r_iload_n (i0 := 1) C d_R_isByArea_21 rfl rfl ?_
      refine r_aload_n (i0 := 0) C d_R_isByArea_22 rfl rfl ?_
      refine r_getO C fl_R_7 d_R_isByArea_23 rfl rfl (fun hi => hi) ?_
      refine r_iload C d_R_isByArea_26 rfl ?_
      refine r_iaload (ln := 6) C d_R_isByArea_28 rfl (fun _ => rfl) rfl (by omega) ?_
      refine r_iadd C d_R_isByArea_29 (by omega) ?_
      refine r_istore_n (i0 := 1) C d_R_isByArea_30 rfl (by decide) ?_
      refine r_aload_n (i0 := 0) C d_R_isByArea_31 rfl rfl ?_
      refine r_iload C d_R_isByArea_32 rfl ?_
      refine r_callVp C cl_R_128 im_R_isRead rfl rfl (c_R_isRead hx (by omega) (hF i.toNat (by omega)).2.2.2) rfl rfl d_R_isByArea_34 (by decide) (Nat.le_of_ble_eq_true rfl) ?_
      refine r_if_eq (tgt := 44) C d_R_isByArea_37 (by decide) (fun q37 => ?_) (fun q37 => ?_)
      · refine r_iload_n (i0 := 2) C d_R_isByArea_44 rfl rfl ?_
        refine r_aload_n (i0 := 0) C d_R_isByArea_45 rfl rfl ?_
        refine r_getO C fl_R_7 d_R_isByArea_46 rfl rfl (fun hi => hi) ?_
        refine r_iload C d_R_isByArea_49 rfl ?_
        refine r_iaload (ln := 6) C d_R_isByArea_51 rfl (fun _ => rfl) rfl (by omega) ?_
        refine r_iadd C d_R_isByArea_52 (by omega) ?_
        refine r_istore_n (i0 := 2) C d_R_isByArea_53 rfl (by decide) ?_
        refine r_lload_n (i0 := 3) C d_R_isByArea_54 rfl rfl ?_
        refine r_aload_n (i0 := 0) C d_R_isByArea_55 rfl rfl ?_
        refine r_getO C fl_R_65 d_R_isByArea_56 rfl rfl (fun hi => hi) ?_
        refine r_iload C d_R_isByArea_59 rfl ?_
        refine r_laload (ln := 6) C d_R_isByArea_61 rfl (fun _ => rfl) rfl (by omega) ?_
        refine r_ladd C d_R_isByArea_62 (by omega) ?_
        refine r_lstore_n (i0 := 3) C d_R_isByArea_63 rfl (by decide) ?_
        refine r_iload C d_R_isByArea_64 rfl ?_
        refine r_if_ne (tgt := 79) C d_R_isByArea_66 (by decide) (fun q66 => ?_) (fun q66 => ?_)
        · refine r_iconst C d_R_isByArea_79 (by decide) ?_
          refine r_goto (tgt := 84) C d_R_isByArea_80 (by decide) ?_
          refine r_istore C d_R_isByArea_84 (by decide) ?_
          refine r_iinc C d_R_isByArea_86 rfl (by decide) (by omega) ?_
          refine r_goto (tgt := 12) C d_R_isByArea_89 (by decide) ?_
          have e2 : (i + 1).toNat = i.toNat + 1 := by omega
          refine AW.lvs [(6, _), (5, _), (3, _), (2, _), (1, _), (0, _)] ⟨rfl, rfl, rfl, rfl, rfl, rfl, trivial⟩ (ih (m - 1) (by omega) (i + 1) _ _ _ _ (by omega) (by omega) (by omega) (by rw [sumF_int hi0, hA]) ?_ (by rw [sumF_int hi0, hT]) ?_)
          · rw [sumF_int hi0, hO]
            show _ = _ + (if kF h i.toNat = 0 then 0 else h 41 0 i.toNat)
            first
              | (rw [if_pos (by omega)]; omega)
              | (rw [if_neg (by omega)]; done)
          · rw [e2, anyF_succ]
            first
              | (rw [bI_t (b := anyF i.toNat (fun f => decide (kF h f = 3))) (by rw [← hK]; omega)]; rfl)
              | (rw [bI_f (b := anyF i.toNat (fun f => decide (kF h f = 3))) (by rw [← hK]; omega)]; show _ = bI (false || decide (kF h i.toNat = 3)); rw [show decide (kF h i.toNat = 3) = true by simp; exact q76]; rfl)
              | (rw [bI_f (b := anyF i.toNat (fun f => decide (kF h f = 3))) (by rw [← hK]; omega)]; show _ = bI (false || decide (kF h i.toNat = 3)); rw [show decide (kF h i.toNat = 3) = false by simp; exact q76]; rfl)
        · refine r_aload_n (i0 := 0) C d_R_isByArea_69 rfl rfl ?_
          refine r_iload C d_R_isByArea_70 rfl ?_
          refine r_callVp C cl_R_154 im_R_kindOf rfl rfl (c_R_kindOf hx (by omega) (hF i.toNat (by omega)).2.2.2 (hF i.toNat (by omega)).2.2.1) rfl rfl d_R_isByArea_72 (by decide) (Nat.le_of_ble_eq_true rfl) ?_
          refine r_iconst C d_R_isByArea_75 (by decide) ?_
          refine r_icmp_ne (tgt := 83) C d_R_isByArea_76 (by decide) (fun q76 => ?_) (fun q76 => ?_)
          · refine r_iconst C d_R_isByArea_83 (by decide) ?_
            refine r_istore C d_R_isByArea_84 (by decide) ?_
            refine r_iinc C d_R_isByArea_86 rfl (by decide) (by omega) ?_
            refine r_goto (tgt := 12) C d_R_isByArea_89 (by decide) ?_
            have e2 : (i + 1).toNat = i.toNat + 1 := by omega
            refine AW.lvs [(6, _), (5, _), (3, _), (2, _), (1, _), (0, _)] ⟨rfl, rfl, rfl, rfl, rfl, rfl, trivial⟩ (ih (m - 1) (by omega) (i + 1) _ _ _ _ (by omega) (by omega) (by omega) (by rw [sumF_int hi0, hA]) ?_ (by rw [sumF_int hi0, hT]) ?_)
            · rw [sumF_int hi0, hO]
              show _ = _ + (if kF h i.toNat = 0 then 0 else h 41 0 i.toNat)
              first
                | (rw [if_pos (by omega)]; omega)
                | (rw [if_neg (by omega)]; done)
            · rw [e2, anyF_succ]
              first
                | (rw [bI_t (b := anyF i.toNat (fun f => decide (kF h f = 3))) (by rw [← hK]; omega)]; rfl)
                | (rw [bI_f (b := anyF i.toNat (fun f => decide (kF h f = 3))) (by rw [← hK]; omega)]; show _ = bI (false || decide (kF h i.toNat = 3)); rw [show decide (kF h i.toNat = 3) = true by simp; exact q76]; rfl)
                | (rw [bI_f (b := anyF i.toNat (fun f => decide (kF h f = 3))) (by rw [← hK]; omega)]; show _ = bI (false || decide (kF h i.toNat = 3)); rw [show decide (kF h i.toNat = 3) = false by simp; exact q76]; rfl)
          · refine r_iconst C d_R_isByArea_79 (by decide) ?_
            refine r_goto (tgt := 84) C d_R_isByArea_80 (by decide) ?_
            refine r_istore C d_R_isByArea_84 (by decide) ?_
            refine r_iinc C d_R_isByArea_86 rfl (by decide) (by omega) ?_
            refine r_goto (tgt := 12) C d_R_isByArea_89 (by decide) ?_
            have e2 : (i + 1).toNat = i.toNat + 1 := by omega
            refine AW.lvs [(6, _), (5, _), (3, _), (2, _), (1, _), (0, _)] ⟨rfl, rfl, rfl, rfl, rfl, rfl, trivial⟩ (ih (m - 1) (by omega) (i + 1) _ _ _ _ (by omega) (by omega) (by omega) (by rw [sumF_int hi0, hA]) ?_ (by rw [sumF_int hi0, hT]) ?_)
            · rw [sumF_int hi0, hO]
              show _ = _ + (if kF h i.toNat = 0 then 0 else h 41 0 i.toNat)
              first
                | (rw [if_pos (by omega)]; omega)
                | (rw [if_neg (by omega)]; done)
            · rw [e2, anyF_succ]
              first
                | (rw [bI_t (b := anyF i.toNat (fun f => decide (kF h f = 3))) (by rw [← hK]; omega)]; rfl)
                | (rw [bI_f (b := anyF i.toNat (fun f => decide (kF h f = 3))) (by rw [← hK]; omega)]; show _ = bI (false || decide (kF h i.toNat = 3)); rw [show decide (kF h i.toNat = 3) = true by simp; exact q76]; rfl)
                | (rw [bI_f (b := anyF i.toNat (fun f => decide (kF h f = 3))) (by rw [← hK]; omega)]; show _ = bI (false || decide (kF h i.toNat = 3)); rw [show decide (kF h i.toNat = 3) = false by simp; exact q76]; rfl)
      · refine r_iload_n (i0 := 2) C d_R_isByArea_40 rfl rfl ?_
        refine r_goto (tgt := 53) C d_R_isByArea_41 (by decide) ?_
        refine r_istore_n (i0 := 2) C d_R_isByArea_53 rfl (by decide) ?_
        refine r_lload_n (i0 := 3) C d_R_isByArea_54 rfl rfl ?_
        refine r_aload_n (i0 := 0) C d_R_isByArea_55 rfl rfl ?_
        refine r_getO C fl_R_65 d_R_isByArea_56 rfl rfl (fun hi => hi) ?_
        refine r_iload C d_R_isByArea_59 rfl ?_
        refine r_laload (ln := 6) C d_R_isByArea_61 rfl (fun _ => rfl) rfl (by omega) ?_
        refine r_ladd C d_R_isByArea_62 (by omega) ?_
        refine r_lstore_n (i0 := 3) C d_R_isByArea_63 rfl (by decide) ?_
        refine r_iload C d_R_isByArea_64 rfl ?_
        refine r_if_ne (tgt := 79) C d_R_isByArea_66 (by decide) (fun q66 => ?_) (fun q66 => ?_)
        · refine r_iconst C d_R_isByArea_79 (by decide) ?_
          refine r_goto (tgt := 84) C d_R_isByArea_80 (by decide) ?_
          refine r_istore C d_R_isByArea_84 (by decide) ?_
          refine r_iinc C d_R_isByArea_86 rfl (by decide) (by omega) ?_
          refine r_goto (tgt := 12) C d_R_isByArea_89 (by decide) ?_
          have e2 : (i + 1).toNat = i.toNat + 1 := by omega
          refine AW.lvs [(6, _), (5, _), (3, _), (2, _), (1, _), (0, _)] ⟨rfl, rfl, rfl, rfl, rfl, rfl, trivial⟩ (ih (m - 1) (by omega) (i + 1) _ _ _ _ (by omega) (by omega) (by omega) (by rw [sumF_int hi0, hA]) ?_ (by rw [sumF_int hi0, hT]) ?_)
          · rw [sumF_int hi0, hO]
            show _ = _ + (if kF h i.toNat = 0 then 0 else h 41 0 i.toNat)
            first
              | (rw [if_pos (by omega)]; omega)
              | (rw [if_neg (by omega)]; done)
          · rw [e2, anyF_succ]
            first
              | (rw [bI_t (b := anyF i.toNat (fun f => decide (kF h f = 3))) (by rw [← hK]; omega)]; rfl)
              | (rw [bI_f (b := anyF i.toNat (fun f => decide (kF h f = 3))) (by rw [← hK]; omega)]; show _ = bI (false || decide (kF h i.toNat = 3)); rw [show decide (kF h i.toNat = 3) = true by simp; exact q76]; rfl)
              | (rw [bI_f (b := anyF i.toNat (fun f => decide (kF h f = 3))) (by rw [← hK]; omega)]; show _ = bI (false || decide (kF h i.toNat = 3)); rw [show decide (kF h i.toNat = 3) = false by simp; exact q76]; rfl)
        · refine r_aload_n (i0 := 0) C d_R_isByArea_69 rfl rfl ?_
          refine r_iload C d_R_isByArea_70 rfl ?_
          refine r_callVp C cl_R_154 im_R_kindOf rfl rfl (c_R_kindOf hx (by omega) (hF i.toNat (by omega)).2.2.2 (hF i.toNat (by omega)).2.2.1) rfl rfl d_R_isByArea_72 (by decide) (Nat.le_of_ble_eq_true rfl) ?_
          refine r_iconst C d_R_isByArea_75 (by decide) ?_
          refine r_icmp_ne (tgt := 83) C d_R_isByArea_76 (by decide) (fun q76 => ?_) (fun q76 => ?_)
          · refine r_iconst C d_R_isByArea_83 (by decide) ?_
            refine r_istore C d_R_isByArea_84 (by decide) ?_
            refine r_iinc C d_R_isByArea_86 rfl (by decide) (by omega) ?_
            refine r_goto (tgt := 12) C d_R_isByArea_89 (by decide) ?_
            have e2 : (i + 1).toNat = i.toNat + 1 := by omega
            refine AW.lvs [(6, _), (5, _), (3, _), (2, _), (1, _), (0, _)] ⟨rfl, rfl, rfl, rfl, rfl, rfl, trivial⟩ (ih (m - 1) (by omega) (i + 1) _ _ _ _ (by omega) (by omega) (by omega) (by rw [sumF_int hi0, hA]) ?_ (by rw [sumF_int hi0, hT]) ?_)
            · rw [sumF_int hi0, hO]
              show _ = _ + (if kF h i.toNat = 0 then 0 else h 41 0 i.toNat)
              first
                | (rw [if_pos (by omega)]; omega)
                | (rw [if_neg (by omega)]; done)
            · rw [e2, anyF_succ]
              first
                | (rw [bI_t (b := anyF i.toNat (fun f => decide (kF h f = 3))) (by rw [← hK]; omega)]; rfl)
                | (rw [bI_f (b := anyF i.toNat (fun f => decide (kF h f = 3))) (by rw [← hK]; omega)]; show _ = bI (false || decide (kF h i.toNat = 3)); rw [show decide (kF h i.toNat = 3) = true by simp; exact q76]; rfl)
                | (rw [bI_f (b := anyF i.toNat (fun f => decide (kF h f = 3))) (by rw [← hK]; omega)]; show _ = bI (false || decide (kF h i.toNat = 3)); rw [show decide (kF h i.toNat = 3) = false by simp; exact q76]; rfl)
          · refine r_iconst C d_R_isByArea_79 (by decide) ?_
            refine r_goto (tgt := 84) C d_R_isByArea_80 (by decide) ?_
            refine r_istore C d_R_isByArea_84 (by decide) ?_
            refine r_iinc C d_R_isByArea_86 rfl (by decide) (by omega) ?_
            refine r_goto (tgt := 12) C d_R_isByArea_89 (by decide) ?_
            have e2 : (i + 1).toNat = i.toNat + 1 := by omega
            refine AW.lvs [(6, _), (5, _), (3, _), (2, _), (1, _), (0, _)] ⟨rfl, rfl, rfl, rfl, rfl, rfl, trivial⟩ (ih (m - 1) (by omega) (i + 1) _ _ _ _ (by omega) (by omega) (by omega) (by rw [sumF_int hi0, hA]) ?_ (by rw [sumF_int hi0, hT]) ?_)
            · rw [sumF_int hi0, hO]
              show _ = _ + (if kF h i.toNat = 0 then 0 else h 41 0 i.toNat)
              first
                | (rw [if_pos (by omega)]; omega)
                | (rw [if_neg (by omega)]; done)
            · rw [e2, anyF_succ]
              first
                | (rw [bI_t (b := anyF i.toNat (fun f => decide (kF h f = 3))) (by rw [← hK]; omega)]; rfl)
                | (rw [bI_f (b := anyF i.toNat (fun f => decide (kF h f = 3))) (by rw [← hK]; omega)]; show _ = bI (false || decide (kF h i.toNat = 3)); rw [show decide (kF h i.toNat = 3) = true by simp; exact q76]; rfl)
                | (rw [bI_f (b := anyF i.toNat (fun f => decide (kF h f = 3))) (by rw [← hK]; omega)]; show _ = bI (false || decide (kF h i.toNat = 3)); rw [show decide (kF h i.toNat = 3) = false by simp; exact q76]; rfl)
  refine r_iconst C d_R_isByArea_0 (by decide) ?_
  refine r_istore_n (i0 := 1) C d_R_isByArea_1 rfl (by decide) ?_
  refine r_iconst C d_R_isByArea_2 (by decide) ?_
  refine r_istore_n (i0 := 2) C d_R_isByArea_3 rfl (by decide) ?_
  refine r_lconst C 0 d_R_isByArea_4 (by decide) (by decide) ?_
  refine r_lstore_n (i0 := 3) C d_R_isByArea_5 rfl (by decide) ?_
  refine r_iconst C d_R_isByArea_6 (by decide) ?_
  refine r_istore C d_R_isByArea_7 (by decide) ?_
  refine r_iconst C d_R_isByArea_9 (by decide) ?_
  refine r_istore C d_R_isByArea_10 (by decide) ?_
  exact AW.lvs [(6, _), (5, _), (3, _), (2, _), (1, _), (0, _)] ⟨rfl, rfl, rfl, rfl, rfl, rfl, trivial⟩ (loop _ 0 0 0 0 0 (by omega) (by omega) rfl rfl rfl rfl rfl)

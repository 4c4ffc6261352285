/-! Contracts of the reference: bill. -/
def rbH (h h' : AH) : Prop := (∀ t : Nat, t < 40 ∨ 61 < t ∨ (40 < t ∧ t < 51) ∨ (52 < t ∧ t < 56) → h' t = h t) ∧ (∀ j : Nat, (j < 25 ∨ 32 < j) → j ≠ 0 → j ≠ 19 → h' 40 0 j = h 40 0 j) ∧ h' 40 0 0 = 0 ∧ h' 40 0 19 = 1 ∧ (h' 51 0 0 = bbR h ∧ h' 51 0 1 = coR h ∧ h' 51 0 2 = p2R h ∧ h' 51 0 3 = p3R h ∧ h' 51 0 4 = p4R h) ∧ ∀ r : Nat, r < 21 → h' 52 0 (3 * r) = otR (SR h (nR h)) (gaA (rAr h)) (nR h) (p3R h) r ∧ h' 52 0 (3 * r + 1) = otR (SR h (nR h)) (g1R h) (nR h) (p4R h) r ∧ h' 52 0 (3 * r + 2) = otR (SR h (nR h)) (g2R h) (nR h) (p2R h) r
/-- nothing but what look writes -/
def rbN (h h' : AH) : Prop := (∀ t : Nat, t ≠ 40 → t ≠ 56 → h' t = h t) ∧ (∀ j : Nat, (j < 25 ∨ 32 < j) → j ≠ 0 → j ≠ 19 → h' 40 0 j = h 40 0 j) ∧ h' 40 0 0 = 0 ∧ h' 40 0 19 = 0
theorem rbN_z (h : AH) : rbN h (z0 h) := ⟨fun t e _ => z0_fr h e, fun j _ e1 e2 => z0_40 h e1 e2, rfl, rfl⟩
theorem rbN_l (h : AH) : rbN h (lR (z0 h)) := ⟨fun t e e2 => lz_fr h ⟨e, e2⟩, fun j e e1 e2 => lz_40 h (by omega) e1 e2, rfl, rfl⟩
theorem rbP_n {h h' : AH} (e : rbR h = -1) (k : rbN h h') : if rbR h = -1 then rbN h h' else rbH h h' := by rw [if_pos e]; exact k
theorem rbP_y {h h' : AH} (e : rbR h ≠ -1) (k : rbH h h') : if rbR h = -1 then rbN h h' else rbH h h' := by rw [if_neg e]; exact k
theorem rbH_of {h g1 g2 g3 : AH} (s1 : shP h (BH h) 0 (p3R h) (gaA (rAr h)) g1) (s2 : shP h g1 1 (p4R h) (g1R h) g2) (s3 : shP h g2 2 (p2R h) (g2R h) g3) : rbH h (hset g3 40 0 19 1) := by
  obtain ⟨F3, r3⟩ := s3
  have r2 := s2.2
  have r1 := s1.2
  have a0 : (0 : Int).toNat = 0 := rfl
  have a1 : (1 : Int).toNat = 1 := rfl
  have a2 : (2 : Int).toNat = 2 := rfl
  rw [a0] at r1
  rw [a1] at r2
  rw [a2] at r3
  refine ⟨fun t e => ?_, fun j e e1 e2 => ?_, ?_, hset_same _ _ _ _ _, ?_, fun r hr => ?_⟩
  · rw [hset_fr _ _ _ _ (by omega), F3.t (by omega), BH_fr h (by omega)]
  · rw [hset_slot _ _ e2, F3.2 j (by omega), BH_40 h (by omega) e1 e2]
  · rw [hset_slot _ _ (by decide), F3.2 0 (by decide), BH_l h (by decide)]
    exact (lz_0 h).1
  · rw [hset_fr _ _ _ _ (by decide), F3.t (by decide)]
    exact BH_51 h
  · rw [hset_fr _ _ _ _ (by decide)]
    refine ⟨?_, ?_, ?_⟩
    · rw [r3 _ (by omega), if_neg (by omega), r2 _ (by omega), if_neg (by omega), r1 _ (by omega), if_pos (by omega), show 3 * r / 3 = r by omega]
    · rw [r3 _ (by omega), if_neg (by omega), r2 _ (by omega), if_pos (by omega), show (3 * r + 1) / 3 = r by omega]
    · rw [r3 _ (by omega), if_pos (by omega), show (3 * r + 2) / 3 = r by omega]
set_option maxHeartbeats 1000000 in
theorem c_R_bill {l : Launch} (hl : l.stackTraces = false) {w : XW} {h : AH} (hI : IR h) : AM l y_R_bill (wsM y_R_bill b_R_bill 3 (some .int) []) false (rmV 5 0) w [vO 40 0] h (RetP (some (vI (rbR h))) (fun h' => if rbR h = -1 then rbN h h' else rbH h h')) := by
  refine AM.of hl (by decide +kernel) (Nat.le_of_ble_eq_true rfl) fun x hx C _ => ?_
  have z1 := z0_v h
  have hc := hI.1
  have ec : nR h = (h 40 0 1).toNat := rfl
  have hz1 : z0 h 40 0 1 = h 40 0 1 := z0_40 h (by decide) (by decide)
  have hL1 := hI.2.2.2.2.2.2.2.2.1.1
  have j96 : h 40 0 1 ≠ 0 → (h 40 0 13 ≠ -1 ∧ 0 < bbR h) → (fitR h = 1 → degF (h 50 0) 0 12 = 100 ∨ ndR h = false) → AW x w 3 false 0 0 (AQ x w false 0 0 (RetP (some (vI (rbR h))) (fun h' => if rbR h = -1 then rbN h h' else rbH h h'))) 96 [(1, vI (1 - fitR h)), (0, vO 40 0)] [] (BH h) := by
    intro hc0 hb hok
    have n1 : 1 ≤ nR h := by omega
    have pb := partsR_bd hI hb
    have hb01 : 1 - fitR h = 0 ∨ 1 - fitR h = 1 := by have := fitR_01 h; omega
    have e2 := rbR_2 hc0 hb hok
    refine r_aload_n (i0 := 0) C d_R_bill_96 rfl rfl ?_
    refine r_iconst C d_R_bill_97 (by decide) ?_
    refine r_aload_n (i0 := 0) C d_R_bill_98 rfl rfl ?_
    refine r_getO C fl_R_50 d_R_bill_99 rfl rfl (fun hi => hi) ?_
    refine r_iconst C d_R_bill_102 (by decide) ?_
    refine r_iaload (ln := 5) C d_R_bill_103 rfl (fun _ => rfl) rfl (by decide) ?_
    rw [show BH h 51 0 (3 : Int).toNat = p3R h from (BH_51 h).2.2.2.1]
    refine r_iload_n (i0 := 1) C d_R_bill_104 rfl rfl ?_
    refine r_callVw C cl_R_229 im_R_share rfl rfl (c_R_share0 hx hI n1 (FrR.rfl' _) pb.2.1 hb01 (fun j hj _ => BH_52 h hj)) rfl rfl d_R_bill_105 (by decide) (by decide) (Nat.le_of_ble_eq_true rfl) (fun h105 p105 => ?_)
    refine r_aload_n (i0 := 0) C d_R_bill_108 rfl rfl ?_
    refine r_iconst C d_R_bill_109 (by decide) ?_
    refine r_aload_n (i0 := 0) C d_R_bill_110 rfl rfl ?_
    refine r_getO C fl_R_50 d_R_bill_111 rfl rfl (fun hi => hi) ?_
    refine r_iconst C d_R_bill_114 (by decide) ?_
    refine r_iaload (ln := 5) C d_R_bill_115 rfl (fun _ => rfl) rfl (by decide) ?_
    rw [show h105 51 0 (4 : Int).toNat = p4R h from by rw [p105.1.t (by decide)]; exact (BH_51 h).2.2.2.2]
    refine r_iload_n (i0 := 1) C d_R_bill_116 rfl rfl ?_
    refine r_callVw C cl_R_229 im_R_share rfl rfl (c_R_share1 hx hI n1 p105.1 pb.2.2 rfl hok (fun j hj e => by rw [p105.2 j hj, if_neg (by rw [e]; decide), BH_52 h hj])) rfl rfl d_R_bill_117 (by decide) (by decide) (Nat.le_of_ble_eq_true rfl) (fun h117 p117 => ?_)
    refine r_aload_n (i0 := 0) C d_R_bill_120 rfl rfl ?_
    refine r_iconst C d_R_bill_121 (by decide) ?_
    refine r_aload_n (i0 := 0) C d_R_bill_122 rfl rfl ?_
    refine r_getO C fl_R_50 d_R_bill_123 rfl rfl (fun hi => hi) ?_
    refine r_iconst C d_R_bill_126 (by decide) ?_
    refine r_iaload (ln := 5) C d_R_bill_127 rfl (fun _ => rfl) rfl (by decide) ?_
    rw [show h117 51 0 (2 : Int).toNat = p2R h from by rw [p117.1.t (by decide)]; exact (BH_51 h).2.2.1]
    refine r_iload_n (i0 := 1) C d_R_bill_128 rfl rfl ?_
    refine r_callVw C cl_R_229 im_R_share rfl rfl (c_R_share2 hx hI n1 p117.1 pb.1 hb01 (fun j hj e => by rw [p117.2 j hj, if_neg (by rw [e]; decide), p105.2 j hj, if_neg (by rw [e]; decide), BH_52 h hj])) rfl rfl d_R_bill_129 (by decide) (by decide) (Nat.le_of_ble_eq_true rfl) (fun h129 p129 => ?_)
    refine r_aload_n (i0 := 0) C d_R_bill_132 rfl rfl ?_
    refine r_iconst C d_R_bill_133 (by decide) ?_
    refine r_putZ C pl_R_98 d_R_bill_134 rfl (by omega) ?_
    refine r_iload_n (i0 := 1) C d_R_bill_137 rfl rfl ?_
    refine r_if_eq (tgt := 145) C d_R_bill_138 (by decide) (fun q138 => ?_) (fun q138 => ?_)
    · refine r_iconst C d_R_bill_145 (by decide) ?_
      exact r_iret C d_R_bill_146 (fun _ => ⟨by rw [e2]; first | (rw [if_pos (by omega)]; done) | (rw [if_neg (by omega)]; done), rbP_y (by rw [e2]; split <;> decide) (rbH_of p105 p117 p129)⟩) (by decide) (fun q => nomatch q)
    · refine r_iconst C d_R_bill_141 (by decide) ?_
      refine r_goto (tgt := 146) C d_R_bill_142 (by decide) ?_
      exact r_iret C d_R_bill_146 (fun _ => ⟨by rw [e2]; first | (rw [if_pos (by omega)]; done) | (rw [if_neg (by omega)]; done), rbP_y (by rw [e2]; split <;> decide) (rbH_of p105 p117 p129)⟩) (by decide) (fun q => nomatch q)
  have loop : h 40 0 1 ≠ 0 → (h 40 0 13 ≠ -1 ∧ 0 < bbR h) → (fitR h = 1 → degF (h 50 0) 0 12 = 100 ∨ ndR h = false) → ∀ (m : Nat) (i : Int), 0 ≤ i → i ≤ 63 → (63 - i).toNat = m → AW x w 3 false 0 0 (AQ x w false 0 0 (RetP (some (vI (rbR h))) (fun h' => if rbR h = -1 then rbN h h' else rbH h h'))) 77 [(2, vI i), (1, vI (1 - fitR h)), (0, vO 40 0)] [] (hfill (B0 h) 52 0 0 i.toNat 0) := by
    intro hc0 hb hok
    intro m
    induction m using Nat.strongRecOn with
    | _ m ih =>
    intro i hi0 hi1 hm
    refine r_iload_n (i0 := 2) C d_R_bill_77 rfl rfl ?_
    refine r_bipush C d_R_bill_78 (by decide) (by decide) ?_
    refine r_icmp_ge (tgt := 96) C d_R_bill_80 (by decide) (fun q80 => ?_) (fun q80 => ?_)
    · have e : i.toNat = 63 := (by omega)
      rw [e]
      exact AW.lvs [(1, _), (0, _)] ⟨rfl, rfl, trivial⟩ (j96 hc0 hb hok)
    · refine r_aload_n (i0 := 0) C d_R_bill_83 rfl rfl ?_
      refine r_getO C fl_R_53 d_R_bill_84 rfl rfl (fun hi => hi) ?_
      refine r_iload_n (i0 := 2) C d_R_bill_87 rfl rfl ?_
      refine r_iconst C d_R_bill_88 (by decide) ?_
      refine r_iastore (ln := 63) C d_R_bill_89 rfl (fun _ => rfl) rfl (by omega) ?_
      refine r_iinc C d_R_bill_90 rfl (by decide) (by omega) ?_
      refine r_goto (tgt := 77) C d_R_bill_93 (by decide) ?_
      have e2 : (i + 1).toNat = i.toNat + 1 := by omega
      have ee := ih (m - 1) (by omega) (i + 1) (by omega) (by omega) (by omega)
      rw [e2] at ee
      have es := hfill_succ (B0 h) 52 0 0 i.toNat 0
      rw [Nat.zero_add] at es
      exact AW.lvs [(2, _), (1, _), (0, _)] ⟨rfl, rfl, rfl, trivial⟩ (AW.heq es ee)
  have j71 : h 40 0 1 ≠ 0 → (h 40 0 13 ≠ -1 ∧ 0 < bbR h) → (fitR h = 1 → degF (h 50 0) 0 12 = 100 ∨ ndR h = false) → AW x w 3 false 0 0 (AQ x w false 0 0 (RetP (some (vI (rbR h))) (fun h' => if rbR h = -1 then rbN h h' else rbH h h'))) 71 [(1, vI (1 - fitR h)), (0, vO 40 0)] [] (lR (z0 h)) := by
    intro hc0 hb hok
    have f10 : 0 ≤ lR (z0 h) 40 0 10 := by rw [(lz_40 h (show (10 < 25 ∨ 30 < 10) by omega) (show (10 : Nat) ≠ 0 by decide) (show (10 : Nat) ≠ 19 by decide))]; exact hI.2.2.2.2.2.2.2.1
    have fU : FUv (lR (z0 h) 40 0 10).toNat (lR (z0 h) 48 0) (lR (z0 h) 49 0) := by rw [(lz_40 h (show (10 < 25 ∨ 30 < 10) by omega) (show (10 : Nat) ≠ 0 by decide) (show (10 : Nat) ≠ 19 by decide)), (lz_fr h (show (48 : Nat) ≠ 40 ∧ (48 : Nat) ≠ 56 by decide)), (lz_fr h (show (49 : Nat) ≠ 40 ∧ (49 : Nat) ≠ 56 by decide))]; exact hI.2.2.2.2.2.2.2.2.1
    have f13 : -1 ≤ lR (z0 h) 40 0 13 ∧ lR (z0 h) 40 0 13 ≤ 12000 := by rw [(lz_40 h (show (13 < 25 ∨ 30 < 13) by omega) (show (13 : Nat) ≠ 0 by decide) (show (13 : Nat) ≠ 19 by decide))]; exact hI.2.2.2.2.2.2.2.2.2.1
    have f14 : 0 ≤ lR (z0 h) 40 0 14 ∧ lR (z0 h) 40 0 14 ≤ 20000 := by rw [(lz_40 h (show (14 < 25 ∨ 30 < 14) by omega) (show (14 : Nat) ≠ 0 by decide) (show (14 : Nat) ≠ 19 by decide))]; exact hI.2.2.2.2.2.2.2.2.2.2.1
    have f15 : -1 ≤ lR (z0 h) 40 0 15 ∧ lR (z0 h) 40 0 15 ≤ 10000000 := by rw [(lz_40 h (show (15 < 25 ∨ 30 < 15) by omega) (show (15 : Nat) ≠ 0 by decide) (show (15 : Nat) ≠ 19 by decide))]; exact hI.2.2.2.2.2.2.2.2.2.2.2.1
    have f16 : 0 ≤ lR (z0 h) 40 0 16 ∧ lR (z0 h) 40 0 16 ≤ 100 := by rw [(lz_40 h (show (16 < 25 ∨ 30 < 16) by omega) (show (16 : Nat) ≠ 0 by decide) (show (16 : Nat) ≠ 19 by decide))]; exact hI.2.2.2.2.2.2.2.2.2.2.2.2.1
    have f17 : 0 ≤ lR (z0 h) 40 0 17 ∧ lR (z0 h) 40 0 17 ≤ 1000 := by rw [(lz_40 h (show (17 < 25 ∨ 30 < 17) by omega) (show (17 : Nat) ≠ 0 by decide) (show (17 : Nat) ≠ 19 by decide))]; exact hI.2.2.2.2.2.2.2.2.2.2.2.2.2.1
    have s13 := hI.2.2.2.2.2.2.2.2.2.1
    have fb : 0 < (sumF (lR (z0 h) 40 0 10).toNat (lR (z0 h) 48 0) - lR (z0 h) 40 0 13) ∧ 0 ≤ lR (z0 h) 40 0 13 := by rw [(lz_40 h (show (10 < 25 ∨ 30 < 10) by omega) (show (10 : Nat) ≠ 0 by decide) (show (10 : Nat) ≠ 19 by decide)), (lz_40 h (show (13 < 25 ∨ 30 < 13) by omega) (show (13 : Nat) ≠ 0 by decide) (show (13 : Nat) ≠ 19 by decide)), (lz_fr h (show (48 : Nat) ≠ 40 ∧ (48 : Nat) ≠ 56 by decide))]; exact ⟨hb.2, by omega⟩
    refine r_aload_n (i0 := 0) C d_R_bill_71 rfl rfl ?_
    refine r_callVw C cl_R_226 im_R_findParts rfl rfl (c_R_findParts hx f10 fU f13 f15 f16 f14 f17 fb) rfl rfl d_R_bill_72 (by decide) (by decide) (Nat.le_of_ble_eq_true rfl) (fun h72 p72 => ?_)
    have e72 : h72 = B0 h := by rw [p72, (lz_40 h (show (10 < 25 ∨ 30 < 10) by omega) (show (10 : Nat) ≠ 0 by decide) (show (10 : Nat) ≠ 19 by decide)), (lz_40 h (show (13 < 25 ∨ 30 < 13) by omega) (show (13 : Nat) ≠ 0 by decide) (show (13 : Nat) ≠ 19 by decide)), (lz_40 h (show (14 < 25 ∨ 30 < 14) by omega) (show (14 : Nat) ≠ 0 by decide) (show (14 : Nat) ≠ 19 by decide)), (lz_40 h (show (15 < 25 ∨ 30 < 15) by omega) (show (15 : Nat) ≠ 0 by decide) (show (15 : Nat) ≠ 19 by decide)), (lz_40 h (show (16 < 25 ∨ 30 < 16) by omega) (show (16 : Nat) ≠ 0 by decide) (show (16 : Nat) ≠ 19 by decide)), (lz_40 h (show (17 < 25 ∨ 30 < 17) by omega) (show (17 : Nat) ≠ 0 by decide) (show (17 : Nat) ≠ 19 by decide)), (lz_fr h (show (48 : Nat) ≠ 40 ∧ (48 : Nat) ≠ 56 by decide)), (lz_fr h (show (49 : Nat) ≠ 40 ∧ (49 : Nat) ≠ 56 by decide))]; rfl
    subst e72
    refine r_iconst C d_R_bill_75 (by decide) ?_
    refine r_istore_n (i0 := 2) C d_R_bill_76 rfl (by decide) ?_
    exact AW.lvs [(2, _), (1, _), (0, _)] ⟨rfl, rfl, rfl, trivial⟩ (AW.dirty (AW.heq (hfill_zero _ 52 0 0 0).symm (loop hc0 hb hok _ 0 (by omega) (by omega) rfl)))
  have s13 := hI.2.2.2.2.2.2.2.2.2.1
  have hU := hI.2.2.2.2.2.2.2.2.1
  have hd := hI.2.2.2.2.2.2.2.2.2.2.2.2.2.2
  refine r_aload_n (i0 := 0) C d_R_bill_0 rfl rfl ?_
  refine r_iconst C d_R_bill_1 (by decide) ?_
  refine r_putI C pl_R_85 d_R_bill_2 rfl ?_
  refine r_aload_n (i0 := 0) C d_R_bill_5 rfl rfl ?_
  refine r_iconst C d_R_bill_6 (by decide) ?_
  refine r_putZ C pl_R_98 d_R_bill_7 rfl (by omega) ?_
  refine AW.heq (show _ = z0 h from rfl) ?_
  refine r_aload_n (i0 := 0) C d_R_bill_10 rfl rfl ?_
  refine r_getI C fl_R_88 d_R_bill_11 rfl ?_
  rw [z0_40 h (by decide) (by decide)]
  refine r_if_eq (tgt := 35) C d_R_bill_14 (by decide) (fun q14 => ?_) (fun q14 => ?_)
  · refine r_iconst C d_R_bill_35 (by decide) ?_
    exact r_iret C d_R_bill_36 (fun _ => by have e0 : rbR h = -1 := rbR_0 (by first | exact Or.inl q14 | exact Or.inr (fun z => by have z1 := z.1; omega) | exact Or.inr (fun z => by have z2 := z.2; unfold bbR at z2; omega)); exact ⟨by rw [e0], rbP_n e0 (rbN_z h)⟩) (by decide) (fun q => nomatch q)
  · refine r_aload_n (i0 := 0) C d_R_bill_17 rfl rfl ?_
    refine r_getI C fl_R_37 d_R_bill_18 rfl ?_
    rw [z0_40 h (by decide) (by decide)]
    refine r_if_lt (tgt := 35) C d_R_bill_21 (by decide) (fun q21 => ?_) (fun q21 => ?_)
    · refine r_iconst C d_R_bill_35 (by decide) ?_
      exact r_iret C d_R_bill_36 (fun _ => by have e0 : rbR h = -1 := rbR_0 (by first | exact Or.inl q14 | exact Or.inr (fun z => by have z1 := z.1; omega) | exact Or.inr (fun z => by have z2 := z.2; unfold bbR at z2; omega)); exact ⟨by rw [e0], rbP_n e0 (rbN_z h)⟩) (by decide) (fun q => nomatch q)
    · refine r_aload_n (i0 := 0) C d_R_bill_24 rfl rfl ?_
      refine r_callVp C cl_R_113 im_R_allUnits rfl rfl (c_R_allUnits hx (by rw [z0_40 h (by decide) (by decide)]; exact ⟨hI.2.2.2.2.2.2.2.1, by omega⟩) (fun k hk => by rw [z0_40 h (by decide) (by decide)] at hk; rw [z0_fr h (by decide)]; have := (hU.2 k (by omega)).1; omega)) rfl rfl d_R_bill_25 (by decide) (Nat.le_of_ble_eq_true rfl) ?_
      rw [z0_40 h (show (10 : Nat) ≠ 0 by decide) (show (10 : Nat) ≠ 19 by decide), z0_fr h (show (48 : Nat) ≠ 40 by decide)]
      refine r_aload_n (i0 := 0) C d_R_bill_28 rfl rfl ?_
      refine r_getI C fl_R_37 d_R_bill_29 rfl ?_
      rw [z0_40 h (by decide) (by decide)]
      refine r_icmp_gt (tgt := 37) C d_R_bill_32 (by decide) (fun q32 => ?_) (fun q32 => ?_)
      · have hc0 : h 40 0 1 ≠ 0 := q14
        have hb : h 40 0 13 ≠ -1 ∧ 0 < bbR h := ⟨by omega, by unfold bbR; omega⟩
        have ez1 : lR (z0 h) 40 0 1 = h 40 0 1 := lz_40 h (by omega) (by decide) (by decide)
        refine r_aload_n (i0 := 0) C d_R_bill_37 rfl rfl ?_
        refine r_callVw C cl_R_159 im_R_look rfl rfl (c_R_look hx (by rw [hz1]; exact hc) (by rw [hz1]; unfold FIr; rw [z1.2.1, z1.2.2.1, z1.2.2.2.1, z1.2.2.2.2]; exact hI.2.1)) rfl rfl d_R_bill_38 (by decide) (by decide) (Nat.le_of_ble_eq_true rfl) (fun h38 p38 => ?_)
        have e38 : h38 = lR (z0 h) := p38
        subst e38
        refine r_aload_n (i0 := 0) C d_R_bill_41 rfl rfl ?_
        refine r_callVp C cl_R_219 im_R_isByArea rfl rfl (c_R_isByArea hx (by rw [ez1]; exact hc) (by rw [ez1]; unfold FIr rAr rFc rKn rRd; rw [lz_rd, lz_fr h (show (41 : Nat) ≠ 40 ∧ (41 : Nat) ≠ 56 by decide), lz_fr h (show (43 : Nat) ≠ 40 ∧ (43 : Nat) ≠ 56 by decide), lz_fr h (show (47 : Nat) ≠ 40 ∧ (47 : Nat) ≠ 56 by decide)]; exact hI.2.1) (by rw [ez1]; intro f hf; rw [lz_56 h hf]; exact hI.td hf)) rfl rfl d_R_bill_42 (by decide) (Nat.le_of_ble_eq_true rfl) ?_
        rw [lz_fit hI]
        refine r_istore_n (i0 := 1) C d_R_bill_45 rfl (by decide) ?_
        refine r_iload_n (i0 := 1) C d_R_bill_46 rfl rfl ?_
        refine r_if_ne (tgt := 71) C d_R_bill_47 (by decide) (fun q47 => ?_) (fun q47 => ?_)
        · exact AW.lvs [(1, _), (0, _)] ⟨rfl, rfl, trivial⟩ (j71 hc0 hb (by first | (intro z; exfalso; omega) | (intro _; exact Or.inr (bI_f q54)) | (intro _; exact Or.inl q66)))
        · have ft1 : fitR h = 1 := (by have := fitR_01 h; omega)
          refine r_aload_n (i0 := 0) C d_R_bill_50 rfl rfl ?_
          refine r_callVp C cl_R_223 im_R_needsDegrees rfl rfl (c_R_needsDegrees hx (k := kRv h) (by rw [ez1]; exact hc) (fun f _ => by rw [lz_rd]; exact kRv_0 h f) (fun f hf t ht => by rw [lz_n] at hf; rw [lz_rd]; exact (hI.2.1 f hf).2.2.2 t ht)) rfl rfl d_R_bill_51 (by decide) (Nat.le_of_ble_eq_true rfl) ?_
          rw [lz_nd]
          refine r_if_eq (tgt := 71) C d_R_bill_54 (by decide) (fun q54 => ?_) (fun q54 => ?_)
          · exact AW.lvs [(1, _), (0, _)] ⟨rfl, rfl, trivial⟩ (j71 hc0 hb (by first | (intro z; exfalso; omega) | (intro _; exact Or.inr (bI_f q54)) | (intro _; exact Or.inl q66)))
          · refine r_aload_n (i0 := 0) C d_R_bill_57 rfl rfl ?_
            refine r_iconst C d_R_bill_58 (by decide) ?_
            refine r_bipush C d_R_bill_59 (by decide) (by decide) ?_
            refine r_callVp C cl_R_192 im_R_degreesOf rfl rfl (c_R_degreesOf hx (fun k hk => by rw [lz_fr h (by decide)]; exact hd k hk) (by decide)) rfl rfl d_R_bill_61 (by decide) (Nat.le_of_ble_eq_true rfl) ?_
            rw [lz_fr h (show (50 : Nat) ≠ 40 ∧ (50 : Nat) ≠ 56 by decide)]
            refine r_bipush C d_R_bill_64 (by decide) (by decide) ?_
            refine r_icmp_eq (tgt := 71) C d_R_bill_66 (by decide) (fun q66 => ?_) (fun q66 => ?_)
            · exact AW.lvs [(1, _), (0, _)] ⟨rfl, rfl, trivial⟩ (j71 hc0 hb (by first | (intro z; exfalso; omega) | (intro _; exact Or.inr (bI_f q54)) | (intro _; exact Or.inl q66)))
            · refine r_iconst C d_R_bill_69 (by decide) ?_
              exact r_iret C d_R_bill_70 (fun _ => by have e0 : rbR h = -1 := rbR_1 hc0 hb ⟨ft1, bI_t q54, q66⟩; exact ⟨by rw [e0], rbP_n e0 (rbN_l h)⟩) (by decide) (fun q => nomatch q)
      · refine r_iconst C d_R_bill_35 (by decide) ?_
        exact r_iret C d_R_bill_36 (fun _ => by have e0 : rbR h = -1 := rbR_0 (by first | exact Or.inl q14 | exact Or.inr (fun z => by have z1 := z.1; omega) | exact Or.inr (fun z => by have z2 := z.2; unfold bbR at z2; omega)); exact ⟨by rw [e0], rbP_n e0 (rbN_z h)⟩) (by decide) (fun q => nomatch q)

/-! Contracts: the weights by meters. -/
theorem hset_self (h : AH) (t i j : Nat) : hset h t i j (h t i j) = h := by
  funext t' i' j'; unfold hset; split
  · rename_i z; obtain ⟨rfl, rfl, rfl⟩ := z; rfl
  · rfl
/-- a span from fr to to, a stretch from b to e: where they meet; degrees of the stretch and of the meeting -/
def fmF (fr b : Int) : Int := if b < fr then fr else b
def tmF (to e : Int) : Int := if to < e then to else e
def alF (dg : Nat → Int) (b e : Int) : Int := if degF dg b.toNat e.toNat = 0 then e - b else degF dg b.toNat e.toNat
def owF (dg : Nat → Int) (b e f t : Int) : Int := if degF dg b.toNat e.toNat = 0 then t - f else degF dg f.toNat t.toNat
def adW (fr to : Int) (dg : Nat → Int) (b e u w d : Int) : Int := if tmF to e ≤ fmF fr b then w else if fmF fr b = b ∧ tmF to e = e then w + u * d else w * alF dg b e + u * owF dg b e (fmF fr b) (tmF to e) * d
def adD (fr to : Int) (dg : Nat → Int) (b e d : Int) : Int := if tmF to e ≤ fmF fr b then d else if fmF fr b = b ∧ tmF to e = e then d else d * alF dg b e
def stF (k fc sc un : Int) (r dg : Nat → Int) (fr to : Int) (n : Nat) : Int × Int × Int := match n with
  | 0 => (0, 0, 1)
  | t + 1 => if esI k r ((t : Int) + 1) = 1 then ((t : Int) + 1, adW fr to dg (stF k fc sc un r dg fr to t).1 ((t : Int) + 1) (suS k fc sc un r (stF k fc sc un r dg fr to t).1 ((t : Int) + 1)) (stF k fc sc un r dg fr to t).2.1 (stF k fc sc un r dg fr to t).2.2, adD fr to dg (stF k fc sc un r dg fr to t).1 ((t : Int) + 1) (stF k fc sc un r dg fr to t).2.2) else stF k fc sc un r dg fr to t
/-- span s of the class's heap -/
def stH (h : AH) (s : Nat) (t : Nat) : Int × Int × Int := stF (h 11 0 (h 14 0 s).toNat) (h 4 (h 14 0 s).toNat 2) (h 10 0 2) (h 12 0 (h 14 0 s).toNat) (h 5 (h 14 0 s).toNat) (h 29 0) (h 15 0 s) (h 16 0 s) t
def stOK (h : AH) : Prop := ∀ s : Nat, s < (h 13 0 4).toNat → ∀ t : Nat, t ≤ 12 → ((0 ≤ (stH h s t).1 ∧ (stH h s t).1 ≤ t) ∧ (0 ≤ (stH h s t).2.1 ∧ (stH h s t).2.1 ≤ 720000000000) ∧ (0 ≤ (stH h s t).2.2 ∧ (stH h s t).2.2 ≤ 10000)) ∧ (t < 12 → esI (h 11 0 (h 14 0 s).toNat) (h 5 (h 14 0 s).toNat) ((t : Int) + 1) = 1 → 0 ≤ suS (h 11 0 (h 14 0 s).toNat) (h 4 (h 14 0 s).toNat 2) (h 10 0 2) (h 12 0 (h 14 0 s).toNat) (h 5 (h 14 0 s).toNat) (stH h s t).1 ((t : Int) + 1) ∧ suS (h 11 0 (h 14 0 s).toNat) (h 4 (h 14 0 s).toNat 2) (h 10 0 2) (h 12 0 (h 14 0 s).toNat) (h 5 (h 14 0 s).toNat) (stH h s t).1 ((t : Int) + 1) ≤ 72000000)
set_option maxHeartbeats 1000000 in
theorem c_S_addStretch {l : Launch} (hl : l.stackTraces = false) {w : XW} {h : AH} {a b c u : Int} (hS : SPok h) (ha : 0 ≤ a ∧ a < h 13 0 4) (hb : 0 ≤ b ∧ b < c ∧ c ≤ 12) (hu : 0 ≤ u ∧ u ≤ 72000000) (hw : 0 ≤ (h 20 0 a.toNat) ∧ (h 20 0 a.toNat) ≤ 720000000000) (hdv : 0 ≤ (h 21 0 a.toNat) ∧ (h 21 0 a.toNat) ≤ 10000) (hd : ∀ k : Nat, k < 12 → 0 ≤ h 29 0 k ∧ h 29 0 k ≤ 100) : AM l y_S_addStretch (wsM y_S_addStretch b_S_addStretch 14 none []) false (rmV 1 0) w [vO 18 0, vO 13 0, vI a, vI b, vI c, vL u, vO 29 0] h (RetP none (fun h' => h' = hset (hset h 20 0 a.toNat (adW (h 15 0 a.toNat) (h 16 0 a.toNat) (h 29 0) b c u (h 20 0 a.toNat) (h 21 0 a.toNat))) 21 0 a.toNat (adD (h 15 0 a.toNat) (h 16 0 a.toNat) (h 29 0) b c (h 21 0 a.toNat)))) := by
  refine AM.of hl (by decide +kernel) (Nat.le_of_ble_eq_true rfl) fun x hx C _ => ?_
  have c0 := hS.cnt
  have r0 := hS.fr a.toNat (by omega)
  have m0 := mulN (A := 72000000) (B := 10000) (a := u) (b := (h 21 0 a.toNat)) hu hdv
  have join : ∀ (F T ow al : Int), (if b < (h 15 0 a.toNat) then (h 15 0 a.toNat) else b) = F → (if (h 16 0 a.toNat) < c then (h 16 0 a.toNat) else c) = T → F < T → ¬ (F = b ∧ T = c) → ow = owF (h 29 0) b c F T → al = alF (h 29 0) b c → (0 ≤ ow ∧ ow ≤ 1200) → (0 ≤ al ∧ al ≤ 1200) → AW x w 14 true 0 0 (AQ x w false 0 0 (RetP none (fun h' => h' = hset (hset h 20 0 a.toNat (adW (h 15 0 a.toNat) (h 16 0 a.toNat) (h 29 0) b c u (h 20 0 a.toNat) (h 21 0 a.toNat))) 21 0 a.toNat (adD (h 15 0 a.toNat) (h 16 0 a.toNat) (h 29 0) b c (h 21 0 a.toNat))))) 110 [(12, vL al), (10, vL ow), (9, vI T), (8, vI F), (0, vO 18 0), (1, vO 13 0), (2, vI a), (3, vI b), (4, vI c), (5, vL u), (7, vO 29 0)] [] h := by
    intro F T ow al hF hT hFT hn how hal bow bal
    have m1 := mulN (A := 720000000000) (B := 1200) (a := (h 20 0 a.toNat)) (b := al) hw bal
    have m2 := mulN (A := 72000000) (B := 1200) (a := u) (b := ow) hu bow
    have m3 := mulN (A := 86400000000) (B := 10000) (a := u * ow) (b := (h 21 0 a.toNat)) (by omega) hdv
    have m4 := mulN (A := 10000) (B := 1200) (a := (h 21 0 a.toNat)) (b := al) hdv bal
    refine r_aload_n (i0 := 0) C d_S_addStretch_110 rfl rfl ?_
    refine r_getO C fl_S_15 d_S_addStretch_111 rfl rfl (fun hi => hi) ?_
    refine r_iload_n (i0 := 2) C d_S_addStretch_114 rfl rfl ?_
    refine r_aload_n (i0 := 0) C d_S_addStretch_115 rfl rfl ?_
    refine r_getO C fl_S_15 d_S_addStretch_116 rfl rfl (fun hi => hi) ?_
    refine r_iload_n (i0 := 2) C d_S_addStretch_119 rfl rfl ?_
    refine r_laload (ln := 72) C d_S_addStretch_120 rfl (fun _ => rfl) rfl (by omega) ?_
    refine r_lload C d_S_addStretch_121 rfl ?_
    refine r_lmul C d_S_addStretch_123 (by omega) ?_
    refine r_lload C d_S_addStretch_124 rfl ?_
    refine r_lload C d_S_addStretch_126 rfl ?_
    refine r_lmul C d_S_addStretch_128 (by omega) ?_
    refine r_aload_n (i0 := 0) C d_S_addStretch_129 rfl rfl ?_
    refine r_getO C fl_S_19 d_S_addStretch_130 rfl rfl (fun hi => hi) ?_
    refine r_iload_n (i0 := 2) C d_S_addStretch_133 rfl rfl ?_
    refine r_laload (ln := 72) C d_S_addStretch_134 rfl (fun _ => rfl) rfl (by omega) ?_
    refine r_lmul C d_S_addStretch_135 (by omega) ?_
    refine r_ladd C d_S_addStretch_136 (by omega) ?_
    refine r_lastore (ln := 72) C d_S_addStretch_137 rfl (fun _ => rfl) rfl (by omega) ?_
    refine r_aload_n (i0 := 0) C d_S_addStretch_138 rfl rfl ?_
    refine r_getO C fl_S_19 d_S_addStretch_139 rfl rfl (fun hi => hi) ?_
    refine r_iload_n (i0 := 2) C d_S_addStretch_142 rfl rfl ?_
    refine r_dup2 C d_S_addStretch_143 rfl rfl ?_
    refine r_laload (ln := 72) C d_S_addStretch_144 rfl (fun _ => rfl) rfl (by omega) ?_
    simp only [hset_tag, ne_eq, not_false_eq_true, Nat.reduceEqDiff]
    refine r_lload C d_S_addStretch_145 rfl ?_
    refine r_lmul C d_S_addStretch_147 (by omega) ?_
    refine r_lastore (ln := 72) C d_S_addStretch_148 rfl (fun _ => rfl) rfl (by omega) ?_
    exact r_vret C d_S_addStretch_149 (⟨rfl, by unfold adW adD; rw [show fmF (h 15 0 a.toNat) b = F from hF, show tmF (h 16 0 a.toNat) c = T from hT, if_neg (by omega), if_neg (by omega), if_neg (by omega), if_neg (by omega), ← how, ← hal]⟩) (by decide) (fun q => nomatch q)
  refine r_iload_n (i0 := 3) C d_S_addStretch_0 rfl rfl ?_
  refine r_aload_n (i0 := 1) C d_S_addStretch_1 rfl rfl ?_
  refine r_getO C fl_S_77 d_S_addStretch_2 rfl rfl (fun hi => hi) ?_
  refine r_iload_n (i0 := 2) C d_S_addStretch_5 rfl rfl ?_
  refine r_iaload (ln := 72) C d_S_addStretch_6 rfl (fun _ => rfl) rfl (by omega) ?_
  refine r_callSp C cl_S_80 st_J_maxI (c_J_maxI hx) rfl rfl d_S_addStretch_7 (by decide) (Nat.le_of_ble_eq_true rfl) ?_
  generalize hF : (if b < (h 15 0 a.toNat) then (h 15 0 a.toNat) else b) = F
  refine r_istore C d_S_addStretch_10 (by decide) ?_
  refine r_iload C d_S_addStretch_12 rfl ?_
  refine r_aload_n (i0 := 1) C d_S_addStretch_14 rfl rfl ?_
  refine r_getO C fl_S_86 d_S_addStretch_15 rfl rfl (fun hi => hi) ?_
  refine r_iload_n (i0 := 2) C d_S_addStretch_18 rfl rfl ?_
  refine r_iaload (ln := 72) C d_S_addStretch_19 rfl (fun _ => rfl) rfl (by omega) ?_
  refine r_callSp C cl_S_89 st_J_minI (c_J_minI hx) rfl rfl d_S_addStretch_20 (by decide) (Nat.le_of_ble_eq_true rfl) ?_
  generalize hT : (if (h 16 0 a.toNat) < c then (h 16 0 a.toNat) else c) = T
  refine r_istore C d_S_addStretch_23 (by decide) ?_
  refine r_iload C d_S_addStretch_25 rfl ?_
  refine r_iload C d_S_addStretch_27 rfl ?_
  refine r_icmp_lt (tgt := 33) C d_S_addStretch_29 (by decide) (fun q29 => ?_) (fun q29 => ?_)
  · have bF : b ≤ F := (by rw [← hF]; split <;> omega)
    have bT : T ≤ c := (by rw [← hT]; split <;> omega)
    refine r_iload C d_S_addStretch_33 rfl ?_
    refine r_iload_n (i0 := 3) C d_S_addStretch_35 rfl rfl ?_
    refine r_icmp_ne (tgt := 65) C d_S_addStretch_36 (by decide) (fun q36 => ?_) (fun q36 => ?_)
    · refine r_aload C d_S_addStretch_65 rfl ?_
      refine r_iload C d_S_addStretch_67 rfl ?_
      refine r_iload C d_S_addStretch_69 rfl ?_
      refine r_callSp C cl_S_92 st_S_sumBetween (c_S_sumBetween hx hd (by omega)) rfl rfl d_S_addStretch_71 (by decide) (Nat.le_of_ble_eq_true rfl) ?_
      refine r_i2l C d_S_addStretch_74 ?_
      refine r_lstore C d_S_addStretch_75 (by decide) ?_
      refine r_aload C d_S_addStretch_77 rfl ?_
      refine r_iload_n (i0 := 3) C d_S_addStretch_79 rfl rfl ?_
      refine r_iload C d_S_addStretch_80 rfl ?_
      refine r_callSp C cl_S_92 st_S_sumBetween (c_S_sumBetween hx hd (by omega)) rfl rfl d_S_addStretch_82 (by decide) (Nat.le_of_ble_eq_true rfl) ?_
      refine r_i2l C d_S_addStretch_85 ?_
      refine r_lstore C d_S_addStretch_86 (by decide) ?_
      refine r_lload C d_S_addStretch_88 rfl ?_
      refine r_lconst C 0 d_S_addStretch_90 (by decide) (by decide) ?_
      refine r_lcmp_ne (tgt := 110) C d_S_addStretch_91 d_S_addStretch_92 (by decide) (fun q91 => ?_) (fun q91 => ?_)
      · have hF' : F = fmF (h 15 0 a.toNat) b := hF.symm
        have hT' : T = tmF (h 16 0 a.toNat) c := hT.symm
        refine AW.lvs [(12, _), (10, _), (9, _), (8, _), (0, _), (1, _), (2, _), (3, _), (4, _), (5, _), (7, _)] ⟨rfl, rfl, rfl, rfl, rfl, rfl, rfl, rfl, rfl, rfl, rfl, trivial⟩ (join F T _ _ hF hT (by omega) (by omega) ?_ ?_ ?_ ?_)
        · unfold owF; first | (rw [if_pos (by omega)]; done) | (rw [if_neg (by omega)]; done)
        · unfold alF; first | (rw [if_pos (by omega)]; done) | (rw [if_neg (by omega)]; done)
        · have dd := degF_bd hd (a := F.toNat) (b := T.toNat) (by omega) (by omega); omega
        · have dd := degF_bd hd (a := b.toNat) (b := c.toNat) (by omega) (by omega); omega
      · refine r_iload C d_S_addStretch_95 rfl ?_
        refine r_iload C d_S_addStretch_97 rfl ?_
        refine r_isub C d_S_addStretch_99 (by omega) ?_
        refine r_i2l C d_S_addStretch_100 ?_
        refine r_lstore C d_S_addStretch_101 (by decide) ?_
        refine r_iload C d_S_addStretch_103 rfl ?_
        refine r_iload_n (i0 := 3) C d_S_addStretch_105 rfl rfl ?_
        refine r_isub C d_S_addStretch_106 (by omega) ?_
        refine r_i2l C d_S_addStretch_107 ?_
        refine r_lstore C d_S_addStretch_108 (by decide) ?_
        have hF' : F = fmF (h 15 0 a.toNat) b := hF.symm
        have hT' : T = tmF (h 16 0 a.toNat) c := hT.symm
        refine AW.lvs [(12, _), (10, _), (9, _), (8, _), (0, _), (1, _), (2, _), (3, _), (4, _), (5, _), (7, _)] ⟨rfl, rfl, rfl, rfl, rfl, rfl, rfl, rfl, rfl, rfl, rfl, trivial⟩ (join F T _ _ hF hT (by omega) (by omega) ?_ ?_ ?_ ?_)
        · unfold owF; first | (rw [if_pos (by omega)]; done) | (rw [if_neg (by omega)]; done)
        · unfold alF; first | (rw [if_pos (by omega)]; done) | (rw [if_neg (by omega)]; done)
        · have dd := degF_bd hd (a := F.toNat) (b := T.toNat) (by omega) (by omega); omega
        · have dd := degF_bd hd (a := b.toNat) (b := c.toNat) (by omega) (by omega); omega
    · refine r_iload C d_S_addStretch_39 rfl ?_
      refine r_iload C d_S_addStretch_41 rfl ?_
      refine r_icmp_ne (tgt := 65) C d_S_addStretch_43 (by decide) (fun q43 => ?_) (fun q43 => ?_)
      · refine r_aload C d_S_addStretch_65 rfl ?_
        refine r_iload C d_S_addStretch_67 rfl ?_
        refine r_iload C d_S_addStretch_69 rfl ?_
        refine r_callSp C cl_S_92 st_S_sumBetween (c_S_sumBetween hx hd (by omega)) rfl rfl d_S_addStretch_71 (by decide) (Nat.le_of_ble_eq_true rfl) ?_
        refine r_i2l C d_S_addStretch_74 ?_
        refine r_lstore C d_S_addStretch_75 (by decide) ?_
        refine r_aload C d_S_addStretch_77 rfl ?_
        refine r_iload_n (i0 := 3) C d_S_addStretch_79 rfl rfl ?_
        refine r_iload C d_S_addStretch_80 rfl ?_
        refine r_callSp C cl_S_92 st_S_sumBetween (c_S_sumBetween hx hd (by omega)) rfl rfl d_S_addStretch_82 (by decide) (Nat.le_of_ble_eq_true rfl) ?_
        refine r_i2l C d_S_addStretch_85 ?_
        refine r_lstore C d_S_addStretch_86 (by decide) ?_
        refine r_lload C d_S_addStretch_88 rfl ?_
        refine r_lconst C 0 d_S_addStretch_90 (by decide) (by decide) ?_
        refine r_lcmp_ne (tgt := 110) C d_S_addStretch_91 d_S_addStretch_92 (by decide) (fun q91 => ?_) (fun q91 => ?_)
        · have hF' : F = fmF (h 15 0 a.toNat) b := hF.symm
          have hT' : T = tmF (h 16 0 a.toNat) c := hT.symm
          refine AW.lvs [(12, _), (10, _), (9, _), (8, _), (0, _), (1, _), (2, _), (3, _), (4, _), (5, _), (7, _)] ⟨rfl, rfl, rfl, rfl, rfl, rfl, rfl, rfl, rfl, rfl, rfl, trivial⟩ (join F T _ _ hF hT (by omega) (by omega) ?_ ?_ ?_ ?_)
          · unfold owF; first | (rw [if_pos (by omega)]; done) | (rw [if_neg (by omega)]; done)
          · unfold alF; first | (rw [if_pos (by omega)]; done) | (rw [if_neg (by omega)]; done)
          · have dd := degF_bd hd (a := F.toNat) (b := T.toNat) (by omega) (by omega); omega
          · have dd := degF_bd hd (a := b.toNat) (b := c.toNat) (by omega) (by omega); omega
        · refine r_iload C d_S_addStretch_95 rfl ?_
          refine r_iload C d_S_addStretch_97 rfl ?_
          refine r_isub C d_S_addStretch_99 (by omega) ?_
          refine r_i2l C d_S_addStretch_100 ?_
          refine r_lstore C d_S_addStretch_101 (by decide) ?_
          refine r_iload C d_S_addStretch_103 rfl ?_
          refine r_iload_n (i0 := 3) C d_S_addStretch_105 rfl rfl ?_
          refine r_isub C d_S_addStretch_106 (by omega) ?_
          refine r_i2l C d_S_addStretch_107 ?_
          refine r_lstore C d_S_addStretch_108 (by decide) ?_
          have hF' : F = fmF (h 15 0 a.toNat) b := hF.symm
          have hT' : T = tmF (h 16 0 a.toNat) c := hT.symm
          refine AW.lvs [(12, _), (10, _), (9, _), (8, _), (0, _), (1, _), (2, _), (3, _), (4, _), (5, _), (7, _)] ⟨rfl, rfl, rfl, rfl, rfl, rfl, rfl, rfl, rfl, rfl, rfl, trivial⟩ (join F T _ _ hF hT (by omega) (by omega) ?_ ?_ ?_ ?_)
          · unfold owF; first | (rw [if_pos (by omega)]; done) | (rw [if_neg (by omega)]; done)
          · unfold alF; first | (rw [if_pos (by omega)]; done) | (rw [if_neg (by omega)]; done)
          · have dd := degF_bd hd (a := F.toNat) (b := T.toNat) (by omega) (by omega); omega
          · have dd := degF_bd hd (a := b.toNat) (b := c.toNat) (by omega) (by omega); omega
      · refine r_aload_n (i0 := 0) C d_S_addStretch_46 rfl rfl ?_
        refine r_getO C fl_S_15 d_S_addStretch_47 rfl rfl (fun hi => hi) ?_
        refine r_iload_n (i0 := 2) C d_S_addStretch_50 rfl rfl ?_
        refine r_dup2 C d_S_addStretch_51 rfl rfl ?_
        refine r_laload (ln := 72) C d_S_addStretch_52 rfl (fun _ => rfl) rfl (by omega) ?_
        refine r_lload C d_S_addStretch_53 rfl ?_
        refine r_aload_n (i0 := 0) C d_S_addStretch_55 rfl rfl ?_
        refine r_getO C fl_S_19 d_S_addStretch_56 rfl rfl (fun hi => hi) ?_
        refine r_iload_n (i0 := 2) C d_S_addStretch_59 rfl rfl ?_
        refine r_laload (ln := 72) C d_S_addStretch_60 rfl (fun _ => rfl) rfl (by omega) ?_
        refine r_lmul C d_S_addStretch_61 (by omega) ?_
        refine r_ladd C d_S_addStretch_62 (by omega) ?_
        refine r_lastore (ln := 72) C d_S_addStretch_63 rfl (fun _ => rfl) rfl (by omega) ?_
        exact r_vret C d_S_addStretch_64 (⟨rfl, by unfold adW adD; rw [show fmF (h 15 0 a.toNat) b = F from hF, show tmF (h 16 0 a.toNat) c = T from hT]; simp only [if_neg (show ¬ T ≤ F by omega), if_pos (show F = b ∧ T = c by omega)]; have e := hset_self (hset h 20 0 a.toNat ((h 20 0 a.toNat) + u * (h 21 0 a.toNat))) 21 0 a.toNat; rw [hset_tag _ _ (by decide)] at e; exact e.symm⟩) (by decide) (fun q => nomatch q)
  · have bF : b ≤ F := (by rw [← hF]; split <;> omega)
    have bT : T ≤ c := (by rw [← hT]; split <;> omega)
    exact r_vret C d_S_addStretch_32 (⟨rfl, by unfold adW adD; rw [show fmF (h 15 0 a.toNat) b = F from hF, show tmF (h 16 0 a.toNat) c = T from hT, if_pos (by omega), if_pos (by omega), hset_self, hset_self]⟩) (by decide) (fun q => nomatch q)

/-! Contracts of the reference: share. -/
def SR (h : AH) (n : Nat) : List SP := spA (rHs h) (rVl h) (fun f => h 46 0 f) n
theorem SR_succ (h : AH) (n : Nat) : SR h (n + 1) = SR h n ++ spF n (rHs h n) (rVl h n) (h 46 0 n) := rfl
theorem SR_len (h : AH) (n : Nat) : (SR h n).length ≤ 12 * n := spA_len _ _ _ _
/-- what is asked of the meters of the flats -/
def MTR (h : AH) (k : Nat → Int) : Prop := (∀ f : Nat, f < nR h → (k f = 0 ↔ rdI (rdR h f) = 1) ∧ (∀ t : Nat, t < 13 → -1 ≤ rdR h f t ∧ rdR h f t ≤ 99) ∧ (0 ≤ h 43 0 f ∧ h 43 0 f ≤ 2) ∧ MOK (k f) (h 43 0 f) (h 40 0 30) (h 56 0 f) (rdR h f)) ∧ (0 ≤ h 40 0 30 ∧ h 40 0 30 ≤ 360000) ∧ (∀ k : Nat, k < 12 → 0 ≤ h 50 0 k ∧ h 50 0 k ≤ 100) ∧ (degF (h 50 0) 0 12 = 100 ∨ ndB (nR h) (rHs h) (bR h k) = false)
/-- what spanByMeter says of a span -/
def UM (h : AH) (k : Nat → Int) (p al : Int) (f : Nat) (fr to : Int) (x y : Int) : Prop := ∃ X Y : Int, (1 ≤ Y ∧ Y ≤ 10000) ∧ 0 ≤ X ∧ X ≤ h 56 0 f * Y ∧ FF * X = Y * (GA (bdF (k f) (rdR h f)) (VF (k f) (h 43 0 f) (h 40 0 30) (h 56 0 f) (rdR h f)) (h 50 0) to.toNat - GA (bdF (k f) (rdR h f)) (VF (k f) (h 43 0 f) (h 40 0 30) (h 56 0 f) (rdR h f)) (h 50 0) fr.toNat) ∧ x = p * X ∧ y = al * Y
theorem RSF_over (h : AH) {n : Nat} (wh up dn : Nat → Int) {t : Nat} (i j : Nat) (e : t ≠ 40 ∧ t ≠ 57 ∧ t ≠ 58 ∧ t ≠ 59 ∧ t ≠ 61) : RSF h n wh up dn t i j = h t i j := by rw [RSF_fr _ _ _ _ _ e]
theorem RSF_57 (h : AH) {n : Nat} (wh up dn : Nat → Int) {s : Nat} (e : s < n) : RSF h n wh up dn 57 0 s = wh s := by unfold RSF; rw [if_neg (by omega), if_pos ⟨rfl, rfl, e⟩]
theorem RSF_58 (h : AH) {n : Nat} (wh up dn : Nat → Int) {s : Nat} (e : s < n) : RSF h n wh up dn 58 0 s = up s := by unfold RSF; rw [if_neg (by omega), if_neg (by omega), if_pos ⟨rfl, rfl, e⟩]
theorem RSF_59 (h : AH) {n : Nat} (wh up dn : Nat → Int) {s : Nat} (e : s < n) : RSF h n wh up dn 59 0 s = dn s := by unfold RSF; rw [if_neg (by omega), if_neg (by omega), if_neg (by omega), if_pos ⟨rfl, rfl, e⟩]
theorem RSF_61 (h : AH) {n : Nat} (wh up dn : Nat → Int) {s : Nat} (e : s < n) : RSF h n wh up dn 61 0 s = 0 := by unfold RSF; rw [if_neg (by omega), if_neg (by omega), if_neg (by omega), if_neg (by omega), if_pos ⟨rfl, rfl, e⟩]
set_option maxHeartbeats 1000000 in
theorem c_R_share {l : Launch} (hl : l.stackTraces = false) {w : XW} {h : AH} {a p b D : Int} {N k : Nat → Int} {U : SP → Int → Int → Prop} (hc : 0 ≤ h 40 0 1 ∧ h 40 0 1 ≤ 6) (hn1 : 1 ≤ nR h) (hp : 0 ≤ p ∧ p ≤ 260000) (ha3 : 0 ≤ a ∧ a < 3) (hb01 : b = 0 ∨ b = 1) (har : ∀ f : Nat, f < nR h → 0 ≤ h 41 0 f ∧ h 41 0 f ≤ 50) (hwa : ∀ f : Nat, f < nR h → 0 ≤ h 42 0 f ∧ h 42 0 f ≤ 50) (htd : ∀ f : Nat, f < nR h → 0 ≤ h 56 0 f ∧ h 56 0 f ≤ 72000000) (hMT0 : (a = 1 ∧ b = 0) → MTR h k) (hUw : (a = 2 ∧ 0 < (sumF (nR h) (h 42 0))) → ∀ f : Nat, f < nR h → ∀ b2 e2 who i : Int, i = (f : Int) → 0 ≤ b2 → U (i, b2, e2, who) (p * h 42 0 f * (e2 - b2)) (12 * (sumF (nR h) (h 42 0)))) (hUa : ¬ (a = 2 ∧ 0 < (sumF (nR h) (h 42 0))) → ¬ (a = 1 ∧ b = 0) → ∀ f : Nat, f < nR h → ∀ b2 e2 who i : Int, i = (f : Int) → 0 ≤ b2 → U (i, b2, e2, who) (p * h 41 0 f * (e2 - b2)) (12 * (sumF (nR h) (h 41 0)))) (hUm : ¬ (a = 2 ∧ 0 < (sumF (nR h) (h 42 0))) → (a = 1 ∧ b = 0) → ∀ f : Nat, f < nR h → ∀ fr to who x y i : Int, i = (f : Int) → UM h k p (sumF (nR h) (h 56 0)) f fr to x y → U (i, fr, to, who) x y) (hD : 0 < D) (hSum : sumF (SR h (nR h)).length N = p * D) (hN : ∀ s : Nat, s < (SR h (nR h)).length → 0 ≤ N s ∧ N s ≤ p * D) (hH : ∀ s : Nat, s < (SR h (nR h)).length → ∀ x y : Int, U (qS (SR h (nR h)) s) x y → (0 ≤ x ∧ x ≤ 1000000000000000000) ∧ (1 ≤ y ∧ y ≤ 10000000000000) ∧ x * D = N s * y) (hho : ∀ s : Nat, s < (SR h (nR h)).length → -1 ≤ (qS (SR h (nR h)) s).2.2.2 ∧ (qS (SR h (nR h)) s).2.2.2 < 20) (h0 : ∀ j : Nat, j < 63 → j % 3 = a.toNat → h 52 0 j = 0) : AM l y_R_share (wsM y_R_share b_R_share 10 none []) false (rmV 3 0) w [vO 40 0, vI a, vI p, vI b] h (RetP none (fun h' => ∃ wh : Nat → Int, (∀ s : Nat, s < (SR h (nR h)).length → wh s = (qS (SR h (nR h)) s).2.2.2) ∧ (∀ t : Nat, t ≠ 40 → t ≠ 52 → t ≠ 57 → t ≠ 58 → t ≠ 59 → t ≠ 60 → t ≠ 61 → h' t = h t) ∧ (∀ j : Nat, j ≠ 32 → h' 40 0 j = h 40 0 j) ∧ ∀ j : Nat, j < 63 → h' 52 0 j = if j % 3 = a.toNat then acR (SR h (nR h)).length (gvN (SR h (nR h)).length p D N) wh (j / 3) else h 52 0 j)) := by
  refine AM.of hl (by decide +kernel) (Nat.le_of_ble_eq_true rfl) fun x hx C _ => ?_
  have nr : nR h = (h 40 0 1).toNat := rfl
  have sA := sumF_bd (g := h 41 0) (L := 0) (M := 50) (n := nR h) har
  have sW := sumF_bd (g := h 42 0) (L := 0) (M := 50) (n := nR h) hwa
  have sT := sumF_bd (g := h 56 0) (L := 0) (M := 72000000) (n := nR h) htd
  have loopB : ∀ (m : Nat) (i : Int) (wh up dn : Nat → Int), 0 ≤ i → i ≤ h 40 0 1 → (h 40 0 1 - i).toNat = m → RSp (SR h i.toNat) wh up dn U → AW x w 10 false 0 0 (AQ x w false 0 0 (RetP none (fun h' => ∃ wh : Nat → Int, (∀ s : Nat, s < (SR h (nR h)).length → wh s = (qS (SR h (nR h)) s).2.2.2) ∧ (∀ t : Nat, t ≠ 40 → t ≠ 52 → t ≠ 57 → t ≠ 58 → t ≠ 59 → t ≠ 60 → t ≠ 61 → h' t = h t) ∧ (∀ j : Nat, j ≠ 32 → h' 40 0 j = h 40 0 j) ∧ ∀ j : Nat, j < 63 → h' 52 0 j = if j % 3 = a.toNat then acR (SR h (nR h)).length (gvN (SR h (nR h)).length p D N) wh (j / 3) else h 52 0 j))) 71 [(8, vI i), (5, vI (sumF (nR h) (h 42 0))), (4, vI (sumF (nR h) (h 41 0))), (6, vL (sumF (nR h) (h 56 0))), (0, vO 40 0), (1, vI a), (2, vI p), (3, vI b)] [] (RSF h (SR h i.toNat).length wh up dn) := by
    intro m
    induction m using Nat.strongRecOn with
    | _ m ih =>
    intro i wh up dn hi0 hi1 hm hR
    have inner : i < h 40 0 1 → ¬ (a = 2 ∧ 0 < (sumF (nR h) (h 42 0))) → (a = 1 ∧ b = 0) → ∀ (m2 : Nat) (t : Int) (S : List SP) (wh up dn : Nat → Int), 0 ≤ t → t ≤ 12 → (12 - t).toNat = m2 → RSp S wh up dn U → S ++ spT i (rHs h i.toNat) (rVl h i.toNat) (h 46 0 i.toNat) t.toNat = SR h (i.toNat + 1) → AW x w 10 false 0 0 (AQ x w false 0 0 (RetP none (fun h' => ∃ wh : Nat → Int, (∀ s : Nat, s < (SR h (nR h)).length → wh s = (qS (SR h (nR h)) s).2.2.2) ∧ (∀ t : Nat, t ≠ 40 → t ≠ 52 → t ≠ 57 → t ≠ 58 → t ≠ 59 → t ≠ 60 → t ≠ 61 → h' t = h t) ∧ (∀ j : Nat, j ≠ 32 → h' 40 0 j = h 40 0 j) ∧ ∀ j : Nat, j < 63 → h' 52 0 j = if j % 3 = a.toNat then acR (SR h (nR h)).length (gvN (SR h (nR h)).length p D N) wh (j / 3) else h 52 0 j))) 122 [(9, vI t), (8, vI i), (5, vI (sumF (nR h) (h 42 0))), (4, vI (sumF (nR h) (h 41 0))), (6, vL (sumF (nR h) (h 56 0))), (0, vO 40 0), (1, vI a), (2, vI p), (3, vI b)] [] (RSF h S.length wh up dn) := by
      intro hi2 hncw hcm
      have hin : i.toNat < nR h := by omega
      have hMT := hMT0 hcm
      intro m2
      induction m2 using Nat.strongRecOn with
      | _ m2 ih2 =>
      intro t S wh up dn ht0 ht1 hm2 hR hT
      refine r_iload C d_R_share_122 rfl ?_
      refine r_bipush C d_R_share_124 (by decide) (by decide) ?_
      refine r_icmp_ge (tgt := 162) C d_R_share_126 (by decide) (fun q126 => ?_) (fun q126 => ?_)
      · refine r_goto (tgt := 182) C d_R_share_162 (by decide) ?_
        refine r_iinc C d_R_share_182 rfl (by decide) (by omega) ?_
        refine r_goto (tgt := 71) C d_R_share_185 (by decide) ?_
        have e0 : spT i (rHs h i.toNat) (rVl h i.toNat) (h 46 0 i.toNat) t.toNat = [] := (by unfold spT; rw [if_neg (by omega)])
        rw [e0, List.append_nil] at hT
        subst hT
        have e2 : (i + 1).toNat = i.toNat + 1 := by omega
        exact AW.lvs [(8, _), (5, _), (4, _), (6, _), (0, _), (1, _), (2, _), (3, _)] ⟨rfl, rfl, rfl, rfl, rfl, rfl, rfl, rfl, trivial⟩ (AW.heq (by rw [e2]) (ih (m - 1) (by omega) (i + 1) _ _ _ (by omega) (by omega) (by omega) (by rw [e2]; exact hR)))
      · have et : (t.toNat : Int) = t := (by omega)
        have et1 : t.toNat + 1 = (t + 1).toNat := (by omega)
        have r := nxB_rng (rHs h i.toNat) (12 - t).toNat t.toNat (by omega)
        have hstep := spT_step i (rHs h i.toNat) (rVl h i.toNat) (h 46 0 i.toNat) (b := t.toNat) (by omega)
        rw [show 12 - t.toNat = (12 - t).toNat by omega] at hstep
        have hlen : S.length < 72 := (by have e := congrArg List.length hT; rw [hstep, List.length_append, List.length_cons] at e; have := SR_len h (i.toNat + 1); omega)
        have hmt := hMT.1 i.toNat hin
        have smem : (i, t, ((nxB (rHs h i.toNat) (12 - t).toNat t.toNat : Nat) : Int), (hoE (rHs h i.toNat) (rVl h i.toNat) (h 46 0 i.toNat) (t + 1).toNat)) ∈ SR h (i.toNat + 1) := (by rw [← hT, hstep, show (t.toNat : Int) = t by omega, show t.toNat + 1 = (t + 1).toNat by omega]; exact List.mem_append.mpr (Or.inr (List.mem_cons.mpr (Or.inl rfl))))
        have mm := mem_spA smem
        obtain ⟨fq, hfq, e1, e2, e3, e4, -⟩ := mm
        have efq : fq = i.toNat := (by have : i = (fq : Int) := e1; omega)
        subst efq
        have hcut := cut_ok (n := nR h) (hs := rHs h) (bd := bR h k) (vl := rVl h) (fh := fun f => h 46 0 f) hMT.2.2.1 hMT.2.2.2 (p := (i, t, ((nxB (rHs h i.toNat) (12 - t).toNat t.toNat : Nat) : Int), (hoE (rHs h i.toNat) (rVl h i.toNat) (h 46 0 i.toNat) (t + 1).toNat))) (f := i.toNat) (by show i.toNat < (h 40 0 1).toNat; omega) e3 e2 e4
        refine r_aload_n (i0 := 0) C d_R_share_129 rfl rfl ?_
        refine r_iload C d_R_share_130 rfl ?_
        refine r_iload C d_R_share_132 rfl ?_
        refine r_aload_n (i0 := 0) C d_R_share_134 rfl rfl ?_
        refine r_iload C d_R_share_135 rfl ?_
        refine r_iload C d_R_share_137 rfl ?_
        refine r_callVp C cl_R_183 im_R_endOf rfl rfl (c_R_endOf hx (by omega) (by omega)) rfl rfl d_R_share_139 (by decide) (Nat.le_of_ble_eq_true rfl) ?_
        simp only [RSF_hs, RSF_vl, RSF_46]
        refine r_iload_n (i0 := 2) C d_R_share_142 rfl rfl ?_
        refine r_i2l C d_R_share_143 ?_
        refine r_lload C d_R_share_144 rfl ?_
        refine r_callVw C cl_R_211 im_R_spanByMeter rfl rfl (c_R_spanByMeter hx (k := k i.toNat) hlen (by omega) (by omega) hp (by omega) hmt.1 hmt.2.1 hmt.2.2.1 hMT.2.1 hMT.2.2.1 hmt.2.2.2 hcut) rfl rfl d_R_share_146 (by decide) (by decide) (Nat.le_of_ble_eq_true rfl) (fun h146 p146 => ?_)
        obtain ⟨X, Y, hY, hX0, hX1, hXY, e146⟩ := p146
        subst e146
        refine r_aload_n (i0 := 0) C d_R_share_149 rfl rfl ?_
        refine r_iload C d_R_share_150 rfl ?_
        refine r_iload C d_R_share_152 rfl ?_
        refine r_callVp C cl_R_183 im_R_endOf rfl rfl (c_R_endOf hx (by omega) (by omega)) rfl rfl d_R_share_154 (by decide) (Nat.le_of_ble_eq_true rfl) ?_
        simp only [RSF_hs, RSF_vl, RSF_46]
        refine r_istore C d_R_share_157 (by decide) ?_
        refine r_goto (tgt := 122) C d_R_share_159 (by decide) ?_
        have hadd := hR.add (q := (i, t, ((nxB (rHs h i.toNat) (12 - t).toNat t.toNat : Nat) : Int), (hoE (rHs h i.toNat) (rVl h i.toNat) (h 46 0 i.toNat) (t + 1).toNat))) (hUm hncw hcm i.toNat hin t ((nxB (rHs h i.toNat) (12 - t).toNat t.toNat : Nat) : Int) (hoE (rHs h i.toNat) (rVl h i.toNat) (h 46 0 i.toNat) (t + 1).toNat) (p * X) ((sumF (nR h) (h 56 0)) * Y) i (by omega) ⟨X, Y, hY, hX0, hX1, hXY, rfl, rfl⟩)
        have ee := ih2 (12 - ((nxB (rHs h i.toNat) (12 - t).toNat t.toNat : Nat) : Int)).toNat (by omega) ((nxB (rHs h i.toNat) (12 - t).toNat t.toNat : Nat) : Int) (S ++ [(i, t, ((nxB (rHs h i.toNat) (12 - t).toNat t.toNat : Nat) : Int), (hoE (rHs h i.toNat) (rVl h i.toNat) (h 46 0 i.toNat) (t + 1).toNat))]) _ _ _ (by omega) (by omega) rfl hadd (by rw [Int.toNat_natCast, List.append_assoc, ← hT, hstep, et, et1]; rfl)
        exact AW.lvs [(9, _), (8, _), (5, _), (4, _), (6, _), (0, _), (1, _), (2, _), (3, _)] ⟨rfl, rfl, rfl, rfl, rfl, rfl, rfl, rfl, rfl, trivial⟩ (AW.heq (by rw [List.length_append]; rfl) ee)
    refine r_iload C d_R_share_71 rfl ?_
    refine r_aload_n (i0 := 0) C d_R_share_73 rfl rfl ?_
    refine r_getI C fl_R_88 d_R_share_74 rfl ?_
    rw [RSF_40 _ _ _ _ _ (by decide)]
    refine r_icmp_ge (tgt := 188) C d_R_share_77 (by decide) (fun q77 => ?_) (fun q77 => ?_)
    · have en : i.toNat = nR h := (by show i.toNat = (h 40 0 1).toNat; omega)
      rw [en] at hR ⊢
      have hl := SR_len h (nR h)
      have hl1 := spA_pos (hs := rHs h) (vl := rVl h) (fh := fun f => h 46 0 f) hn1
      have hl2 : 1 ≤ (SR h (nR h)).length := hl1
      have hOk : HOk (RSF h (SR h (nR h)).length wh up dn) (SR h (nR h)).length p D N := ⟨⟨rfl, hl2, by omega⟩, hp, hD, hSum, fun s hs => by rw [RSF_58 _ _ _ _ hs, RSF_59 _ _ _ _ hs, RSF_61 _ _ _ _ hs]; have z := hH s hs _ _ (hR s hs).2; exact ⟨z.1, z.2.1, z.2.2, hN s hs, rfl⟩⟩
      refine r_aload_n (i0 := 0) C d_R_share_188 rfl rfl ?_
      refine r_iload_n (i0 := 2) C d_R_share_189 rfl rfl ?_
      refine r_iload_n (i0 := 1) C d_R_share_190 rfl rfl ?_
      refine r_callVw C cl_R_215 im_R_handOut rfl rfl (c_R_handOut hx hOk ha3 (fun s hs => by rw [RSF_57 _ _ _ _ hs, (hR s hs).1]; exact hho s hs) (fun j hj h3 => by rw [RSF_over _ _ _ _ _ _ (by decide)]; exact h0 j hj h3)) rfl rfl d_R_share_191 (by decide) (by decide) (Nat.le_of_ble_eq_true rfl) (fun h191 p191 => ?_)
      exact r_vret C d_R_share_194 (⟨rfl, RSF h (SR h (nR h)).length wh up dn 57 0, fun s hs => by rw [RSF_57 _ _ _ _ hs]; exact (hR s hs).1, fun t e1 e2 e3 e4 e5 e6 e7 => by rw [p191.1 t e2 e4 e6 e7, RSF_fr _ _ _ _ _ ⟨e1, e3, e4, e5, e7⟩], fun j hj => by rw [p191.1 40 (by decide) (by decide) (by decide) (by decide), RSF_40 _ _ _ _ _ hj], fun j hj => by rw [p191.2 j hj, RSF_over _ _ _ _ _ _ (by decide)]⟩) (by decide) (fun q => nomatch q)
    · have ha41 := har i.toNat (by show i.toNat < (h 40 0 1).toNat; omega)
      have ha42 := hwa i.toNat (by show i.toNat < (h 40 0 1).toNat; omega)
      have ei : ((i.toNat : Nat) : Int) = i := (by omega)
      refine r_iload_n (i0 := 1) C d_R_share_80 rfl rfl ?_
      refine r_iconst C d_R_share_81 (by decide) ?_
      refine r_icmp_ne (tgt := 110) C d_R_share_82 (by decide) (fun q82 => ?_) (fun q82 => ?_)
      · refine r_iload_n (i0 := 1) C d_R_share_110 rfl rfl ?_
        refine r_iconst C d_R_share_111 (by decide) ?_
        refine r_icmp_ne (tgt := 165) C d_R_share_112 (by decide) (fun q112 => ?_) (fun q112 => ?_)
        · refine r_aload_n (i0 := 0) C d_R_share_165 rfl rfl ?_
          refine r_iload C d_R_share_166 rfl ?_
          refine r_iload_n (i0 := 2) C d_R_share_168 rfl rfl ?_
          refine r_i2l C d_R_share_169 ?_
          refine r_aload_n (i0 := 0) C d_R_share_170 rfl rfl ?_
          refine r_getO C fl_R_7 d_R_share_171 rfl rfl (fun hi => hi) ?_
          refine r_iload C d_R_share_174 rfl ?_
          refine r_iaload (ln := 6) C d_R_share_176 rfl (fun _ => rfl) rfl (by omega) ?_
          rw [RSF_over _ _ _ _ _ _ (by decide)]
          refine r_iload C d_R_share_177 rfl ?_
          refine r_callVw C cl_R_207 im_R_spansBy rfl rfl (c_R_spansBy hx (S0 := SR h i.toNat) (U := U) (by have := SR_len h i.toNat; omega) hR (by omega) hp (by omega) (by omega) (fun b2 e2 who2 h2 => hUa (by omega) (by omega) i.toNat (by show i.toNat < (h 40 0 1).toNat; omega) b2 e2 who2 i (by omega) h2)) rfl rfl d_R_share_179 (by decide) (by decide) (Nat.le_of_ble_eq_true rfl) (fun h179 p179 => ?_)
          obtain ⟨wh2, up2, dn2, hR2, eh2⟩ := p179
          subst eh2
          refine r_iinc C d_R_share_182 rfl (by decide) (by omega) ?_
          refine r_goto (tgt := 71) C d_R_share_185 (by decide) ?_
          have e2 : (i + 1).toNat = i.toNat + 1 := by omega
          have es : SR h i.toNat ++ spF i (rHs h i.toNat) (rVl h i.toNat) (h 46 0 i.toNat) = SR h (i + 1).toNat := (by rw [e2, SR_succ, ei])
          rw [es] at hR2 ⊢
          exact AW.lvs [(8, _), (5, _), (4, _), (6, _), (0, _), (1, _), (2, _), (3, _)] ⟨rfl, rfl, rfl, rfl, rfl, rfl, rfl, rfl, trivial⟩ (ih (m - 1) (by omega) (i + 1) _ _ _ (by omega) (by omega) (by omega) hR2)
        · refine r_iload_n (i0 := 3) C d_R_share_115 rfl rfl ?_
          refine r_if_ne (tgt := 165) C d_R_share_116 (by decide) (fun q116 => ?_) (fun q116 => ?_)
          · refine r_aload_n (i0 := 0) C d_R_share_165 rfl rfl ?_
            refine r_iload C d_R_share_166 rfl ?_
            refine r_iload_n (i0 := 2) C d_R_share_168 rfl rfl ?_
            refine r_i2l C d_R_share_169 ?_
            refine r_aload_n (i0 := 0) C d_R_share_170 rfl rfl ?_
            refine r_getO C fl_R_7 d_R_share_171 rfl rfl (fun hi => hi) ?_
            refine r_iload C d_R_share_174 rfl ?_
            refine r_iaload (ln := 6) C d_R_share_176 rfl (fun _ => rfl) rfl (by omega) ?_
            rw [RSF_over _ _ _ _ _ _ (by decide)]
            refine r_iload C d_R_share_177 rfl ?_
            refine r_callVw C cl_R_207 im_R_spansBy rfl rfl (c_R_spansBy hx (S0 := SR h i.toNat) (U := U) (by have := SR_len h i.toNat; omega) hR (by omega) hp (by omega) (by omega) (fun b2 e2 who2 h2 => hUa (by omega) (by omega) i.toNat (by show i.toNat < (h 40 0 1).toNat; omega) b2 e2 who2 i (by omega) h2)) rfl rfl d_R_share_179 (by decide) (by decide) (Nat.le_of_ble_eq_true rfl) (fun h179 p179 => ?_)
            obtain ⟨wh2, up2, dn2, hR2, eh2⟩ := p179
            subst eh2
            refine r_iinc C d_R_share_182 rfl (by decide) (by omega) ?_
            refine r_goto (tgt := 71) C d_R_share_185 (by decide) ?_
            have e2 : (i + 1).toNat = i.toNat + 1 := by omega
            have es : SR h i.toNat ++ spF i (rHs h i.toNat) (rVl h i.toNat) (h 46 0 i.toNat) = SR h (i + 1).toNat := (by rw [e2, SR_succ, ei])
            rw [es] at hR2 ⊢
            exact AW.lvs [(8, _), (5, _), (4, _), (6, _), (0, _), (1, _), (2, _), (3, _)] ⟨rfl, rfl, rfl, rfl, rfl, rfl, rfl, rfl, trivial⟩ (ih (m - 1) (by omega) (i + 1) _ _ _ (by omega) (by omega) (by omega) hR2)
          · refine r_iconst C d_R_share_119 (by decide) ?_
            refine r_istore C d_R_share_120 (by decide) ?_
            exact AW.lvs [(9, _), (8, _), (5, _), (4, _), (6, _), (0, _), (1, _), (2, _), (3, _)] ⟨rfl, rfl, rfl, rfl, rfl, rfl, rfl, rfl, rfl, trivial⟩ (AW.dirty (inner (by omega) (by omega) (by omega) _ 0 (SR h i.toNat) wh up dn (by omega) (by omega) rfl hR (by rw [show (0 : Int).toNat = 0 from rfl, spT_0, SR_succ, ei])))
      · refine r_iload C d_R_share_85 rfl ?_
        refine r_if_le (tgt := 110) C d_R_share_87 (by decide) (fun q87 => ?_) (fun q87 => ?_)
        · refine r_iload_n (i0 := 1) C d_R_share_110 rfl rfl ?_
          refine r_iconst C d_R_share_111 (by decide) ?_
          refine r_icmp_ne (tgt := 165) C d_R_share_112 (by decide) (fun q112 => ?_) (fun q112 => ?_)
          · refine r_aload_n (i0 := 0) C d_R_share_165 rfl rfl ?_
            refine r_iload C d_R_share_166 rfl ?_
            refine r_iload_n (i0 := 2) C d_R_share_168 rfl rfl ?_
            refine r_i2l C d_R_share_169 ?_
            refine r_aload_n (i0 := 0) C d_R_share_170 rfl rfl ?_
            refine r_getO C fl_R_7 d_R_share_171 rfl rfl (fun hi => hi) ?_
            refine r_iload C d_R_share_174 rfl ?_
            refine r_iaload (ln := 6) C d_R_share_176 rfl (fun _ => rfl) rfl (by omega) ?_
            rw [RSF_over _ _ _ _ _ _ (by decide)]
            refine r_iload C d_R_share_177 rfl ?_
            refine r_callVw C cl_R_207 im_R_spansBy rfl rfl (c_R_spansBy hx (S0 := SR h i.toNat) (U := U) (by have := SR_len h i.toNat; omega) hR (by omega) hp (by omega) (by omega) (fun b2 e2 who2 h2 => hUa (by omega) (by omega) i.toNat (by show i.toNat < (h 40 0 1).toNat; omega) b2 e2 who2 i (by omega) h2)) rfl rfl d_R_share_179 (by decide) (by decide) (Nat.le_of_ble_eq_true rfl) (fun h179 p179 => ?_)
            obtain ⟨wh2, up2, dn2, hR2, eh2⟩ := p179
            subst eh2
            refine r_iinc C d_R_share_182 rfl (by decide) (by omega) ?_
            refine r_goto (tgt := 71) C d_R_share_185 (by decide) ?_
            have e2 : (i + 1).toNat = i.toNat + 1 := by omega
            have es : SR h i.toNat ++ spF i (rHs h i.toNat) (rVl h i.toNat) (h 46 0 i.toNat) = SR h (i + 1).toNat := (by rw [e2, SR_succ, ei])
            rw [es] at hR2 ⊢
            exact AW.lvs [(8, _), (5, _), (4, _), (6, _), (0, _), (1, _), (2, _), (3, _)] ⟨rfl, rfl, rfl, rfl, rfl, rfl, rfl, rfl, trivial⟩ (ih (m - 1) (by omega) (i + 1) _ _ _ (by omega) (by omega) (by omega) hR2)
          · refine r_iload_n (i0 := 3) C d_R_share_115 rfl rfl ?_
            refine r_if_ne (tgt := 165) C d_R_share_116 (by decide) (fun q116 => ?_) (fun q116 => ?_)
            · refine r_aload_n (i0 := 0) C d_R_share_165 rfl rfl ?_
              refine r_iload C d_R_share_166 rfl ?_
              refine r_iload_n (i0 := 2) C d_R_share_168 rfl rfl ?_
              refine r_i2l C d_R_share_169 ?_
              refine r_aload_n (i0 := 0) C d_R_share_170 rfl rfl ?_
              refine r_getO C fl_R_7 d_R_share_171 rfl rfl (fun hi => hi) ?_
              refine r_iload C d_R_share_174 rfl ?_
              refine r_iaload (ln := 6) C d_R_share_176 rfl (fun _ => rfl) rfl (by omega) ?_
              rw [RSF_over _ _ _ _ _ _ (by decide)]
              refine r_iload C d_R_share_177 rfl ?_
              refine r_callVw C cl_R_207 im_R_spansBy rfl rfl (c_R_spansBy hx (S0 := SR h i.toNat) (U := U) (by have := SR_len h i.toNat; omega) hR (by omega) hp (by omega) (by omega) (fun b2 e2 who2 h2 => hUa (by omega) (by omega) i.toNat (by show i.toNat < (h 40 0 1).toNat; omega) b2 e2 who2 i (by omega) h2)) rfl rfl d_R_share_179 (by decide) (by decide) (Nat.le_of_ble_eq_true rfl) (fun h179 p179 => ?_)
              obtain ⟨wh2, up2, dn2, hR2, eh2⟩ := p179
              subst eh2
              refine r_iinc C d_R_share_182 rfl (by decide) (by omega) ?_
              refine r_goto (tgt := 71) C d_R_share_185 (by decide) ?_
              have e2 : (i + 1).toNat = i.toNat + 1 := by omega
              have es : SR h i.toNat ++ spF i (rHs h i.toNat) (rVl h i.toNat) (h 46 0 i.toNat) = SR h (i + 1).toNat := (by rw [e2, SR_succ, ei])
              rw [es] at hR2 ⊢
              exact AW.lvs [(8, _), (5, _), (4, _), (6, _), (0, _), (1, _), (2, _), (3, _)] ⟨rfl, rfl, rfl, rfl, rfl, rfl, rfl, rfl, trivial⟩ (ih (m - 1) (by omega) (i + 1) _ _ _ (by omega) (by omega) (by omega) hR2)
            · refine r_iconst C d_R_share_119 (by decide) ?_
              refine r_istore C d_R_share_120 (by decide) ?_
              exact AW.lvs [(9, _), (8, _), (5, _), (4, _), (6, _), (0, _), (1, _), (2, _), (3, _)] ⟨rfl, rfl, rfl, rfl, rfl, rfl, rfl, rfl, rfl, trivial⟩ (AW.dirty (inner (by omega) (by omega) (by omega) _ 0 (SR h i.toNat) wh up dn (by omega) (by omega) rfl hR (by rw [show (0 : Int).toNat = 0 from rfl, spT_0, SR_succ, ei])))
        · refine r_aload_n (i0 := 0) C d_R_share_90 rfl rfl ?_
          refine r_iload C d_R_share_91 rfl ?_
          refine r_iload_n (i0 := 2) C d_R_share_93 rfl rfl ?_
          refine r_i2l C d_R_share_94 ?_
          refine r_aload_n (i0 := 0) C d_R_share_95 rfl rfl ?_
          refine r_getO C fl_R_13 d_R_share_96 rfl rfl (fun hi => hi) ?_
          refine r_iload C d_R_share_99 rfl ?_
          refine r_iaload (ln := 6) C d_R_share_101 rfl (fun _ => rfl) rfl (by omega) ?_
          rw [RSF_over _ _ _ _ _ _ (by decide)]
          refine r_iload C d_R_share_102 rfl ?_
          refine r_callVw C cl_R_207 im_R_spansBy rfl rfl (c_R_spansBy hx (S0 := SR h i.toNat) (U := U) (by have := SR_len h i.toNat; omega) hR (by omega) hp (by omega) (by omega) (fun b2 e2 who2 h2 => hUw ⟨by omega, by omega⟩ i.toNat (by show i.toNat < (h 40 0 1).toNat; omega) b2 e2 who2 i (by omega) h2)) rfl rfl d_R_share_104 (by decide) (by decide) (Nat.le_of_ble_eq_true rfl) (fun h104 p104 => ?_)
          obtain ⟨wh2, up2, dn2, hR2, eh2⟩ := p104
          subst eh2
          refine r_goto (tgt := 182) C d_R_share_107 (by decide) ?_
          refine r_iinc C d_R_share_182 rfl (by decide) (by omega) ?_
          refine r_goto (tgt := 71) C d_R_share_185 (by decide) ?_
          have e2 : (i + 1).toNat = i.toNat + 1 := by omega
          have es : SR h i.toNat ++ spF i (rHs h i.toNat) (rVl h i.toNat) (h 46 0 i.toNat) = SR h (i + 1).toNat := (by rw [e2, SR_succ, ei])
          rw [es] at hR2 ⊢
          exact AW.lvs [(8, _), (5, _), (4, _), (6, _), (0, _), (1, _), (2, _), (3, _)] ⟨rfl, rfl, rfl, rfl, rfl, rfl, rfl, rfl, trivial⟩ (ih (m - 1) (by omega) (i + 1) _ _ _ (by omega) (by omega) (by omega) hR2)
  have loopA : ∀ (m : Nat) (i A B T : Int), 0 ≤ i → i ≤ h 40 0 1 → (h 40 0 1 - i).toNat = m → A = sumF i.toNat (h 41 0) → B = sumF i.toNat (h 42 0) → T = sumF i.toNat (h 56 0) → AW x w 10 false 0 0 (AQ x w false 0 0 (RetP none (fun h' => ∃ wh : Nat → Int, (∀ s : Nat, s < (SR h (nR h)).length → wh s = (qS (SR h (nR h)) s).2.2.2) ∧ (∀ t : Nat, t ≠ 40 → t ≠ 52 → t ≠ 57 → t ≠ 58 → t ≠ 59 → t ≠ 60 → t ≠ 61 → h' t = h t) ∧ (∀ j : Nat, j ≠ 32 → h' 40 0 j = h 40 0 j) ∧ ∀ j : Nat, j < 63 → h' 52 0 j = if j % 3 = a.toNat then acR (SR h (nR h)).length (gvN (SR h (nR h)).length p D N) wh (j / 3) else h 52 0 j))) 17 [(8, vI i), (6, vL T), (5, vI B), (4, vI A), (0, vO 40 0), (1, vI a), (2, vI p), (3, vI b)] [] (hset h 40 0 32 0) := by
    intro m
    induction m using Nat.strongRecOn with
    | _ m ih =>
    intro i A B T hi0 hi1 hm hA hB hT
    refine r_iload C d_R_share_17 rfl ?_
    refine r_aload_n (i0 := 0) C d_R_share_19 rfl rfl ?_
    refine r_getI C fl_R_88 d_R_share_20 rfl ?_
    rw [hset_slot _ _ (by decide)]
    refine r_icmp_ge (tgt := 68) C d_R_share_23 (by decide) (fun q23 => ?_) (fun q23 => ?_)
    · refine r_iconst C d_R_share_68 (by decide) ?_
      refine r_istore C d_R_share_69 (by decide) ?_
      have en : i.toNat = nR h := (by omega)
      rw [en] at hA hB hT
      subst hA hB hT
      exact AW.lvs [(8, _), (5, _), (4, _), (6, _), (0, _), (1, _), (2, _), (3, _)] ⟨rfl, rfl, rfl, rfl, rfl, rfl, rfl, rfl, trivial⟩ (AW.dirty (AW.heq (RSF_nil h (fun _ => 0) (fun _ => 0) (fun _ => 0)) (loopB _ 0 _ _ _ (by omega) (by omega) rfl (fun s hs => absurd hs (Nat.not_lt_zero _)))))
    · have q1 := har i.toNat (by omega)
      have q2 := hwa i.toNat (by omega)
      have q3 := htd i.toNat (by omega)
      have b1 := sumF_bd (g := h 41 0) (L := 0) (M := 50) (n := i.toNat) (fun k hk => har k (by omega))
      have b2 := sumF_bd (g := h 42 0) (L := 0) (M := 50) (n := i.toNat) (fun k hk => hwa k (by omega))
      have b3 := sumF_bd (g := h 56 0) (L := 0) (M := 72000000) (n := i.toNat) (fun k hk => htd k (by omega))
      refine r_iload C d_R_share_26 rfl ?_
      refine r_aload_n (i0 := 0) C d_R_share_28 rfl rfl ?_
      refine r_getO C fl_R_7 d_R_share_29 rfl rfl (fun hi => hi) ?_
      refine r_iload C d_R_share_32 rfl ?_
      refine r_iaload (ln := 6) C d_R_share_34 rfl (fun _ => rfl) rfl (by omega) ?_
      rw [hset_tag _ _ (by decide)]
      refine r_iadd C d_R_share_35 (by omega) ?_
      refine r_istore C d_R_share_36 (by decide) ?_
      refine r_iload C d_R_share_38 rfl ?_
      refine r_aload_n (i0 := 0) C d_R_share_40 rfl rfl ?_
      refine r_getO C fl_R_13 d_R_share_41 rfl rfl (fun hi => hi) ?_
      refine r_iload C d_R_share_44 rfl ?_
      refine r_iaload (ln := 6) C d_R_share_46 rfl (fun _ => rfl) rfl (by omega) ?_
      rw [hset_tag _ _ (by decide)]
      refine r_iadd C d_R_share_47 (by omega) ?_
      refine r_istore C d_R_share_48 (by decide) ?_
      refine r_lload C d_R_share_50 rfl ?_
      refine r_aload_n (i0 := 0) C d_R_share_52 rfl rfl ?_
      refine r_getO C fl_R_65 d_R_share_53 rfl rfl (fun hi => hi) ?_
      refine r_iload C d_R_share_56 rfl ?_
      refine r_laload (ln := 6) C d_R_share_58 rfl (fun _ => rfl) rfl (by omega) ?_
      rw [hset_tag _ _ (by decide)]
      refine r_ladd C d_R_share_59 (by omega) ?_
      refine r_lstore C d_R_share_60 (by decide) ?_
      refine r_iinc C d_R_share_62 rfl (by decide) (by omega) ?_
      refine r_goto (tgt := 17) C d_R_share_65 (by decide) ?_
      refine AW.lvs [(8, _), (6, _), (5, _), (4, _), (0, _), (1, _), (2, _), (3, _)] ⟨rfl, rfl, rfl, rfl, rfl, rfl, rfl, rfl, trivial⟩ (ih (m - 1) (by omega) (i + 1) _ _ _ (by omega) (by omega) (by omega) (by rw [sumF_int hi0, hA]) (by rw [sumF_int hi0, hB]) (by rw [sumF_int hi0, hT]))
  refine r_aload_n (i0 := 0) C d_R_share_0 rfl rfl ?_
  refine r_iconst C d_R_share_1 (by decide) ?_
  refine r_putI C pl_R_177 d_R_share_2 rfl ?_
  refine r_iconst C d_R_share_5 (by decide) ?_
  refine r_istore C d_R_share_6 (by decide) ?_
  refine r_iconst C d_R_share_8 (by decide) ?_
  refine r_istore C d_R_share_9 (by decide) ?_
  refine r_lconst C 0 d_R_share_11 (by decide) (by decide) ?_
  refine r_lstore C d_R_share_12 (by decide) ?_
  refine r_iconst C d_R_share_14 (by decide) ?_
  refine r_istore C d_R_share_15 (by decide) ?_
  exact AW.lvs [(8, _), (6, _), (5, _), (4, _), (0, _), (1, _), (2, _), (3, _)] ⟨rfl, rfl, rfl, rfl, rfl, rfl, rfl, rfl, trivial⟩ (loopA _ 0 0 0 0 (by omega) (by omega) rfl rfl rfl rfl)

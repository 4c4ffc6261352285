/-! The reference's bill: its heap while it goes, and share at each of its three calls. -/
theorem AM.imp {l : Launch} {y : MethodName} {ws : List Cond} {pu : Bool} {rm : Room} {w : XW} {as : List AV} {h : AH} {Qa Qb : AO → AH → Prop} (a : AM l y ws pu rm w as h Qa) (f : ∀ ao h', Qa ao h' → Qb ao h') : AM l y ws pu rm w as h Qb := by
  intro h1 h2 h3
  refine MetFree.mono (a h1 h2 h3) (fun _ _ z => z) (fun _ _ _ _ _ z => z) fun _ _ _ _ _ z => ?_
  obtain ⟨⟨ao, h', q1, q2⟩, q3⟩ := z
  exact ⟨⟨ao, h', f _ _ q1, q2⟩, q3⟩
def z0 (h : AH) : AH := hset (hset h 40 0 0 0) 40 0 19 0
theorem z0_fr (h : AH) {t : Nat} (e : t ≠ 40) : z0 h t = h t := by unfold z0; rw [hset_fr _ _ _ _ e, hset_fr _ _ _ _ e]
theorem z0_40 (h : AH) {j : Nat} (e : j ≠ 0) (e2 : j ≠ 19) : z0 h 40 0 j = h 40 0 j := by unfold z0; rw [hset_slot _ _ e2, hset_slot _ _ e]
theorem z0_v (h : AH) : nR (z0 h) = nR h ∧ rAr (z0 h) = rAr h ∧ rFc (z0 h) = rFc h ∧ rKn (z0 h) = rKn h ∧ rRd (z0 h) = rRd h := by
  have e1 : z0 h 41 = h 41 := z0_fr h (by decide)
  have e2 : z0 h 43 = h 43 := z0_fr h (by decide)
  have e3 : z0 h 47 = h 47 := z0_fr h (by decide)
  have e4 : z0 h 44 = h 44 := z0_fr h (by decide)
  have e5 : z0 h 40 0 1 = h 40 0 1 := z0_40 h (by decide) (by decide)
  unfold nR rAr rFc rKn rRd rdR
  rw [e1, e2, e3, e4, e5]
  exact ⟨rfl, rfl, rfl, rfl, rfl⟩
theorem z0_te (h : AH) : tR (z0 h) = tR h ∧ eR (z0 h) = eR h := by
  obtain ⟨a, b, c, d, e⟩ := z0_v h
  unfold tR eR
  rw [a, b, c, d, e]
  exact ⟨rfl, rfl⟩
theorem lz_fr (h : AH) {t : Nat} (e : t ≠ 40 ∧ t ≠ 56) : lR (z0 h) t = h t := by unfold lR; rw [RK_fr _ _ _ _ _ _ _ _ _ e, z0_fr h e.1]
theorem lz_40 (h : AH) {j : Nat} (e : j < 25 ∨ 30 < j) (e0 : j ≠ 0) (e1 : j ≠ 19) : lR (z0 h) 40 0 j = h 40 0 j := by
  show RK _ _ _ _ _ _ _ _ _ 40 0 j = _
  unfold RK
  rw [if_pos ⟨rfl, rfl⟩, if_neg (by omega), if_neg (by omega), if_neg (by omega), if_neg (by omega), if_neg (by omega), if_neg (by omega)]
  exact z0_40 h e0 e1
theorem lz_0 (h : AH) : lR (z0 h) 40 0 0 = 0 ∧ lR (z0 h) 40 0 19 = 0 := ⟨rfl, rfl⟩
theorem lz_56 (h : AH) {f : Nat} (hf : f < nR h) : lR (z0 h) 56 0 f = tR h f := by rw [lR_56 (z0 h) (by rw [(z0_v h).1]; exact hf), (z0_te h).1]
theorem lz_30 (h : AH) : lR (z0 h) 40 0 30 = eR h := by rw [lR_30, (z0_te h).2]
theorem lz_rd (h : AH) : rdR (lR (z0 h)) = rdR h := by funext f t; unfold rdR; rw [lz_fr h (by decide)]
theorem lz_hs (h : AH) : rHs (lR (z0 h)) = rHs h := by funext f t; unfold rHs; rw [lz_fr h (by decide)]
theorem lz_n (h : AH) : nR (lR (z0 h)) = nR h := by unfold nR; rw [lz_40 h (by omega) (by decide) (by decide)]
def B0 (h : AH) : AH := partsH (lR (z0 h)) 51 (bbR h) (coR h) (p2R h) (p3R h)
def BH (h : AH) : AH := hfill (B0 h) 52 0 0 63 0
theorem BH_l (h : AH) {t : Nat} (e : t ≠ 51 ∧ t ≠ 52) : BH h t = lR (z0 h) t := by
  unfold BH B0 partsH
  rw [hfill_tag _ _ _ _ _ e.2, hset_fr _ _ _ _ e.1, hset_fr _ _ _ _ e.1, hset_fr _ _ _ _ e.1, hset_fr _ _ _ _ e.1, hset_fr _ _ _ _ e.1]
theorem BH_fr (h : AH) {t : Nat} (e : t ≠ 40 ∧ t ≠ 51 ∧ t ≠ 52 ∧ t ≠ 56) : BH h t = h t := by rw [BH_l h ⟨e.2.1, e.2.2.1⟩, lz_fr h ⟨e.1, e.2.2.2⟩]
theorem BH_40 (h : AH) {j : Nat} (e : j < 25 ∨ 30 < j) (e0 : j ≠ 0) (e1 : j ≠ 19) : BH h 40 0 j = h 40 0 j := by rw [BH_l h (by decide), lz_40 h e e0 e1]
theorem BH_30 (h : AH) : BH h 40 0 30 = eR h := by rw [BH_l h (by decide), lz_30]
theorem BH_56 (h : AH) {f : Nat} (hf : f < nR h) : BH h 56 0 f = tR h f := by rw [BH_l h (by decide), lz_56 h hf]
theorem BH_51 (h : AH) : BH h 51 0 0 = bbR h ∧ BH h 51 0 1 = coR h ∧ BH h 51 0 2 = p2R h ∧ BH h 51 0 3 = p3R h ∧ BH h 51 0 4 = p4R h := by
  unfold BH
  rw [hfill_tag _ _ _ _ _ (by decide)]
  exact ⟨rfl, rfl, rfl, rfl, rfl⟩
theorem BH_52 (h : AH) {j : Nat} (e : j < 63) : BH h 52 0 j = 0 := by unfold BH hfill; rw [if_pos ⟨rfl, rfl, by omega, by omega⟩]
theorem BH_n (h : AH) : nR (BH h) = nR h := by unfold nR; rw [BH_40 h (by omega) (by decide) (by decide)]
theorem BH_rd (h : AH) : rdR (BH h) = rdR h := by funext f t; unfold rdR; rw [BH_fr h (by decide)]
theorem BH_hs (h : AH) : rHs (BH h) = rHs h := by funext f t; unfold rHs; rw [BH_fr h (by decide)]
theorem BH_sr (h : AH) (n : Nat) : SR (BH h) n = SR h n := by
  have e : rVl (BH h) = rVl h := by funext f t; show BH h 45 0 _ = h 45 0 _; rw [BH_fr h (by decide)]
  unfold SR
  rw [BH_hs, e, BH_fr h (show (46 : Nat) ≠ 40 ∧ (46 : Nat) ≠ 51 ∧ (46 : Nat) ≠ 52 ∧ (46 : Nat) ≠ 56 by decide)]
/-- what holds of the reference's heap between two calls -/
def IR (h : AH) : Prop := (0 ≤ h 40 0 1 ∧ h 40 0 1 ≤ 6) ∧ FIr (nR h) h ∧ (∀ f : Nat, f < nR h → 1 ≤ h 41 0 f) ∧ (∀ f : Nat, f < nR h → 0 ≤ h 42 0 f ∧ h 42 0 f ≤ 50) ∧ (0 ≤ h 40 0 9 ∧ h 40 0 9 ≤ 20) ∧ (∀ f : Nat, f < nR h → -1 ≤ h 46 0 f ∧ h 46 0 f < h 40 0 9) ∧ (∀ f t : Nat, f < nR h → t < 12 → h 45 0 (12 * f + t) = -5 ∨ (-1 ≤ h 45 0 (12 * f + t) ∧ h 45 0 (12 * f + t) < h 40 0 9)) ∧ 0 ≤ h 40 0 10 ∧ FUv (h 40 0 10).toNat (h 48 0) (h 49 0) ∧ (-1 ≤ h 40 0 13 ∧ h 40 0 13 ≤ 12000) ∧ (0 ≤ h 40 0 14 ∧ h 40 0 14 ≤ 20000) ∧ (-1 ≤ h 40 0 15 ∧ h 40 0 15 ≤ 10000000) ∧ (0 ≤ h 40 0 16 ∧ h 40 0 16 ≤ 100) ∧ (0 ≤ h 40 0 17 ∧ h 40 0 17 ≤ 1000) ∧ (∀ k : Nat, k < 12 → 0 ≤ h 50 0 k ∧ h 50 0 k ≤ 100)
theorem IR.n6 {h : AH} (I : IR h) : nR h ≤ 6 := by have := I.1; unfold nR; omega
theorem IR.tm {h : AH} (I : IR h) {f : Nat} (hf : f < nR h) : MOK (kRv h f) (h 43 0 f) (eR h) (tR h f) (rdR h f) ∧ tR h f ≤ 200 * eR h := by
  have z := tR_mok (n := nR h) (ar := rAr h) (fc := rFc h) (kn := rKn h) (rd := rRd h) I.2.1 I.n6 I.2.2.1 hf
  rw [kdW_V (ar := rAr h) I.2.2.1] at z
  exact z
theorem IR.eb {h : AH} (I : IR h) : 1 ≤ eR h ∧ eR h ≤ 360000 := by
  have z1 := beV_pos (n := nR h) (ar := rAr h) (fc := rFc h) (kn := rKn h) (rd := rRd h) I.2.1 I.n6 I.2.2.1
  have z2 := beV_bd (n := nR h) (ar := rAr h) (fc := rFc h) (kn := rKn h) (rd := rRd h) I.2.1 I.n6
  have e : eR h = beV (nR h) (rAr h) (rFc h) (rKn h) (rRd h) := rfl
  omega
theorem IR.td {h : AH} (I : IR h) {f : Nat} (hf : f < nR h) : 0 ≤ tR h f ∧ tR h f ≤ 72000000 := (I.tm hf).1.2.1
theorem fitI_pos {n : Nat} {kd ar : Nat → Int} {a b : Int} (e : 0 < a ↔ 0 < b) : fitI n kd ar a = fitI n kd ar b := by
  unfold fitI
  simp only [e]
theorem fitI_01 (n : Nat) (kd ar : Nat → Int) (a : Int) : fitI n kd ar a = 0 ∨ fitI n kd ar a = 1 := by
  unfold fitI
  split
  · exact Or.inr rfl
  · exact Or.inl rfl
theorem un_sum {h : AH} (I : IR h) : sumF (nR h) (uRv h) = KK (nR h) (rFc h) (rKn h) (rRd h) * sumF (nR h) (tR h) := by
  rw [← sumF_mul]
  exact sumF_congr fun f hf => un_td (ar := rAr h) I.2.2.1 f
theorem un_iff {h : AH} (I : IR h) : 0 < sumF (nR h) (tR h) ↔ 0 < sumF (nR h) (uRv h) := by
  have k := KK_pos (n := nR h) (fc := rFc h) (kn := rKn h) (rd := rRd h)
  rw [un_sum I]
  constructor
  · intro z; exact Int.mul_pos (by omega) z
  · intro z
    refine Int.lt_of_mul_lt_mul_left (a := KK (nR h) (rFc h) (rKn h) (rRd h)) ?_ (by omega)
    rw [Int.mul_zero]; exact z
theorem lz_fit {h : AH} (I : IR h) : fitI (lR (z0 h) 40 0 1).toNat (kF (lR (z0 h))) (lR (z0 h) 41 0) (sumF (lR (z0 h) 40 0 1).toNat (lR (z0 h) 56 0)) = fitR h := by
  have ha := I.2.2.1
  obtain ⟨a, b, c, d, e⟩ := z0_v h
  have e2 : lR (z0 h) 40 0 29 = puV (nR h) (rFc h) (rKn h) (rRd h) := by
    show puV (nR (z0 h)) (rFc (z0 h)) (rKn (z0 h)) (rRd (z0 h)) = _
    rw [a, c, d, e]
  have e3 : lR (z0 h) 40 0 28 = plV (nR h) (rKn h) (rRd h) := by
    show plV (nR (z0 h)) (rKn (z0 h)) (rRd (z0 h)) = _
    rw [a, d, e]
  have e4 : lR (z0 h) 40 0 27 = rcV (nR h) (rRd h) := by
    show rcV (nR (z0 h)) (rRd (z0 h)) = _
    rw [a, e]
  have ek : ∀ f, f < nR h → kF (lR (z0 h)) f = kRv h f := by
    intro f hf
    unfold kRv
    rw [← kdW_V (ar := rAr h) ha]
    show kdS (rdI (rdR (lR (z0 h)) f)) (lR (z0 h) 47 0 f) (lR (z0 h) 40 0 29) (lR (z0 h) 40 0 28) (lR (z0 h) 40 0 27) = kdS (rdI (rdR h f)) (h 47 0 f) (puV (nR h) (rFc h) (rKn h) (rRd h)) (plV (nR h) (rKn h) (rRd h)) (rcV (nR h) (rRd h))
    rw [lz_rd, lz_fr h (show (47 : Nat) ≠ 40 ∧ (47 : Nat) ≠ 56 by decide), e2, e3, e4]
  rw [lz_40 h (j := 1) (by omega) (by omega) (by omega), lz_fr h (show (41 : Nat) ≠ 40 ∧ (41 : Nat) ≠ 56 by decide)]
  show fitI (nR h) _ (rAr h) (sumF (nR h) _) = fitI (nR h) (kRv h) (rAr h) (sumF (nR h) (uRv h))
  rw [fitI_congr ek, show sumF (nR h) (lR (z0 h) 56 0) = sumF (nR h) (tR h) from sumF_congr fun f hf => lz_56 h hf]
  exact fitI_pos (un_iff I)
theorem lz_nd (h : AH) : ndB (nR (lR (z0 h))) (rHs (lR (z0 h))) (bR (lR (z0 h)) (kRv h)) = ndR h := by
  unfold bR ndR
  rw [lz_n, lz_hs, lz_rd]
theorem fitR_01 (h : AH) : fitR h = 0 ∨ fitR h = 1 := fitI_01 _ _ _ _
theorem fitR_u {h : AH} (I : IR h) (z : fitR h = 1) : 0 < sumF (nR h) (tR h) := by
  rw [un_iff I]
  unfold fitR fitI at z
  split at z
  · rename_i y; exact y.2.2
  · cases z
theorem kRv_0 (h : AH) (f : Nat) : kRv h f = 0 ↔ rdI (rdR h f) = 1 := kdS_0
theorem rbR_0 {h : AH} (e : h 40 0 1 = 0 ∨ ¬ (h 40 0 13 ≠ -1 ∧ 0 < bbR h)) : rbR h = -1 := by unfold rbR; rw [if_pos e]
theorem rbR_1 {h : AH} (hc : h 40 0 1 ≠ 0) (hb : h 40 0 13 ≠ -1 ∧ 0 < bbR h) (e : fitR h = 1 ∧ ndR h = true ∧ degF (h 50 0) 0 12 ≠ 100) : rbR h = -1 := by
  unfold rbR
  rw [if_neg, if_pos e]
  intro z
  rcases z with z | z
  · exact hc z
  · exact z hb
theorem rbR_2 {h : AH} (hc : h 40 0 1 ≠ 0) (hb : h 40 0 13 ≠ -1 ∧ 0 < bbR h) (e : fitR h = 1 → degF (h 50 0) 0 12 = 100 ∨ ndR h = false) : rbR h = if fitR h = 1 then 0 else 2 := by
  unfold rbR
  rw [if_neg, if_neg]
  · intro z
    rcases e z.1 with y | y
    · exact z.2.2 y
    · rw [y] at z; exact absurd z.2.1 (by decide)
  · intro z
    rcases z with z | z
    · exact hc z
    · exact z hb
theorem partsR_bd {h : AH} (I : IR h) (hb : h 40 0 13 ≠ -1 ∧ 0 < bbR h) : (0 ≤ p2R h ∧ p2R h ≤ 260000) ∧ (0 ≤ p3R h ∧ p3R h ≤ 260000) ∧ (0 ≤ p4R h ∧ p4R h ≤ 260000) := by
  obtain ⟨hc, hF, har, hwa, htn, hfh, hch, hL, hU, hs, hsd, hli, hga, hpm, hd⟩ := I
  have hL1 := hU.1
  have n1 := nc_bd (s := h 40 0 13) hU (n := (h 40 0 10).toNat) (Nat.le_refl _)
  have w1 := waV_bd (li := h 40 0 15) (ga := h 40 0 16) (b := bbR h) (by omega) (by omega) (by omega)
  have c1 : 0 ≤ coR h ∧ coR h ≤ 260000 := by unfold coR; omega
  have p1 := p2V_bd (cost := coR h) (wa := waV (h 40 0 15) (h 40 0 16) (bbR h)) (b := bbR h) c1.1 w1 (by omega)
  have q1 := p3V_bd (cost := coR h) (p2 := p2R h) (pm := h 40 0 17) (by unfold p2R; omega) hpm
  have p1' : 0 ≤ p2R h ∧ p2R h ≤ coR h := p1
  have q1' : 0 ≤ p3R h ∧ p3R h ≤ coR h - p2R h := q1
  unfold p4R
  omega
theorem SR_ho {h : AH} (I : IR h) : ∀ s : Nat, s < (SR h (nR h)).length → -1 ≤ (qS (SR h (nR h)) s).2.2.2 ∧ (qS (SR h (nR h)) s).2.2.2 < 20 := by
  intro s hs
  have t20 := I.2.2.2.2.1
  obtain ⟨f, hf, e1, e2, e3, e4, e5⟩ := mem_spA (qS_mem hs)
  show -1 ≤ (qS (spA _ _ _ _) s).2.2.2 ∧ (qS (spA _ _ _ _) s).2.2.2 < _
  rcases e5 with y | ⟨x, hx, hx2, y⟩
  · rw [y]
    have := I.2.2.2.2.2.1 f hf
    show -1 ≤ h 46 0 f ∧ h 46 0 f < 20
    omega
  · rw [y]
    show -1 ≤ h 45 0 (12 * f + x) ∧ h 45 0 (12 * f + x) < 20
    have z := I.2.2.2.2.2.2.1 f x hf hx
    unfold rHs at hx2
    simp at hx2
    omega
/-- what share leaves, said of the heap at the bill's beginning -/
def shP (h g : AH) (a p : Int) (Γ : Int → Int → Int) (h' : AH) : Prop := FrR h' (BH h) ∧ ∀ j : Nat, j < 63 → h' 52 0 j = if j % 3 = a.toNat then otR (SR h (nR h)) Γ (nR h) p (j / 3) else g 52 0 j
theorem Fg_n {g h : AH} (F : FrR g (BH h)) : nR g = nR h := by rw [F.n, BH_n]
theorem Fg_s {g h : AH} (F : FrR g (BH h)) : SR g (nR g) = SR h (nR h) := by rw [F.sr, BH_sr, Fg_n F]
theorem Fg_t {g h : AH} (F : FrR g (BH h)) {t : Nat} (e : (t ≠ 40 ∧ t ≠ 52 ∧ t ≠ 57 ∧ t ≠ 58 ∧ t ≠ 59 ∧ t ≠ 60 ∧ t ≠ 61) ∧ t ≠ 51 ∧ t ≠ 56) : g t = h t := by rw [F.t e.1, BH_fr h ⟨e.1.1, e.2.1, e.1.2.1, e.2.2⟩]
theorem Fg_56 {g h : AH} (F : FrR g (BH h)) {f : Nat} (hf : f < nR h) : g 56 0 f = tR h f := by rw [F.t (by decide), BH_56 h hf]
theorem share_post {h g : AH} (F : FrR g (BH h)) {a p : Int} (Γ : Int → Int → Int) : ∀ (ao : AO) (h' : AH), RetP none (fun h' => ∃ wh : Nat → Int, (∀ s : Nat, s < (SR g (nR g)).length → wh s = (qS (SR g (nR g)) s).2.2.2) ∧ (∀ t : Nat, t ≠ 40 → t ≠ 52 → t ≠ 57 → t ≠ 58 → t ≠ 59 → t ≠ 60 → t ≠ 61 → h' t = g t) ∧ (∀ j : Nat, j ≠ 32 → h' 40 0 j = g 40 0 j) ∧ ∀ j : Nat, j < 63 → h' 52 0 j = if j % 3 = a.toNat then acR (SR g (nR g)).length (gvN (SR g (nR g)).length p (dT Γ (nR h)) (fun s => p * tlS Γ (qS (SR h (nR h)) s))) wh (j / 3) else g 52 0 j) ao h' → RetP none (shP h g a p Γ) ao h' := by
  intro ao h' z
  obtain ⟨e, wh, q1, q2, q3, q4⟩ := z
  refine ⟨e, FrR.tr ⟨q2, q3⟩ F, fun j hj => ?_⟩
  rw [q4 j hj]
  rw [Fg_s F] at q1 ⊢
  split
  · unfold otR; exact acR_congr q1 (fun _ _ => rfl) _
  · rfl
theorem kV_mok {n : Nat} {ar fc kn : Nat → Int} {rd : Nat → Nat → Int} (H : FIv n ar fc kn rd) (hn : n ≤ 6) {f : Nat} (hf : f < n) : MOK (kdV n ar fc kn rd f) (fc f) (scV n ar kn rd) (unV n ar fc kn rd f) (rd f) := by
  obtain ⟨a1, a2, a3, a4⟩ := H f hf
  have s := scV_bd H hn
  have k0 : kdV n ar fc kn rd f = 0 → rdI (rd f) = 1 := fun z => kdS_0.mp z
  have k1 : kdV n ar fc kn rd f = 1 → 0 ≤ kn f := by
    unfold kdV kdS
    intro z
    by_cases q : rdI (rd f) = 1
    · rw [if_pos q] at z; cases z
    · rw [if_neg q] at z
      split at z
      · rename_i y; have := y.1; omega
      · split at z <;> cases z
  have u := unS_bd (k := kdV n ar fc kn rd f) (mu := mU (fc f) (rd f)) (kn := kn f) (ar := ar f) (pu := puV n fc kn rd) (ru := ruV n fc rd) (sc := scV n ar kn rd) (ls := lsV n kn rd) (lk := lkV n ar rd) (fun z => mU_bd (k0 z) a4 a2) k1 a1.1 (puV_bd H hn).1 (ruV_bd H hn).1 s.1 (by have := lsV_bd H hn; omega) (by have := lkV_bd H hn; omega)
  have u' : 0 ≤ unV n ar fc kn rd f ∧ unV n ar fc kn rd f ≤ 200 * scV n ar kn rd := u
  refine ⟨fun z => ⟨k0 z, ?_⟩, ⟨u'.1, by omega⟩, a2.1, by omega⟩
  show unS (kdV n ar fc kn rd f) _ _ _ _ _ _ _ _ = _
  unfold unS
  exact (if_pos z).trans rfl
section SHARES
variable {l : Launch} {w : XW} {h g : AH} {p b : Int}
theorem c_R_shareA (hl : l.stackTraces = false) {a : Int} (I : IR h) (n1 : 1 ≤ nR h) (F : FrR g (BH h)) (hp : 0 ≤ p ∧ p ≤ 260000) (ha3 : 0 ≤ a ∧ a < 3) (hb : b = 0 ∨ b = 1) (hnw : ¬ (a = 2 ∧ 0 < sumF (nR h) (h 42 0))) (hnm : ¬ (a = 1 ∧ b = 0)) (h0 : ∀ j : Nat, j < 63 → j % 3 = a.toNat → g 52 0 j = 0) : AM l y_R_share (wsM y_R_share b_R_share 10 none []) false (rmV 3 0) w [vO 40 0, vI a, vI p, vI b] g (RetP none (shP h g a p (gaA (rAr h)))) := by
  have eN := Fg_n F
  have eS := Fg_s F
  have e41 : g 41 = h 41 := Fg_t F (by decide)
  have e42 : g 42 = h 42 := Fg_t F (by decide)
  have e1 : g 40 0 1 = h 40 0 1 := by rw [F.2 1 (by decide), BH_40 h (by omega) (by decide) (by decide)]
  have htd : ∀ f : Nat, f < nR g → 0 ≤ g 56 0 f ∧ g 56 0 f ≤ 72000000 := fun f hf => by rw [eN] at hf; rw [Fg_56 F hf]; exact I.td hf
  have har : ∀ f : Nat, f < nR h → 0 ≤ h 41 0 f ∧ h 41 0 f ≤ 50 := fun f hf => (I.2.1 f hf).1
  have hA : 0 < sumF (nR h) (h 41 0) := sumF_pos (fun f hf => (har f hf).1) ⟨0, by omega, by have := I.2.2.1 0 (by omega); omega⟩
  have K := area_ok (hs := rHs h) (vl := rVl h) (fh := fun f => h 46 0 f) (n := nR h) (p := p) (ar := rAr h) I.n6 hp har hA
  refine AM.imp (c_R_share hl (k := fun _ => 0) (D := dT (gaA (rAr h)) (nR h)) (N := fun s => p * tlS (gaA (rAr h)) (qS (SR h (nR h)) s)) (U := fun q x y => x = p * h 41 0 q.1.toNat * (q.2.2.1 - q.2.1) ∧ y = 12 * sumF (nR h) (h 41 0)) (by rw [e1]; exact I.1) (by rw [eN]; exact n1) hp ha3 hb (fun f hf => by rw [eN] at hf; rw [e41]; exact har f hf) (fun f hf => by rw [eN] at hf; rw [e42]; exact I.2.2.2.1 f hf) htd (fun z => absurd z hnm) (fun z => absurd (by rw [← eN, ← e42]; exact z) hnw) (fun _ _ f hf b2 e2 who i hi _ => ?_) (fun _ z => absurd z hnm) K.1 ?_ ?_ ?_ ?_ h0) (share_post F _)
  · subst hi
    rw [eN, e41]
    exact ⟨by show p * h 41 0 f * (e2 - b2) = p * h 41 0 ((f : Int)).toNat * (e2 - b2); rw [Int.toNat_natCast], rfl⟩
  · rw [eS]; exact tl_sum _
  · rw [eS]; exact K.2.1
  · rw [eS]; exact K.2.2
  · rw [eS]; exact SR_ho I
theorem c_R_shareW (hl : l.stackTraces = false) (I : IR h) (n1 : 1 ≤ nR h) (F : FrR g (BH h)) (hp : 0 ≤ p ∧ p ≤ 260000) (hb : b = 0 ∨ b = 1) (hw : 0 < sumF (nR h) (h 42 0)) (h0 : ∀ j : Nat, j < 63 → j % 3 = 2 → g 52 0 j = 0) : AM l y_R_share (wsM y_R_share b_R_share 10 none []) false (rmV 3 0) w [vO 40 0, vI 2, vI p, vI b] g (RetP none (shP h g 2 p (gaA (fun f => h 42 0 f)))) := by
  have eN := Fg_n F
  have eS := Fg_s F
  have e41 : g 41 = h 41 := Fg_t F (by decide)
  have e42 : g 42 = h 42 := Fg_t F (by decide)
  have e1 : g 40 0 1 = h 40 0 1 := by rw [F.2 1 (by decide), BH_40 h (by omega) (by decide) (by decide)]
  have htd : ∀ f : Nat, f < nR g → 0 ≤ g 56 0 f ∧ g 56 0 f ≤ 72000000 := fun f hf => by rw [eN] at hf; rw [Fg_56 F hf]; exact I.td hf
  have har : ∀ f : Nat, f < nR h → 0 ≤ h 41 0 f ∧ h 41 0 f ≤ 50 := fun f hf => (I.2.1 f hf).1
  have hA : 0 < sumF (nR h) (h 41 0) := sumF_pos (fun f hf => (har f hf).1) ⟨0, by omega, by have := I.2.2.1 0 (by omega); omega⟩
  have K := area_ok (hs := rHs h) (vl := rVl h) (fh := fun f => h 46 0 f) (n := nR h) (p := p) (ar := fun f => h 42 0 f) I.n6 hp I.2.2.2.1 hw
  refine AM.imp (c_R_share hl (k := fun _ => 0) (D := dT (gaA (fun f => h 42 0 f)) (nR h)) (N := fun s => p * tlS (gaA (fun f => h 42 0 f)) (qS (SR h (nR h)) s)) (U := fun q x y => x = p * h 42 0 q.1.toNat * (q.2.2.1 - q.2.1) ∧ y = 12 * sumF (nR h) (h 42 0)) (by rw [e1]; exact I.1) (by rw [eN]; exact n1) hp (by decide) hb (fun f hf => by rw [eN] at hf; rw [e41]; exact har f hf) (fun f hf => by rw [eN] at hf; rw [e42]; exact I.2.2.2.1 f hf) htd (fun z => absurd z.1 (by decide)) (fun _ f hf b2 e2 who i hi _ => ?_) (fun z => absurd ⟨rfl, by rw [eN, e42]; exact hw⟩ z) (fun _ z => absurd z.1 (by decide)) K.1 ?_ ?_ ?_ ?_ h0) (share_post F _)
  · subst hi
    rw [eN, e42]
    exact ⟨by show p * h 42 0 f * (e2 - b2) = p * h 42 0 ((f : Int)).toNat * (e2 - b2); rw [Int.toNat_natCast], rfl⟩
  · rw [eS]; exact tl_sum _
  · rw [eS]; exact K.2.1
  · rw [eS]; exact K.2.2
  · rw [eS]; exact SR_ho I
theorem BH_mt {h : AH} (I : IR h) (hnd : degF (h 50 0) 0 12 = 100 ∨ ndR h = false) : MTR (BH h) (kRv h) := by
  have eb := I.eb
  unfold MTR bR
  rw [BH_n, BH_rd, BH_hs, BH_30, BH_fr h (show (43 : Nat) ≠ 40 ∧ (43 : Nat) ≠ 51 ∧ (43 : Nat) ≠ 52 ∧ (43 : Nat) ≠ 56 by decide), BH_fr h (show (50 : Nat) ≠ 40 ∧ (50 : Nat) ≠ 51 ∧ (50 : Nat) ≠ 52 ∧ (50 : Nat) ≠ 56 by decide)]
  refine ⟨fun f hf => ⟨kRv_0 h f, (I.2.1 f hf).2.2.2, (I.2.1 f hf).2.1, ?_⟩, ⟨by omega, eb.2⟩, I.2.2.2.2.2.2.2.2.2.2.2.2.2.2, hnd⟩
  rw [BH_56 h hf]
  exact (I.tm hf).1
theorem c_R_shareM (hl : l.stackTraces = false) (I : IR h) (n1 : 1 ≤ nR h) (F : FrR g (BH h)) (hp : 0 ≤ p ∧ p ≤ 260000) (hb0 : b = 0) (hfit : fitR h = 1) (hnd : degF (h 50 0) 0 12 = 100 ∨ ndR h = false) (h0 : ∀ j : Nat, j < 63 → j % 3 = 1 → g 52 0 j = 0) : AM l y_R_share (wsM y_R_share b_R_share 10 none []) false (rmV 3 0) w [vO 40 0, vI 1, vI p, vI b] g (RetP none (shP h g 1 p (gaM (kRv h) (rFc h) (uRv h) (sRv h) (rRd h) (h 50 0)))) := by
  have hb : b = 0 ∨ b = 1 := Or.inl hb0
  have eN := Fg_n F
  have eS := Fg_s F
  have e41 : g 41 = h 41 := Fg_t F (by decide)
  have e42 : g 42 = h 42 := Fg_t F (by decide)
  have e1 : g 40 0 1 = h 40 0 1 := by rw [F.2 1 (by decide), BH_40 h (by omega) (by decide) (by decide)]
  have htd : ∀ f : Nat, f < nR g → 0 ≤ g 56 0 f ∧ g 56 0 f ≤ 72000000 := fun f hf => by rw [eN] at hf; rw [Fg_56 F hf]; exact I.td hf
  have har : ∀ f : Nat, f < nR h → 0 ≤ h 41 0 f ∧ h 41 0 f ≤ 50 := fun f hf => (I.2.1 f hf).1
  have hA : 0 < sumF (nR h) (h 41 0) := sumF_pos (fun f hf => (har f hf).1) ⟨0, by omega, by have := I.2.2.1 0 (by omega); omega⟩
  have hd := I.2.2.2.2.2.2.2.2.2.2.2.2.2.2
  have KM : ∀ f, f < nR h → MOK (kRv h f) (rFc h f) (sRv h) (uRv h f) (rRd h f) := by
    intro f hf
    have z := kV_mok (n := nR h) (ar := rAr h) (fc := rFc h) (kn := rKn h) (rd := rRd h) I.2.1 I.n6 hf
    exact z
  have K := meter_ok (hs := rHs h) (vl := rVl h) (fh := fun f => h 46 0 f) (n := nR h) (p := p) (kd := kRv h) (fc := rFc h) (un := uRv h) (td := tR h) (dg := h 50 0) (sc := sRv h) (be := eR h) (K := KK (nR h) (rFc h) (rKn h) (rRd h)) (rd := rRd h) I.n6 hp hd KK_pos (sc_be (ar := rAr h) (fc := rFc h) (kn := rKn h) (rd := rRd h) I.2.2.1) (fun f hf => un_td (ar := rAr h) I.2.2.1 f) KM (fun f hf => (I.tm hf).1) (fitR_u I hfit)
  have eal : sumF (nR h) (g 56 0) = sumF (nR h) (tR h) := sumF_congr fun f hf => Fg_56 F hf
  refine AM.imp (c_R_share hl (k := kRv h) (D := dT (gaM (kRv h) (rFc h) (uRv h) (sRv h) (rRd h) (h 50 0)) (nR h)) (N := fun s => p * tlS (gaM (kRv h) (rFc h) (uRv h) (sRv h) (rRd h) (h 50 0)) (qS (SR h (nR h)) s)) (U := fun q x y => ∃ f : Nat, f < nR h ∧ q.1 = (f : Int) ∧ UM g (kRv h) p (sumF (nR h) (tR h)) f q.2.1 q.2.2.1 x y) (by rw [e1]; exact I.1) (by rw [eN]; exact n1) hp (by decide) hb (fun f hf => by rw [eN] at hf; rw [e41]; exact har f hf) (fun f hf => by rw [eN] at hf; rw [e42]; exact I.2.2.2.1 f hf) htd (fun _ => F.mt _ (BH_mt I hnd)) (fun z => absurd z.1 (by decide)) (fun _ z => absurd ⟨rfl, hb0⟩ z) (fun _ _ f hf fr to who x y i hi hu => ?_) K.1 ?_ ?_ ?_ ?_ h0) (share_post F _)
  · rw [eN] at hf hu
    rw [eal] at hu
    exact ⟨f, hf, hi, hu⟩
  · rw [eS]; exact tl_sum _
  · rw [eS]; exact K.2.1
  · rw [eS]
    intro s hs x y hu
    obtain ⟨f, hf, hi, hu⟩ := hu
    rw [F.um] at hu
    unfold UM at hu
    rw [BH_rd, BH_30, BH_56 h hf, BH_fr h (show (43 : Nat) ≠ 40 ∧ (43 : Nat) ≠ 51 ∧ (43 : Nat) ≠ 52 ∧ (43 : Nat) ≠ 56 by decide), BH_fr h (show (50 : Nat) ≠ 40 ∧ (50 : Nat) ≠ 51 ∧ (50 : Nat) ≠ 52 ∧ (50 : Nat) ≠ 56 by decide)] at hu
    obtain ⟨X, Y, hY, hX0, hX1, hXY, ex, ey⟩ := hu
    rw [ex, ey]
    exact K.2.2 s f hs hf hi X Y hY hX0 hX1 hXY
  · rw [eS]; exact SR_ho I
theorem wat_iff {h : AH} (I : IR h) : watR h = true ↔ 0 < sumF (nR h) (h 42 0) := by
  unfold watR
  constructor
  · intro z
    obtain ⟨k, hk, hp⟩ := anyF_ex z
    exact sumF_pos (fun f hf => (I.2.2.2.1 f hf).1) ⟨k, hk, by simpa using hp⟩
  · intro z
    by_cases c : ∃ k, k < nR h ∧ 0 < h 42 0 k
    · obtain ⟨k, hk, hp⟩ := c
      exact anyF_hit hk (by simpa using hp)
    · exfalso
      have := sumF_bd (g := h 42 0) (L := 0) (M := 0) (n := nR h) (fun k hk => ⟨(I.2.2.2.1 k hk).1, by
        by_cases q : 0 < h 42 0 k
        · exact absurd ⟨k, hk, q⟩ c
        · omega⟩)
      omega
theorem c_R_share0 (hl : l.stackTraces = false) (I : IR h) (n1 : 1 ≤ nR h) (F : FrR g (BH h)) (hp : 0 ≤ p ∧ p ≤ 260000) (hb : b = 0 ∨ b = 1) (h0 : ∀ j : Nat, j < 63 → j % 3 = 0 → g 52 0 j = 0) : AM l y_R_share (wsM y_R_share b_R_share 10 none []) false (rmV 3 0) w [vO 40 0, vI 0, vI p, vI b] g (RetP none (shP h g 0 p (gaA (rAr h)))) :=
  c_R_shareA hl I n1 F hp (by decide) hb (fun z => absurd z.1 (by decide)) (fun z => absurd z.1 (by decide)) h0
theorem c_R_share1 (hl : l.stackTraces = false) (I : IR h) (n1 : 1 ≤ nR h) (F : FrR g (BH h)) (hp : 0 ≤ p ∧ p ≤ 260000) (hb : b = 1 - fitR h) (hnd : fitR h = 1 → degF (h 50 0) 0 12 = 100 ∨ ndR h = false) (h0 : ∀ j : Nat, j < 63 → j % 3 = 1 → g 52 0 j = 0) : AM l y_R_share (wsM y_R_share b_R_share 10 none []) false (rmV 3 0) w [vO 40 0, vI 1, vI p, vI b] g (RetP none (shP h g 1 p (g1R h))) := by
  unfold g1R
  rcases fitR_01 h with c | c
  · rw [if_neg (by omega)]
    exact c_R_shareA hl I n1 F hp (by decide) (by omega) (fun z => absurd z.1 (by decide)) (fun z => by omega) h0
  · rw [if_pos c]
    exact c_R_shareM hl I n1 F hp (by omega) c (hnd c) h0
theorem c_R_share2 (hl : l.stackTraces = false) (I : IR h) (n1 : 1 ≤ nR h) (F : FrR g (BH h)) (hp : 0 ≤ p ∧ p ≤ 260000) (hb : b = 0 ∨ b = 1) (h0 : ∀ j : Nat, j < 63 → j % 3 = 2 → g 52 0 j = 0) : AM l y_R_share (wsM y_R_share b_R_share 10 none []) false (rmV 3 0) w [vO 40 0, vI 2, vI p, vI b] g (RetP none (shP h g 2 p (g2R h))) := by
  unfold g2R
  by_cases c : watR h = true
  · rw [if_pos c]
    exact c_R_shareW hl I n1 F hp hb ((wat_iff I).mp c) h0
  · rw [if_neg c]
    exact c_R_shareA hl I n1 F hp (by decide) hb (fun z => c ((wat_iff I).mpr z.2)) (fun z => absurd z.1 (by decide)) h0
end SHARES

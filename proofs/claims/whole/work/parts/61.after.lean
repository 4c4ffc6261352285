/-! The class's heap after look and lay. -/
def lC (h : AH) : AH := (LK h (nC h) (kC h) (uC h) (ruV (nC h) (cFc h) (cRd h)) (raV (nC h) (cAr h) (cRd h)) (puV (nC h) (cFc h) (cKn h) (cRd h)) (plV (nC h) (cKn h) (cRd h)) (sC h) (sumF (nC h) (uC h)))
def bG (h : AH) : AH := SPH (lC h) (SC h)
theorem lC_fr (h : AH) {t : Nat} (e : t < 10 ∨ 12 < t) : lC h t = h t := LK_fr _ _ _ _ _ _ _ _ _ _ (by omega)
theorem lC_2 (h : AH) : lC h 10 0 2 = sC h := rfl
theorem lC_3 (h : AH) : lC h 10 0 3 = sumF (nC h) (uC h) := rfl
theorem lC_k (h : AH) {f : Nat} (hf : f < nC h) : lC h 11 0 f = kC h f := by
  show LK _ _ _ _ _ _ _ _ _ _ 11 0 f = _
  unfold LK; rw [if_neg (by omega), if_pos ⟨rfl, rfl, hf⟩]
theorem lC_u (h : AH) {f : Nat} (hf : f < nC h) : lC h 12 0 f = uC h f := by
  show LK _ _ _ _ _ _ _ _ _ _ 12 0 f = _
  unfold LK; rw [if_neg (by omega), if_neg (by omega), if_pos ⟨rfl, rfl, hf⟩]
theorem bG_fr (h : AH) {t : Nat} (e : t < 10 ∨ 17 < t) : bG h t = h t := by
  unfold bG; rw [SPH_fr _ _ (by omega), lC_fr _ (by omega)]
theorem bG_l (h : AH) {t : Nat} (e : t < 13 ∨ 17 < t) : bG h t = lC h t := by
  unfold bG; rw [SPH_fr _ _ (by omega)]
theorem bG_13 (h : AH) : bG h 13 0 4 = ((SC h).length : Int) := rfl
theorem bG_14 (h : AH) {s : Nat} (e : s < (SC h).length) : bG h 14 0 s = (qS (SC h) s).1 := SPH_14 _ e
theorem bG_15 (h : AH) {s : Nat} (e : s < (SC h).length) : bG h 15 0 s = (qS (SC h) s).2.1 := SPH_15 _ e
theorem bG_16 (h : AH) {s : Nat} (e : s < (SC h).length) : bG h 16 0 s = (qS (SC h) s).2.2.1 := SPH_16 _ e
theorem bG_17 (h : AH) {s : Nat} (e : s < (SC h).length) : bG h 17 0 s = (qS (SC h) s).2.2.2 := SPH_17 _ e
theorem lay_e (h : AH) : SPH (lC h) (spA (cHs (lC h)) (cVl (lC h)) (fun f => lC h 4 f 3) (lC h 2 0 1).toNat) = bG h := by
  unfold bG SC nC
  congr 1
theorem SC_mem {h : AH} (I : IC h) {s : Nat} (hs : s < (SC h).length) : ∃ f : Nat, f < nC h ∧ (qS (SC h) s).1 = (f : Int) ∧ (0 ≤ (qS (SC h) s).2.1 ∧ (qS (SC h) s).2.1 < (qS (SC h) s).2.2.1 ∧ (qS (SC h) s).2.2.1 ≤ 12) ∧ ((qS (SC h) s).2.1 = 0 ∨ cHs h f (qS (SC h) s).2.1.toNat = true) ∧ ((qS (SC h) s).2.2.1 = 12 ∨ (1 ≤ (qS (SC h) s).2.2.1 ∧ (qS (SC h) s).2.2.1 < 12 ∧ cHs h f (qS (SC h) s).2.2.1.toNat = true)) ∧ (-1 ≤ (qS (SC h) s).2.2.2 ∧ (qS (SC h) s).2.2.2 < h 23 0 4) := by
  obtain ⟨hc, hF, har, hwa, htn, hfh, hch, _⟩ := I
  obtain ⟨f, hf, e1, e2, e3, e4, e5⟩ := mem_spA (qS_mem hs)
  have hf6 : f < 6 := by unfold nC at hf; omega
  refine ⟨f, hf, e1, e2, e3, e4, ?_⟩
  show -1 ≤ (qS (spA _ _ _ _) s).2.2.2 ∧ (qS (spA _ _ _ _) s).2.2.2 < _
  rcases e5 with y | ⟨x, hx, hx2, y⟩
  · rw [y]; exact hfh f hf6
  · rw [y]
    show -1 ≤ h 6 f x ∧ h 6 f x < h 23 0 4
    have z := hch f x hf6 hx
    unfold cHs at hx2
    simp at hx2
    omega
theorem SC_len {h : AH} (I : IC h) : (SC h).length ≤ 72 := by
  have l := spA_len (cHs h) (cVl h) (fun f => h 4 f 3) (nC h)
  have := I.1
  unfold SC; unfold nC at *; omega
theorem bG_sp {h : AH} (I : IC h) : SPok (bG h) := by
  have l := SC_len I
  have t20 := I.2.2.2.2.1
  unfold SPok
  rw [bG_13, Int.toNat_natCast, bG_fr h (show (2 : Nat) < 10 ∨ 17 < 2 by omega)]
  refine ⟨⟨by omega, by omega⟩, fun j hj => ?_, fun j hj => ?_, fun j hj => ?_⟩
  · obtain ⟨f, hf, e1, _⟩ := SC_mem I hj
    rw [bG_14 h hj, e1]; unfold nC at hf; omega
  · obtain ⟨f, hf, e1, e2, _⟩ := SC_mem I hj
    rw [bG_15 h hj, bG_16 h hj]; exact e2
  · obtain ⟨f, hf, e1, e2, e3, e4, e5⟩ := SC_mem I hj
    rw [bG_17 h hj]; omega
theorem bG_st {h : AH} {s f : Nat} (hs : s < (SC h).length) (hf : f < nC h) (e : (qS (SC h) s).1 = (f : Int)) (t : Nat) : stH (bG h) s t = stF (kC h f) (h 4 f 2) (sC h) (uC h f) (h 5 f) (h 29 0) (qS (SC h) s).2.1 (qS (SC h) s).2.2.1 t := by
  unfold stH
  rw [bG_14 h hs, bG_15 h hs, bG_16 h hs, e, Int.toNat_natCast, bG_l h (show (11 : Nat) < 13 ∨ 17 < 11 by omega), bG_l h (show (12 : Nat) < 13 ∨ 17 < 12 by omega), bG_l h (show (10 : Nat) < 13 ∨ 17 < 10 by omega), lC_k h hf, lC_u h hf, lC_2, bG_fr h (show (4 : Nat) < 10 ∨ 17 < 4 by omega), bG_fr h (show (5 : Nat) < 10 ∨ 17 < 5 by omega), bG_fr h (show (29 : Nat) < 10 ∨ 17 < 29 by omega)]
theorem bG_ok {h : AH} (I : IC h) (hnd : degF (h 29 0) 0 12 = 100 ∨ ndB (nC h) (cHs h) (bC h) = false) : stOK (bG h) := by
  intro s hs t ht
  rw [bG_13, Int.toNat_natCast] at hs
  obtain ⟨f, hf, e1, e2, e3, e4, _⟩ := SC_mem I hs
  obtain ⟨hc, hF, _, _, _, _, _, _, _, _, _, _, _, _, hd⟩ := I
  have M := kC_mok hc hF hf
  have hcut := cut_ok (vl := cVl h) (fh := fun f => h 4 f 3) hd hnd hf e3 e2 e4
  rw [bG_st hs hf e1, bG_14 h hs, e1, Int.toNat_natCast, bG_l h (show (11 : Nat) < 13 ∨ 17 < 11 by omega), bG_l h (show (12 : Nat) < 13 ∨ 17 < 12 by omega), bG_l h (show (10 : Nat) < 13 ∨ 17 < 10 by omega), lC_k h hf, lC_u h hf, lC_2, bG_fr h (show (4 : Nat) < 10 ∨ 17 < 4 by omega), bG_fr h (show (5 : Nat) < 10 ∨ 17 < 5 by omega)]
  generalize hq : qS (SC h) s = q at *
  obtain ⟨fr, hfr⟩ : ∃ fr : Nat, q.2.1 = (fr : Int) := ⟨q.2.1.toNat, by omega⟩
  obtain ⟨to, hto⟩ : ∃ to : Nat, q.2.2.1 = (to : Int) := ⟨q.2.2.1.toNat, by omega⟩
  rw [hfr, hto, Int.toNat_natCast, Int.toNat_natCast] at hcut
  rw [hfr, hto]
  have z := st_bds M hd (fr := fr) (to := to) (by omega) hcut ht
  exact ⟨z.1, z.2.1⟩
theorem bG_ct {h : AH} (I : IC h) : anyF (SC h).length (ctB (bG h)) = ndB (nC h) (cHs h) (bC h) := by
  have key : ∀ s f : Nat, s < (SC h).length → f < nC h → (qS (SC h) s).1 = (f : Int) → 0 ≤ (qS (SC h) s).2.1 → (ctB (bG h) s = true ↔ 0 < (qS (SC h) s).2.1 ∧ bC h f (qS (SC h) s).2.1.toNat = false) := by
    intro s f hs hf e h0
    unfold ctB bC bdF
    rw [bG_14 h hs, bG_15 h hs, e, Int.toNat_natCast, bG_l h (show (11 : Nat) < 13 ∨ 17 < 11 by omega), lC_k h hf, bG_fr h (show (5 : Nat) < 10 ∨ 17 < 5 by omega)]
    have e3 : (((qS (SC h) s).2.1.toNat : Nat) : Int) = (qS (SC h) s).2.1 := by omega
    rw [e3]
    have z := esI_01 (kC h f) (h 5 f) (qS (SC h) s).2.1
    simp only [Bool.and_eq_true, decide_eq_true_eq, decide_eq_false_iff_not]
    constructor
    · intro y; exact ⟨y.1, by omega⟩
    · intro y; exact ⟨y.1, by omega⟩
  by_cases c : anyF (SC h).length (ctB (bG h)) = true
  · rw [c]
    obtain ⟨s, hs, hp⟩ := anyF_ex c
    obtain ⟨f, hf, e1, e2, e3, e4, _⟩ := SC_mem I hs
    have k := (key s f hs hf e1 e2.1).mp hp
    refine (anyF_hit hf (anyF_hit (k := (qS (SC h) s).2.1.toNat) (by omega) ?_)).symm
    rcases e3 with y | y
    · omega
    · simp [y, k.2]; omega
  · rw [Bool.eq_false_iff.mpr c]
    by_cases d : ndB (nC h) (cHs h) (bC h) = true
    · exfalso
      obtain ⟨f, hf, hp⟩ := anyF_ex d
      obtain ⟨m, hm, hq⟩ := anyF_ex hp
      simp only [Bool.and_eq_true, decide_eq_true_eq, Bool.not_eq_true'] at hq
      obtain ⟨p, pm, q1, q2⟩ := ex_spA (hs := cHs h) (vl := cVl h) (fh := fun f => h 4 f 3) hf hq.1.1 hm hq.1.2
      obtain ⟨s, hs, e⟩ := mem_qS pm
      have e' : qS (SC h) s = p := e
      refine c (anyF_hit (k := s) hs ((key s f hs hf (by rw [e']; exact q1) (by rw [e', q2]; omega)).mpr ⟨by rw [e', q2]; omega, ?_⟩))
      rw [e', q2, Int.toNat_natCast]; exact hq.2
    · exact (Bool.eq_false_iff.mpr d).symm
theorem fitI_congr {n : Nat} {kd kd' ar : Nat → Int} {au : Int} (h : ∀ f, f < n → kd f = kd' f) : fitI n kd ar au = fitI n kd' ar au := by
  unfold fitI
  have e1 : ∀ m, m ≤ n → anyF m (fun f => decide (kd f = 3)) = anyF m (fun f => decide (kd' f = 3)) := by
    intro m
    induction m with
    | zero => intro _; rfl
    | succ m ih => intro hm; show (anyF m _ || decide (kd m = 3)) = (anyF m _ || decide (kd' m = 3)); rw [ih (by omega), h m (by omega)]
  have e2 : sumF n (oaG kd ar) = sumF n (oaG kd' ar) := sumF_congr fun f hf => by unfold oaG; rw [h f hf]
  rw [e1 n (Nat.le_refl _), e2]
theorem bG_fit (h : AH) : fitI (bG h 2 0 1).toNat (bG h 11 0) (fun f => bG h 4 f 0) (bG h 10 0 3) = fitC h := by
  rw [bG_fr h (show (2 : Nat) < 10 ∨ 17 < 2 by omega), bG_fr h (show (4 : Nat) < 10 ∨ 17 < 4 by omega), bG_l h (show (10 : Nat) < 13 ∨ 17 < 10 by omega), lC_3]
  exact fitI_congr fun f hf => by rw [bG_l h (show (11 : Nat) < 13 ∨ 17 < 11 by omega), lC_k h hf]
theorem bG_wa {h : AH} (q : Nat) {s : Nat} (hs : s < (SC h).length) : waF (bG h) q s = h 4 (qS (SC h) s).1.toNat q * ((qS (SC h) s).2.2.1 - (qS (SC h) s).2.1) := by
  unfold waF
  rw [bG_14 h hs, bG_15 h hs, bG_16 h hs, bG_fr h (show (4 : Nat) < 10 ∨ 17 < 4 by omega)]
theorem acF_congr {n : Nat} {G G' ho ho' : Nat → Int} (h1 : ∀ s, s < n → ho s = ho' s) (h2 : ∀ s, s < n → G s = G' s) (j : Nat) : acF n G ho j = acF n G' ho' j := by
  unfold acF
  exact sumF_congr fun s hs => by rw [h1 s hs, h2 s hs]

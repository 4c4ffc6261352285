/-! Contracts: bill. -/
def bbC (h : AH) : Int := sumF (h 7 0 2).toNat (h 8 0) - h 7 0 3
def coC (h : AH) : Int := sumF (h 7 0 2).toNat (ncV (h 7 0 2).toNat (h 8 0) (h 9 0) (h 7 0 3)) + h 1 0 8
def p2C (h : AH) : Int := p2V (coC h) (waV (h 1 0 9) (h 1 0 10) (bbC h)) (bbC h)
def p3C (h : AH) : Int := p3V (coC h) (p2C h) (h 1 0 11)
def p4C (h : AH) : Int := coC h - p2C h - p3C h
def watC (h : AH) : Bool := anyF (nC h) (fun f => decide (0 < h 4 f 1))
def g1C (h : AH) : Int → Int → Int := if fitC h = 1 then gaM (kC h) (cFc h) (uC h) (sC h) (cRd h) (h 29 0) else gaA (cAr h)
def g2C (h : AH) : Int → Int → Int := if watC h = true then gaA (fun f => h 4 f 1) else gaA (cAr h)
def billR (h : AH) : Int := if h 2 0 1 = 0 ∨ ¬ (h 7 0 3 ≠ -1 ∧ 0 < bbC h) then -1 else if fitC h = 1 ∧ ndB (nC h) (cHs h) (bC h) = true ∧ degF (h 29 0) 0 12 ≠ 100 then -1 else if fitC h = 1 then 0 else 2
def billH (h h' : AH) : Prop := (∀ t : Nat, (t < 10 ∨ 22 < t) → t ≠ 1 → t ≠ 25 → t ≠ 30 → h' t = h t) ∧ h' 1 = hset h 1 0 12 1 1 ∧ (h' 30 0 0 = bbC h ∧ h' 30 0 1 = coC h ∧ h' 30 0 2 = p2C h ∧ h' 30 0 3 = p3C h ∧ h' 30 0 4 = p4C h) ∧ (∀ j : Nat, j < 21 → h' 25 0 j = outF (SC h) (gaA (cAr h)) (nC h) (p3C h) j) ∧ (∀ j : Nat, j < 21 → h' 25 1 j = outF (SC h) (g1C h) (nC h) (p4C h) j) ∧ (∀ j : Nat, j < 21 → h' 25 2 j = outF (SC h) (g2C h) (nC h) (p2C h) j)
theorem ite_yes {P : Prop} [Decidable P] (h : ¬ (if P then (1 : Int) else 0) = 0) : P := by
  by_cases z : P
  · exact z
  · rw [if_neg z] at h; exact absurd rfl h
theorem ite_no {P : Prop} [Decidable P] (h : (if P then (1 : Int) else 0) = 0) : ¬ P := by
  intro z
  rw [if_pos z] at h; cases h
theorem billR_0 {h : AH} (e : h 2 0 1 = 0 ∨ ¬ (h 7 0 3 ≠ -1 ∧ 0 < bbC h)) : billR h = -1 := by unfold billR; rw [if_pos e]
theorem billR_1 {h : AH} (hc : h 2 0 1 ≠ 0) (hb : h 7 0 3 ≠ -1 ∧ 0 < bbC h) (e : fitC h = 1 ∧ ndB (nC h) (cHs h) (bC h) = true ∧ degF (h 29 0) 0 12 ≠ 100) : billR h = -1 := by
  unfold billR
  rw [if_neg, if_pos e]
  intro z
  rcases z with z | z
  · exact hc z
  · exact z hb
theorem billR_2 {h : AH} (hc : h 2 0 1 ≠ 0) (hb : h 7 0 3 ≠ -1 ∧ 0 < bbC h) (e : fitC h = 1 → degF (h 29 0) 0 12 = 100 ∨ ndB (nC h) (cHs h) (bC h) = false) : billR h = if fitC h = 1 then 0 else 2 := by
  unfold billR
  rw [if_neg, if_neg]
  · intro z
    rcases e z.1 with y | y
    · exact z.2.2 y
    · rw [y] at z; exact absurd z.2.1 (by decide)
  · intro z
    rcases z with z | z
    · exact hc z
    · exact z hb
theorem fit_u {h : AH} (z : fitC h = 1) : 0 < sumF (nC h) (uC h) := by
  unfold fitC fitI at z
  split at z
  · rename_i y; exact y.2.2
  · cases z
theorem partsC_bd {h : AH} (I : IC h) (hb : h 7 0 3 ≠ -1 ∧ 0 < bbC h) : (0 ≤ coC h ∧ coC h ≤ 260000) ∧ (0 ≤ p2C h ∧ p2C h ≤ 260000) ∧ (0 ≤ p3C h ∧ p3C h ≤ 260000) ∧ (0 ≤ p4C h ∧ p4C h ≤ 260000) := by
  obtain ⟨hc, hF, har, hwa, htn, hfh, hch, hL, hU, hs, hsd, hli, hga, hpm, hd⟩ := I
  have hL1 := hU.1
  have n1 := nc_bd (s := h 7 0 3) hU (n := (h 7 0 2).toNat) (Nat.le_refl _)
  have w1 := waV_bd (li := h 1 0 9) (ga := h 1 0 10) (b := bbC h) (by omega) (by omega) (by omega)
  have c1 : 0 ≤ coC h ∧ coC h ≤ 260000 := by unfold coC; omega
  have p1 := p2V_bd (cost := coC h) (wa := waV (h 1 0 9) (h 1 0 10) (bbC h)) (b := bbC h) c1.1 w1 (by omega)
  have q1 := p3V_bd (cost := coC h) (p2 := p2C h) (pm := h 1 0 11) (by unfold p2C; omega) hpm
  have p1' : 0 ≤ p2C h ∧ p2C h ≤ coC h := p1
  have q1' : 0 ≤ p3C h ∧ p3C h ≤ coC h - p2C h := q1
  unfold p4C
  omega
/-- the heap when the parts are to be shared -/
def sG (h : AH) : AH := partsH (bG h) 30 (bbC h) (coC h) (p2C h) (p3C h)
theorem sG_fr (h : AH) {t : Nat} (e : t ≠ 30) : sG h t = bG h t := by
  unfold sG partsH
  rw [hset_fr _ _ _ _ e, hset_fr _ _ _ _ e, hset_fr _ _ _ _ e, hset_fr _ _ _ _ e, hset_fr _ _ _ _ e]
theorem sG_30 (h : AH) : sG h 30 0 0 = bbC h ∧ sG h 30 0 1 = coC h ∧ sG h 30 0 2 = p2C h ∧ sG h 30 0 3 = p3C h ∧ sG h 30 0 4 = p4C h := ⟨rfl, rfl, rfl, rfl, rfl⟩
theorem sG_Fb (h : AH) : Fr (bG h) (sG h) → True := fun _ => trivial
theorem sG_wa (h : AH) (q : Nat) : waF (sG h) q = waF (bG h) q := by
  funext s; unfold waF
  rw [sG_fr h (by decide), sG_fr h (by decide), sG_fr h (by decide), sG_fr h (by decide)]
theorem sG_st (h : AH) (s t : Nat) : stH (sG h) s t = stH (bG h) s t := by
  unfold stH
  rw [sG_fr h (show (11 : Nat) ≠ 30 by decide), sG_fr h (show (14 : Nat) ≠ 30 by decide), sG_fr h (show (4 : Nat) ≠ 30 by decide), sG_fr h (show (10 : Nat) ≠ 30 by decide), sG_fr h (show (12 : Nat) ≠ 30 by decide), sG_fr h (show (5 : Nat) ≠ 30 by decide), sG_fr h (show (29 : Nat) ≠ 30 by decide), sG_fr h (show (15 : Nat) ≠ 30 by decide), sG_fr h (show (16 : Nat) ≠ 30 by decide)]
theorem sG_sp {h : AH} (I : IC h) : SPok (sG h) := by
  have z := bG_sp I
  unfold SPok at *
  rw [sG_fr h (show (13 : Nat) ≠ 30 by decide), sG_fr h (show (14 : Nat) ≠ 30 by decide), sG_fr h (show (15 : Nat) ≠ 30 by decide), sG_fr h (show (16 : Nat) ≠ 30 by decide), sG_fr h (show (17 : Nat) ≠ 30 by decide), sG_fr h (show (2 : Nat) ≠ 30 by decide)]
  exact z
theorem sG_ok {h : AH} (I : IC h) (hnd : degF (h 29 0) 0 12 = 100 ∨ ndB (nC h) (cHs h) (bC h) = false) : stOK (sG h) := by
  have z := bG_ok I hnd
  intro s hs t ht
  rw [sG_fr h (show (13 : Nat) ≠ 30 by decide)] at hs
  have y := z s hs t ht
  rw [sG_st, sG_fr h (show (11 : Nat) ≠ 30 by decide), sG_fr h (show (14 : Nat) ≠ 30 by decide), sG_fr h (show (4 : Nat) ≠ 30 by decide), sG_fr h (show (10 : Nat) ≠ 30 by decide), sG_fr h (show (12 : Nat) ≠ 30 by decide), sG_fr h (show (5 : Nat) ≠ 30 by decide)]
  exact y
theorem sG_h (h : AH) {t : Nat} (e : t < 10 ∨ 17 < t) (e2 : t ≠ 30) : sG h t = h t := by rw [sG_fr h e2, bG_fr h e]
theorem sG_area {h : AH} (I : IC h) (hn : 1 ≤ nC h) {q : Nat} {p : Int} (hp : 0 ≤ p ∧ p ≤ 260000) (har : ∀ f : Nat, f < nC h → 0 ≤ h 4 f q ∧ h 4 f q ≤ 50) (hpos : ∃ f, f < nC h ∧ 1 ≤ h 4 f q) : SPV (sG h 13 0 4).toNat p (dT (gaA (fun f => h 4 f q)) (nC h)) (fun s => p * tlS (gaA (fun f => h 4 f q)) (qS (SC h) s)) (sumF (sG h 13 0 4).toNat (waF (sG h) q)) (waF (sG h) q) (fun _ => 1) := by
  rw [sG_fr h (show (13 : Nat) ≠ 30 by decide), bG_13, Int.toNat_natCast]
  refine spv_area (hs := cHs h) (vl := cVl h) (fh := fun f => h 4 f 3) (ar := fun f => h 4 f q) ⟨hn, by have := I.1; unfold nC; omega⟩ hp har hpos (fun s hs => ?_)
  rw [sG_wa]
  exact bG_wa q hs
theorem sG_meter {h : AH} (I : IC h) (hn : 1 ≤ nC h) {p : Int} (hp : 0 ≤ p ∧ p ≤ 260000) (hu : 0 < sumF (nC h) (uC h)) (hnd : degF (h 29 0) 0 12 = 100 ∨ ndB (nC h) (cHs h) (bC h) = false) : SPV (sG h 13 0 4).toNat p (dT (gaM (kC h) (cFc h) (uC h) (sC h) (cRd h) (h 29 0)) (nC h)) (fun s => p * tlS (gaM (kC h) (cFc h) (uC h) (sC h) (cRd h) (h 29 0)) (qS (SC h) s)) (sG h 10 0 3) (fun s => (stH (sG h) s 12).2.1) (fun s => (stH (sG h) s 12).2.2) := by
  rw [sG_fr h (show (13 : Nat) ≠ 30 by decide), sG_fr h (show (10 : Nat) ≠ 30 by decide), bG_13, Int.toNat_natCast, bG_l h (show (10 : Nat) < 13 ∨ 17 < 10 by omega), lC_3]
  have hc := I.1
  have hF := I.2.1
  have hd := I.2.2.2.2.2.2.2.2.2.2.2.2.2.2
  refine spv_meter (hs := cHs h) (vl := cVl h) (fh := fun f => h 4 f 3) (kd := kC h) (fc := cFc h) (un := uC h) (sc := sC h) (rd := cRd h) (dg := h 29 0) ⟨hn, by unfold nC; omega⟩ hp hd (fun f hf => kC_mok hc hF hf) hu hnd (fun s hs f e => ?_)
  obtain ⟨f2, hf2, e2, _⟩ := SC_mem I hs
  have ef : f = f2 := by have := e.symm.trans e2; omega
  subst ef
  simp only [sG_st, bG_st hs hf2 e]
  exact ⟨rfl, rfl⟩
theorem out_e {h : AH} {D p : Int} {N : Nat → Int} (j : Nat) : acF (sG h 13 0 4).toNat (gvN (sG h 13 0 4).toNat p D N) (sG h 17 0) j = acF (SC h).length (gvN (SC h).length p D N) (fun s => (qS (SC h) s).2.2.2) j := by
  rw [sG_fr h (show (13 : Nat) ≠ 30 by decide), sG_fr h (show (17 : Nat) ≠ 30 by decide), bG_13, Int.toNat_natCast]
  exact acF_congr (fun s hs => bG_17 h hs) (fun s hs => rfl) j
theorem wat_pos {h : AH} (hw : watC h = true) : ∃ f, f < nC h ∧ 1 ≤ h 4 f 1 := by
  obtain ⟨f, hf, e⟩ := anyF_ex hw
  simp at e
  exact ⟨f, hf, by omega⟩
set_option maxHeartbeats 1000000 in
theorem c_H_bill {l : Launch} (hl : l.stackTraces = false) {w : XW} {h : AH} (hI : IC h) : AM l y_H_bill (wsM y_H_bill b_H_bill 2 (some .int) []) false (rmV 5 0) w [vO 1 0] h (RetP (some (vI (billR h))) (fun h' => if billR h = -1 then (∀ t : Nat, (t < 10 ∨ 17 < t) → h' t = h t) else billH h h')) := by
  refine AM.of hl (by decide +kernel) (Nat.le_of_ble_eq_true rfl) fun x hx C _ => ?_
  have I := hI
  obtain ⟨hc, hF, har, hwa, htn, hfh, hch, hL, hU, hs, hsd, hli, hga, hpm, hd⟩ := hI
  have fit01 : fitC h = 0 ∨ fitC h = 1 := by unfold fitC fitI; split <;> simp
  have scb : 1 ≤ sC h ∧ sC h ≤ 360000 := scV_bd (FIv.sub hF (by unfold nC; omega)) (by unfold nC; omega)
  have bfin : ∀ g : AH, Fr g (sG h) → (∀ j : Nat, j < 21 → g 25 0 j = acF (sG h 13 0 4).toNat (gvN (sG h 13 0 4).toNat (sG h 30 0 3) (dT (gaA (cAr h)) (nC h)) (fun s => p3C h * tlS (gaA (cAr h)) (qS (SC h) s))) (sG h 17 0) j) → (∀ j : Nat, j < 21 → g 25 1 j = acF (sG h 13 0 4).toNat (gvN (sG h 13 0 4).toNat (sG h 30 0 4) (dT (g1C h) (nC h)) (fun s => p4C h * tlS (g1C h) (qS (SC h) s))) (sG h 17 0) j) → (∀ j : Nat, j < 21 → g 25 2 j = acF (sG h 13 0 4).toNat (gvN (sG h 13 0 4).toNat (sG h 30 0 2) (dT (g2C h) (nC h)) (fun s => p2C h * tlS (g2C h) (qS (SC h) s))) (sG h 17 0) j) → billH h (hset g 1 0 12 1) := by
    intro g F o0 o1 o2
    refine ⟨fun t e1 e2 e3 e4 => by rw [hset_fr _ _ _ _ e2, F t (by omega) e3, sG_h h (by omega) e4], ?_, ?_, fun j hj => ?_, fun j hj => ?_, fun j hj => ?_⟩
    · funext i j
      unfold hset
      rw [F 1 (by omega) (by omega), sG_h h (by omega) (by omega)]
    · rw [hset_fr _ _ _ _ (by decide), F 30 (by omega) (by omega)]; exact sG_30 h
    · rw [hset_fr _ _ _ _ (by decide), o0 j hj, out_e]; rfl
    · rw [hset_fr _ _ _ _ (by decide), o1 j hj, out_e]; rfl
    · rw [hset_fr _ _ _ _ (by decide), o2 j hj, out_e]; rfl
  have j87 : h 2 0 1 ≠ 0 → (h 7 0 3 ≠ -1 ∧ 0 < bbC h) → (fitC h = 1 → degF (h 29 0) 0 12 = 100 ∨ ndB (nC h) (cHs h) (bC h) = false) → AW x w 2 false 0 0 (AQ x w false 0 0 (RetP (some (vI (billR h))) (fun h' => if billR h = -1 then (∀ t : Nat, (t < 10 ∨ 17 < t) → h' t = h t) else billH h h'))) 87 [(1, vI (fitC h)), (0, vO 1 0)] [] (bG h) := by
    intro hcn hb hnd
    have hn : 1 ≤ nC h := by unfold nC; omega
    obtain ⟨c1, c2, c3, c4⟩ := partsC_bd I hb
    have fz : ∃ f, f < nC h ∧ 1 ≤ h 4 f 0 := ⟨0, by omega, har 0 (by omega)⟩
    have hn6 : nC h ≤ 6 := by unfold nC; omega
    have f4 : ∀ f : Nat, f < nC h → 0 ≤ h 4 f 0 ∧ h 4 f 0 ≤ 50 := fun f hf => (hF f (by omega)).1
    have f41 : ∀ f : Nat, f < nC h → 0 ≤ h 4 f 1 ∧ h 4 f 1 ≤ 50 := fun f hf => hwa f (by omega)
    have k0 := sG_area I hn c3 f4 fz
    have k1a : fitC h = 0 → SPV (sG h 13 0 4).toNat (p4C h) (dT (g1C h) (nC h)) (fun s => p4C h * tlS (g1C h) (qS (SC h) s)) (sumF (sG h 13 0 4).toNat (waF (sG h) 0)) (waF (sG h) 0) (fun _ => 1) := fun z => by rw [show g1C h = gaA (cAr h) by unfold g1C; rw [if_neg (by omega)]]; exact sG_area I hn c4 f4 fz
    have fu : fitC h = 1 → 0 < sumF (nC h) (uC h) := fit_u
    have k1b : fitC h = 1 → SPV (sG h 13 0 4).toNat (p4C h) (dT (g1C h) (nC h)) (fun s => p4C h * tlS (g1C h) (qS (SC h) s)) (sG h 10 0 3) (fun s => (stH (sG h) s 12).2.1) (fun s => (stH (sG h) s 12).2.2) := fun z => by rw [show g1C h = gaM (kC h) (cFc h) (uC h) (sC h) (cRd h) (h 29 0) by unfold g1C; rw [if_pos z]]; exact sG_meter I hn c4 (fu z) (hnd z)
    have we : anyF (sG h 2 0 1).toNat (fun f => decide (0 < sG h 4 f 1)) = watC h := by rw [sG_h h (show (2 : Nat) < 10 ∨ 17 < 2 by omega) (by decide), sG_h h (show (4 : Nat) < 10 ∨ 17 < 4 by omega) (by decide)]; rfl
    have k2a : anyF (sG h 2 0 1).toNat (fun f => decide (0 < sG h 4 f 1)) = false → SPV (sG h 13 0 4).toNat (p2C h) (dT (g2C h) (nC h)) (fun s => p2C h * tlS (g2C h) (qS (SC h) s)) (sumF (sG h 13 0 4).toNat (waF (sG h) 0)) (waF (sG h) 0) (fun _ => 1) := fun z => by rw [we] at z; rw [show g2C h = gaA (cAr h) by unfold g2C; rw [if_neg (by rw [z]; decide)]]; exact sG_area I hn c2 f4 fz
    have k2b : anyF (sG h 2 0 1).toNat (fun f => decide (0 < sG h 4 f 1)) = true → SPV (sG h 13 0 4).toNat (p2C h) (dT (g2C h) (nC h)) (fun s => p2C h * tlS (g2C h) (qS (SC h) s)) (sumF (sG h 13 0 4).toNat (waF (sG h) 1)) (waF (sG h) 1) (fun _ => 1) := fun z => by rw [we] at z; rw [show g2C h = gaA (fun f => h 4 f 1) by unfold g2C; rw [if_pos z]]; exact sG_area I hn c2 f41 (wat_pos z)
    refine r_aload_n (i0 := 0) C d_H_bill_87 rfl rfl ?_
    refine r_callVw C cl_H_192 im_H_setBillParts rfl rfl (c_H_setBillParts hx (by rw [bG_fr h (show (7 : Nat) < 10 ∨ 17 < 7 by omega)]; exact hL) (by rw [bG_fr h (show (7 : Nat) < 10 ∨ 17 < 7 by omega), bG_fr h (show (8 : Nat) < 10 ∨ 17 < 8 by omega), bG_fr h (show (9 : Nat) < 10 ∨ 17 < 9 by omega)]; exact hU) (by rw [bG_fr h (show (7 : Nat) < 10 ∨ 17 < 7 by omega)]; exact hs) (by rw [bG_fr h (show (1 : Nat) < 10 ∨ 17 < 1 by omega)]; exact hli) (by rw [bG_fr h (show (1 : Nat) < 10 ∨ 17 < 1 by omega)]; exact hga) (by rw [bG_fr h (show (1 : Nat) < 10 ∨ 17 < 1 by omega)]; exact hsd) (by rw [bG_fr h (show (1 : Nat) < 10 ∨ 17 < 1 by omega)]; exact hpm) (by rw [bG_fr h (show (7 : Nat) < 10 ∨ 17 < 7 by omega), bG_fr h (show (8 : Nat) < 10 ∨ 17 < 8 by omega)]; exact ⟨hb.2, by omega⟩)) rfl rfl d_H_bill_88 (by decide) (by decide) (Nat.le_of_ble_eq_true rfl) (fun h88 p88 => ?_)
    have e88 : h88 = sG h := by
      rw [p88, bG_fr h (show (7 : Nat) < 10 ∨ 17 < 7 by omega), bG_fr h (show (8 : Nat) < 10 ∨ 17 < 8 by omega), bG_fr h (show (9 : Nat) < 10 ∨ 17 < 9 by omega), bG_fr h (show (1 : Nat) < 10 ∨ 17 < 1 by omega)]
      rfl
    subst e88
    refine r_aload_n (i0 := 0) C d_H_bill_91 rfl rfl ?_
    refine r_iload_n (i0 := 1) C d_H_bill_92 rfl rfl ?_
    refine r_callVw C cl_H_195 im_H_shareParts rfl rfl (c_H_shareParts hx (D0 := dT (gaA (cAr h)) (nC h)) (N0 := fun s => p3C h * tlS (gaA (cAr h)) (qS (SC h) s)) (D1 := dT (g1C h) (nC h)) (N1 := fun s => p4C h * tlS (g1C h) (qS (SC h) s)) (D2 := dT (g2C h) (nC h)) (N2 := fun s => p2C h * tlS (g2C h) (qS (SC h) s)) fit01 (by rw [sG_h h (by omega) (by omega)]; exact hc) (by unfold FIc cAr cFc cKn cRd; rw [sG_h h (show (4 : Nat) < 10 ∨ 17 < 4 by omega) (by omega), sG_h h (show (5 : Nat) < 10 ∨ 17 < 5 by omega) (by omega)]; exact hF) (by rw [sG_h h (by omega) (by omega)]; exact hwa) (sG_sp I) (fun z => ⟨by rw [sG_fr h (by decide), bG_l h (by omega), lC_2]; exact scb, sG_ok I (hnd z)⟩) (by rw [sG_h h (by omega) (by omega)]; exact hd) k0 k1a k2a k2b k1b) rfl rfl d_H_bill_93 (by decide) (by decide) (Nat.le_of_ble_eq_true rfl) (fun h93 p93 => ?_)
    obtain ⟨F93, o0, o1, o2⟩ := p93
    refine r_aload_n (i0 := 0) C d_H_bill_96 rfl rfl ?_
    refine r_iconst C d_H_bill_97 (by decide) ?_
    refine r_putZ C pl_H_71 d_H_bill_98 rfl (by omega) ?_
    refine r_iload_n (i0 := 1) C d_H_bill_101 rfl rfl ?_
    refine r_if_eq (tgt := 109) C d_H_bill_102 (by decide) (fun q102 => ?_) (fun q102 => ?_)
    · refine r_iconst C d_H_bill_109 (by decide) ?_
      exact r_iret C d_H_bill_110 (fun _ => by have e := billR_2 hcn hb hnd; have e2 : billR h ≠ -1 := (by rw [e]; split <;> omega); exact ⟨vi_e (by rw [e]; first | (rw [if_pos (by omega)]; done) | (rw [if_neg (by omega)]; done)), by show (if _ then _ else _); rw [if_neg e2]; exact bfin h93 F93 o0 o1 o2⟩) (by decide) (fun q => nomatch q)
    · refine r_iconst C d_H_bill_105 (by decide) ?_
      refine r_goto (tgt := 110) C d_H_bill_106 (by decide) ?_
      exact r_iret C d_H_bill_110 (fun _ => by have e := billR_2 hcn hb hnd; have e2 : billR h ≠ -1 := (by rw [e]; split <;> omega); exact ⟨vi_e (by rw [e]; first | (rw [if_pos (by omega)]; done) | (rw [if_neg (by omega)]; done)), by show (if _ then _ else _); rw [if_neg e2]; exact bfin h93 F93 o0 o1 o2⟩) (by decide) (fun q => nomatch q)
  refine r_aload_n (i0 := 0) C d_H_bill_0 rfl rfl ?_
  refine r_getO C fl_H_12 d_H_bill_1 rfl rfl (fun hi => hi) ?_
  refine r_getI C fl_H_86 d_H_bill_4 rfl ?_
  refine r_if_eq (tgt := 20) C d_H_bill_7 (by decide) (fun q7 => ?_) (fun q7 => ?_)
  · refine r_iconst C d_H_bill_20 (by decide) ?_
    exact r_iret C d_H_bill_21 (fun _ => by have e : billR h = -1 := billR_0 (by first | (left; omega) | (right; exact hb0)); exact ⟨vi_e e.symm, by show (if _ then _ else _); rw [if_pos e]; exact fun t _ => rfl⟩) (by decide) (fun q => nomatch q)
  · refine r_aload_n (i0 := 0) C d_H_bill_10 rfl rfl ?_
    refine r_getO C fl_H_19 d_H_bill_11 rfl rfl (fun hi => hi) ?_
    refine r_callVp C cl_H_170 im_U_isBurned rfl rfl (c_U_isBurned hx hL hU hs) rfl rfl d_H_bill_14 (by decide) (Nat.le_of_ble_eq_true rfl) ?_
    refine r_if_ne (tgt := 22) C d_H_bill_17 (by decide) (fun q17 => ?_) (fun q17 => ?_)
    · have hcn : h 2 0 1 ≠ 0 := (by omega)
      have hb : h 7 0 3 ≠ -1 ∧ 0 < bbC h := (by unfold bbC; exact ite_yes (by omega))
      refine r_aload_n (i0 := 0) C d_H_bill_22 rfl rfl ?_
      refine r_getO C fl_H_26 d_H_bill_23 rfl rfl (fun hi => hi) ?_
      refine r_aload_n (i0 := 0) C d_H_bill_26 rfl rfl ?_
      refine r_getO C fl_H_12 d_H_bill_27 rfl rfl (fun hi => hi) ?_
      refine r_callVw C cl_H_174 im_M_look rfl rfl (c_M_look hx hc hF) rfl rfl d_H_bill_30 (by decide) (by decide) (Nat.le_of_ble_eq_true rfl) (fun h30 p30 => ?_)
      have e30 : h30 = lC h := p30
      subst e30
      refine r_aload_n (i0 := 0) C d_H_bill_33 rfl rfl ?_
      refine r_getO C fl_H_33 d_H_bill_34 rfl rfl (fun hi => hi) ?_
      refine r_aload_n (i0 := 0) C d_H_bill_37 rfl rfl ?_
      refine r_getO C fl_H_12 d_H_bill_38 rfl rfl (fun hi => hi) ?_
      refine r_callVw C cl_H_178 im_P_lay rfl rfl (c_P_lay hx (by rw [lC_fr h (by omega)]; exact hc)) rfl rfl d_H_bill_41 (by decide) (by decide) (Nat.le_of_ble_eq_true rfl) (fun h41 p41 => ?_)
      have e41 : h41 = bG h := p41.trans (lay_e h)
      subst e41
      refine r_aload_n (i0 := 0) C d_H_bill_44 rfl rfl ?_
      refine r_getO C fl_H_26 d_H_bill_45 rfl rfl (fun hi => hi) ?_
      refine r_aload_n (i0 := 0) C d_H_bill_48 rfl rfl ?_
      refine r_getO C fl_H_12 d_H_bill_49 rfl rfl (fun hi => hi) ?_
      refine r_callVp C cl_H_181 im_M_areFitFor rfl rfl (c_M_areFitFor hx (by rw [bG_fr h (show (2 : Nat) < 10 ∨ 17 < 2 by omega)]; exact hc) (by rw [bG_fr h (show (4 : Nat) < 10 ∨ 17 < 4 by omega)]; exact fun f hf => (hF f hf).1)) rfl rfl d_H_bill_52 (by decide) (Nat.le_of_ble_eq_true rfl) ?_
      rw [bG_fit]
      refine r_istore_n (i0 := 1) C d_H_bill_55 rfl (by decide) ?_
      refine r_iload_n (i0 := 1) C d_H_bill_56 rfl rfl ?_
      refine r_if_eq (tgt := 87) C d_H_bill_57 (by decide) (fun q57 => ?_) (fun q57 => ?_)
      · exact AW.dirty (j87 hcn hb (by first | (intro z; omega) | (intro _; right; exact Bool.eq_false_iff.mpr (ite_no (by omega))) | (intro _; left; exact ite_yes (by omega))))
      · refine r_aload_n (i0 := 0) C d_H_bill_60 rfl rfl ?_
        refine r_getO C fl_H_33 d_H_bill_61 rfl rfl (fun hi => hi) ?_
        refine r_aload_n (i0 := 0) C d_H_bill_64 rfl rfl ?_
        refine r_getO C fl_H_12 d_H_bill_65 rfl rfl (fun hi => hi) ?_
        refine r_aload_n (i0 := 0) C d_H_bill_68 rfl rfl ?_
        refine r_getO C fl_H_26 d_H_bill_69 rfl rfl (fun hi => hi) ?_
        refine r_callVp C cl_H_185 im_P_cutStretches rfl rfl (c_P_cutStretches hx (by rw [bG_fr h (show (2 : Nat) < 10 ∨ 17 < 2 by omega)]; exact hc) (bG_sp I)) rfl rfl d_H_bill_72 (by decide) (Nat.le_of_ble_eq_true rfl) ?_
        rw [bG_13, Int.toNat_natCast, bG_ct I]
        refine r_if_eq (tgt := 87) C d_H_bill_75 (by decide) (fun q75 => ?_) (fun q75 => ?_)
        · exact AW.dirty (j87 hcn hb (by first | (intro z; omega) | (intro _; right; exact Bool.eq_false_iff.mpr (ite_no (by omega))) | (intro _; left; exact ite_yes (by omega))))
        · refine r_aload_n (i0 := 0) C d_H_bill_78 rfl rfl ?_
          refine r_callVp C cl_H_189 im_H_hasDegreesOfYear rfl rfl (c_H_hasDegreesOfYear hx (by rw [bG_fr h (show (29 : Nat) < 10 ∨ 17 < 29 by omega)]; exact hd)) rfl rfl d_H_bill_79 (by decide) (Nat.le_of_ble_eq_true rfl) ?_
          rw [bG_fr h (show (29 : Nat) < 10 ∨ 17 < 29 by omega)]
          refine r_if_ne (tgt := 87) C d_H_bill_82 (by decide) (fun q82 => ?_) (fun q82 => ?_)
          · exact AW.dirty (j87 hcn hb (by first | (intro z; omega) | (intro _; right; exact Bool.eq_false_iff.mpr (ite_no (by omega))) | (intro _; left; exact ite_yes (by omega))))
          · refine r_iconst C d_H_bill_85 (by decide) ?_
            exact r_iret C d_H_bill_86 (fun _ => by have hft : fitC h = 1 := (by have := fit01; omega); have hnd : ndB (nC h) (cHs h) (bC h) = true := ite_yes (by omega); have hdg : degF (h 29 0) 0 12 ≠ 100 := ite_no (by omega); exact (by have e : billR h = -1 := billR_1 hcn hb ⟨hft, hnd, hdg⟩; exact ⟨vi_e e.symm, by show (if _ then _ else _); rw [if_pos e]; exact fun t ht => bG_fr h ht⟩)) (by decide) (fun q => nomatch q)
    · have hb0 : ¬ (h 7 0 3 ≠ -1 ∧ 0 < bbC h) := (by unfold bbC; exact ite_no (by omega))
      refine r_iconst C d_H_bill_20 (by decide) ?_
      exact r_iret C d_H_bill_21 (fun _ => by have e : billR h = -1 := billR_0 (by first | (left; omega) | (right; exact hb0)); exact ⟨vi_e e.symm, by show (if _ then _ else _); rw [if_pos e]; exact fun t _ => rfl⟩) (by decide) (fun q => nomatch q)

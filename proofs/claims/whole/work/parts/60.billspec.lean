/-! What a bill is: of the flats, their changes, and the parts. -/
def dT (Γ : Int → Int → Int) (n : Nat) : Int := sumF n (fun f => Γ f 12 - Γ f 0)
def outF (S : List SP) (Γ : Int → Int → Int) (n : Nat) (p : Int) (j : Nat) : Int := acF S.length (gvN S.length p (dT Γ n) (fun s => p * tlS Γ (qS S s))) (fun s => (qS S s).2.2.2) j
def gaA (ar : Nat → Int) : Int → Int → Int := fun f x => ar f.toNat * x
def gaM (kd fc un : Nat → Int) (sc : Int) (rd : Nat → Nat → Int) (dg : Nat → Int) : Int → Int → Int := fun f x => GA (bdF (kd f.toNat) (rd f.toNat)) (VF (kd f.toNat) (fc f.toNat) sc (un f.toNat) (rd f.toNat)) dg x.toNat
/-- the class's view -/
abbrev nC (h : AH) : Nat := (h 2 0 1).toNat
def kC (h : AH) : Nat → Int := kdV (nC h) (cAr h) (cFc h) (cKn h) (cRd h)
def uC (h : AH) : Nat → Int := unV (nC h) (cAr h) (cFc h) (cKn h) (cRd h)
def sC (h : AH) : Int := scV (nC h) (cAr h) (cKn h) (cRd h)
def SC (h : AH) : List SP := spA (cHs h) (cVl h) (fun f => h 4 f 3) (nC h)
def bC (h : AH) : Nat → Nat → Bool := fun f => bdF (kC h f) (h 5 f)
def fitC (h : AH) : Int := fitI (nC h) (kC h) (cAr h) (sumF (nC h) (uC h))
/-- what holds of the class's heap between two calls -/
def IC (h : AH) : Prop := (0 ≤ h 2 0 1 ∧ h 2 0 1 ≤ 6) ∧ FIc h ∧ (∀ f : Nat, f < nC h → 1 ≤ h 4 f 0) ∧ (∀ f : Nat, f < 6 → 0 ≤ h 4 f 1 ∧ h 4 f 1 ≤ 50) ∧ (0 ≤ h 23 0 4 ∧ h 23 0 4 ≤ 20) ∧ (∀ f : Nat, f < 6 → -1 ≤ h 4 f 3 ∧ h 4 f 3 < h 23 0 4) ∧ (∀ f t : Nat, f < 6 → t < 12 → h 6 f t = -2 ∨ (-1 ≤ h 6 f t ∧ h 6 f t < h 23 0 4)) ∧ 0 ≤ h 7 0 2 ∧ FUv (h 7 0 2).toNat (h 8 0) (h 9 0) ∧ (-1 ≤ h 7 0 3 ∧ h 7 0 3 ≤ 12000) ∧ (0 ≤ h 1 0 8 ∧ h 1 0 8 ≤ 20000) ∧ (-1 ≤ h 1 0 9 ∧ h 1 0 9 ≤ 10000000) ∧ (0 ≤ h 1 0 10 ∧ h 1 0 10 ≤ 100) ∧ (0 ≤ h 1 0 11 ∧ h 1 0 11 ≤ 1000) ∧ (∀ k : Nat, k < 12 → 0 ≤ h 29 0 k ∧ h 29 0 k ≤ 100)
theorem kC_mok {h : AH} (hc : 0 ≤ h 2 0 1 ∧ h 2 0 1 ≤ 6) (hF : FIc h) {f : Nat} (hf : f < nC h) : MOK (kC h f) (h 4 f 2) (sC h) (uC h f) (h 5 f) := by
  have hn : nC h ≤ 6 := by unfold nC; omega
  have H : FIv (nC h) (cAr h) (cFc h) (cKn h) (cRd h) := FIv.sub hF hn
  obtain ⟨a1, a2, a3, a4⟩ := H f hf
  have s := scV_bd H hn
  have k0 : kC h f = 0 → rdI (h 5 f) = 1 := by
    unfold kC kdV kdS
    intro z
    by_cases q : rdI (cRd h f) = 1
    · exact q
    · rw [if_neg q] at z
      split at z
      · cases z
      · split at z <;> cases z
  have k1 : kC h f = 1 → 0 ≤ h 4 f 4 := by
    unfold kC kdV kdS
    intro z
    by_cases q : rdI (cRd h f) = 1
    · rw [if_pos q] at z; cases z
    · rw [if_neg q] at z
      split at z
      · rename_i y; have := y.1; show 0 ≤ cKn h f; omega
      · split at z <;> cases z
  have u := unS_bd (k := kC h f) (mu := mU (cFc h f) (cRd h f)) (kn := cKn h f) (ar := cAr h f) (pu := puV (nC h) (cFc h) (cKn h) (cRd h)) (ru := ruV (nC h) (cFc h) (cRd h)) (sc := sC h) (ls := lsV (nC h) (cKn h) (cRd h)) (lk := lkV (nC h) (cAr h) (cRd h)) (fun z => mU_bd (k0 z) a4 a2) k1 a1.1 (puV_bd H hn).1 (ruV_bd H hn).1 s.1 (by have := lsV_bd H hn; omega) (by have := lkV_bd H hn; omega)
  have u' : 0 ≤ uC h f ∧ uC h f ≤ 200 * sC h := u
  have s' : 1 ≤ sC h ∧ sC h ≤ 360000 := s
  refine ⟨fun z => ⟨k0 z, ?_⟩, ⟨u'.1, by omega⟩, a2.1, by omega⟩
  show unS (kC h f) _ _ _ _ _ _ _ _ = _
  unfold unS
  rw [if_pos z]
  rfl
theorem gaM_at (kd fc un : Nat → Int) (sc : Int) (rd : Nat → Nat → Int) (dg : Nat → Int) (f x : Nat) : gaM kd fc un sc rd dg (f : Int) (x : Int) = GA (bdF (kd f) (rd f)) (VF (kd f) (fc f) sc (un f) (rd f)) dg x := by
  unfold gaM; rw [Int.toNat_natCast, Int.toNat_natCast]
theorem gaM_0 (kd fc un : Nat → Int) (sc : Int) (rd : Nat → Nat → Int) (dg : Nat → Int) (f : Nat) : gaM kd fc un sc rd dg (f : Int) 0 = 0 := by
  have e := gaM_at kd fc un sc rd dg f 0
  exact e
theorem gaM_12 {kd fc un : Nat → Int} {sc : Int} {rd : Nat → Nat → Int} {dg : Nat → Int} (hd : ∀ k : Nat, k < 12 → 0 ≤ dg k ∧ dg k ≤ 100) {f : Nat} (M : MOK (kd f) (fc f) sc (un f) (rd f)) : gaM kd fc un sc rd dg (f : Int) 12 = un f * FF := by
  have e := gaM_at kd fc un sc rd dg f 12
  rw [show ((12 : Nat) : Int) = 12 from rfl] at e
  rw [e, GA_12 hd (bdF_12 _ _), V_tot M]
theorem dT_M {kd fc un : Nat → Int} {sc : Int} {rd : Nat → Nat → Int} {dg : Nat → Int} (hd : ∀ k : Nat, k < 12 → 0 ≤ dg k ∧ dg k ≤ 100) {n : Nat} (M : ∀ f, f < n → MOK (kd f) (fc f) sc (un f) (rd f)) : dT (gaM kd fc un sc rd dg) n = FF * sumF n un := by
  unfold dT
  rw [← sumF_mul]
  refine sumF_congr fun f hf => ?_
  rw [gaM_12 hd (M f hf), gaM_0, Int.sub_zero, Int.mul_comm]
theorem dT_A (ar : Nat → Int) (n : Nat) : dT (gaA ar) n = 12 * sumF n ar := by
  unfold dT
  rw [← sumF_mul]
  refine sumF_congr fun f hf => ?_
  unfold gaA
  rw [Int.toNat_natCast, Int.mul_zero, Int.sub_zero, Int.mul_comm]
theorem tl_A (ar : Nat → Int) (p : SP) : tlS (gaA ar) p = ar p.1.toNat * (p.2.2.1 - p.2.1) := by
  unfold tlS gaA; rw [Int.mul_sub]
/-- by area: the spans' weights are fit for split -/
theorem spv_area {hs : Nat → Nat → Bool} {vl : Nat → Nat → Int} {fh ar : Nat → Int} {n : Nat} {p : Int} (hn : 1 ≤ n ∧ n ≤ 6) (hp : 0 ≤ p ∧ p ≤ 260000) (har : ∀ f, f < n → 0 ≤ ar f ∧ ar f ≤ 50) (hpos : ∃ f, f < n ∧ 1 ≤ ar f) {wt : Nat → Int} (hw : ∀ s, s < (spA hs vl fh n).length → wt s = ar (qS (spA hs vl fh n) s).1.toNat * ((qS (spA hs vl fh n) s).2.2.1 - (qS (spA hs vl fh n) s).2.1)) :
    SPV (spA hs vl fh n).length p (dT (gaA ar) n) (fun s => p * tlS (gaA ar) (qS (spA hs vl fh n) s)) (sumF (spA hs vl fh n).length wt) wt (fun _ => 1) := by
  have hA : sumF (spA hs vl fh n).length wt = dT (gaA ar) n := by
    have e : sumF (spA hs vl fh n).length wt = sumF (spA hs vl fh n).length (fun s => tlS (gaA ar) (qS (spA hs vl fh n) s)) := sumF_congr fun s hs2 => by rw [hw s hs2, tl_A]
    rw [e, sumF_S, tl_spA]
    rfl
  have l := spA_len hs vl fh n
  have l1 := spA_pos (hs := hs) (vl := vl) (fh := fh) hn.1
  have b := sumF_bd (g := ar) (L := 0) (M := 50) (n := n) har
  obtain ⟨f0, hf0, hf1⟩ := hpos
  have b1 := sumF_one (g := ar) (fun j hj => (har j hj).1) hf0
  have d := dT_A ar n
  have wb : ∀ s, s < (spA hs vl fh n).length → 0 ≤ wt s ∧ wt s ≤ 600 := by
    intro s hs2
    obtain ⟨f, hf, e1, e2, _⟩ := mem_spA (qS_mem hs2)
    rw [hw s hs2, e1, Int.toNat_natCast]
    have := mulN (A := 50) (B := 12) (a := ar f) (b := (qS (spA hs vl fh n) s).2.2.1 - (qS (spA hs vl fh n) s).2.1) (har f hf) (by omega)
    omega
  refine ⟨⟨l1, by omega⟩, hp, by omega, by rw [hA]; omega, fun s hs2 => ⟨⟨(wb s hs2).1, by have := (wb s hs2).2; omega⟩, ⟨(show (1 : Int) ≤ 1 by omega), (show (1 : Int) ≤ 10000 by omega)⟩, ?_, ?_⟩⟩
  · show wt s ≤ _ * 1
    rw [Int.mul_one]
    exact sumF_one (fun j hj => (wb j hj).1) hs2
  · show p * wt s * _ = p * tlS (gaA ar) (qS (spA hs vl fh n) s) * (_ * 1)
    rw [hA, tl_A, ← hw s hs2, Int.mul_one]
/-- by meters -/
theorem spv_meter {hs : Nat → Nat → Bool} {vl : Nat → Nat → Int} {fh kd fc un dg : Nat → Int} {sc : Int} {rd : Nat → Nat → Int} {n : Nat} {p : Int} (hn : 1 ≤ n ∧ n ≤ 6) (hp : 0 ≤ p ∧ p ≤ 260000) (hd : ∀ k : Nat, k < 12 → 0 ≤ dg k ∧ dg k ≤ 100) (M : ∀ f, f < n → MOK (kd f) (fc f) sc (un f) (rd f)) (hu : 0 < sumF n un) (hnd : degF dg 0 12 = 100 ∨ ndB n hs (fun f => bdF (kd f) (rd f)) = false) {wt dv : Nat → Int} (hw : ∀ s, s < (spA hs vl fh n).length → ∀ f : Nat, (qS (spA hs vl fh n) s).1 = (f : Int) → wt s = (stF (kd f) (fc f) sc (un f) (rd f) dg (qS (spA hs vl fh n) s).2.1 (qS (spA hs vl fh n) s).2.2.1 12).2.1 ∧ dv s = (stF (kd f) (fc f) sc (un f) (rd f) dg (qS (spA hs vl fh n) s).2.1 (qS (spA hs vl fh n) s).2.2.1 12).2.2) :
    SPV (spA hs vl fh n).length p (dT (gaM kd fc un sc rd dg) n) (fun s => p * tlS (gaM kd fc un sc rd dg) (qS (spA hs vl fh n) s)) (sumF n un) wt dv := by
  have l := spA_len hs vl fh n
  have l1 := spA_pos (hs := hs) (vl := vl) (fh := fh) hn.1
  have d := dT_M hd M
  have f0 := FF_pos
  have ub := sumF_bd (g := un) (L := 0) (M := 72000000) (n := n) (fun f hf => (M f hf).2.1)
  refine ⟨⟨l1, by omega⟩, hp, by rw [d]; exact Int.mul_pos f0 hu, ⟨by omega, by omega⟩, fun s hs2 => ?_⟩
  obtain ⟨f, hf, e1, e2, e3, e4, _⟩ := mem_spA (qS_mem hs2)
  obtain ⟨w1, w2⟩ := hw s hs2 f e1
  have hcut := cut_ok (vl := vl) (fh := fh) hd hnd hf e3 e2 e4
  generalize hq : qS (spA hs vl fh n) s = q at *
  obtain ⟨fr, hfr⟩ : ∃ fr : Nat, q.2.1 = (fr : Int) := ⟨q.2.1.toNat, by omega⟩
  obtain ⟨to, hto⟩ : ∃ to : Nat, q.2.2.1 = (to : Int) := ⟨q.2.2.1.toNat, by omega⟩
  rw [hfr, hto] at w1 w2
  rw [hfr, hto, Int.toNat_natCast, Int.toNat_natCast] at hcut
  have z := st_bds (M f hf) hd (fr := fr) (to := to) (by omega) hcut (Nat.le_refl 12)
  have y := st_fin (fc := fc f) (sc := sc) (un := un f) hd (fr := fr) (to := to) (by omega) hcut
  rw [← w1, ← w2] at z y
  have u1 := sumF_one (g := un) (fun j hj => (M j hj).2.1.1) hf
  refine ⟨z.1.2.1, ⟨z.2.2.2, z.1.2.2.2⟩, Int.le_trans z.2.2.1 (Int.mul_le_mul_of_nonneg_right u1 (by omega)), ?_⟩
  rw [d]
  show p * wt s * (FF * sumF n un) = p * tlS _ (qS (spA hs vl fh n) s) * _
  rw [hq]
  unfold tlS
  rw [e1, hfr, hto, gaM_at, gaM_at]
  rw [show p * wt s * (FF * sumF n un) = p * (FF * wt s) * sumF n un by ac_rfl, y]
  ac_rfl

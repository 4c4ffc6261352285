/-! Functions that agree where they are looked at. -/
theorem lastR_cg {r r' : Nat → Int} : ∀ {n : Nat}, (∀ t, t ≤ n → r t = r' t) → lastR r n = lastR r' n := by
  intro n
  induction n with
  | zero => intro h; exact h 0 (Nat.le_refl 0)
  | succ n ih =>
    intro h
    show (if r (n + 1) = -1 then lastR r n else r (n + 1)) = (if r' (n + 1) = -1 then lastR r' n else r' (n + 1))
    rw [h (n + 1) (Nat.le_refl _), ih (fun t ht => h t (by omega))]
theorem goodR_cg {r r' : Nat → Int} : ∀ {n : Nat}, (∀ t, t ≤ n → r t = r' t) → goodR r n = goodR r' n := by
  intro n
  induction n with
  | zero => intro _; rfl
  | succ n ih =>
    intro h
    show (goodR r n && (decide (r (n + 1) = -1) || decide (lastR r n ≤ r (n + 1)))) = (goodR r' n && (decide (r' (n + 1) = -1) || decide (lastR r' n ≤ r' (n + 1))))
    rw [h (n + 1) (Nat.le_refl _), ih (fun t ht => h t (by omega)), lastR_cg (fun t ht => h t (by omega))]
theorem rdI_cg {r r' : Nat → Int} (h : ∀ t, t < 13 → r t = r' t) : rdI r = rdI r' := by
  unfold rdI gI
  rw [h 0 (by omega), h 12 (by omega), goodR_cg (fun t ht => h t (by omega))]
theorem mU_cg {fc : Int} {r r' : Nat → Int} (h : ∀ t, t < 13 → r t = r' t) : mU fc r = mU fc r' := by
  unfold mU
  rw [h 0 (by omega), h 12 (by omega)]
def VE (n : Nat) (ar fc kn : Nat → Int) (rd : Nat → Nat → Int) (ar' fc' kn' : Nat → Int) (rd' : Nat → Nat → Int) : Prop := ∀ f : Nat, f < n → ar f = ar' f ∧ fc f = fc' f ∧ kn f = kn' f ∧ ∀ t : Nat, t < 13 → rd f t = rd' f t
section VE
variable {n : Nat} {ar fc kn ar' fc' kn' : Nat → Int} {rd rd' : Nat → Nat → Int}
theorem ruV_cg (H : VE n ar fc kn rd ar' fc' kn' rd') : ruV n fc rd = ruV n fc' rd' := sumF_congr fun f hf => by
  obtain ⟨a, b, c, d⟩ := H f hf
  unfold ruG; rw [rdI_cg d, mU_cg d, b]
theorem raV_cg (H : VE n ar fc kn rd ar' fc' kn' rd') : raV n ar rd = raV n ar' rd' := sumF_congr fun f hf => by
  obtain ⟨a, b, c, d⟩ := H f hf
  unfold raG; rw [rdI_cg d, a]
theorem puV_cg (H : VE n ar fc kn rd ar' fc' kn' rd') : puV n fc kn rd = puV n fc' kn' rd' := sumF_congr fun f hf => by
  obtain ⟨a, b, c, d⟩ := H f hf
  unfold puG; rw [rdI_cg d, mU_cg d, b, c]
theorem plV_cg (H : VE n ar fc kn rd ar' fc' kn' rd') : plV n kn rd = plV n kn' rd' := sumF_congr fun f hf => by
  obtain ⟨a, b, c, d⟩ := H f hf
  unfold plG; rw [rdI_cg d, c]
theorem kdV_cg (H : VE n ar fc kn rd ar' fc' kn' rd') {f : Nat} (hf : f < n) : kdV n ar fc kn rd f = kdV n ar' fc' kn' rd' f := by
  obtain ⟨a, b, c, d⟩ := H f hf
  unfold kdV; rw [rdI_cg d, c, puV_cg H, plV_cg H, raV_cg H]
theorem lsV_cg (H : VE n ar fc kn rd ar' fc' kn' rd') : lsV n kn rd = lsV n kn' rd' := by unfold lsV; rw [plV_cg H]
theorem lkV_cg (H : VE n ar fc kn rd ar' fc' kn' rd') : lkV n ar rd = lkV n ar' rd' := by unfold lkV; rw [raV_cg H]
theorem scV_cg (H : VE n ar fc kn rd ar' fc' kn' rd') : scV n ar kn rd = scV n ar' kn' rd' := by unfold scV; rw [lsV_cg H, lkV_cg H]
theorem unV_cg (H : VE n ar fc kn rd ar' fc' kn' rd') {f : Nat} (hf : f < n) : unV n ar fc kn rd f = unV n ar' fc' kn' rd' f := by
  obtain ⟨a, b, c, d⟩ := H f hf
  unfold unV; rw [kdV_cg H hf, mU_cg d, a, b, c, puV_cg H, ruV_cg H, scV_cg H, lsV_cg H, lkV_cg H]
theorem anyF_cg {p p' : Nat → Bool} : ∀ {n : Nat}, (∀ k, k < n → p k = p' k) → anyF n p = anyF n p' := by
  intro n
  induction n with
  | zero => intro _; rfl
  | succ n ih => intro h; rw [anyF_succ, anyF_succ, ih (fun k hk => h k (by omega)), h n (by omega)]
theorem fitI_cg {kd kd' : Nat → Int} {au au' : Int} (hk : ∀ f, f < n → kd f = kd' f) (ha : ∀ f, f < n → ar f = ar' f) (hu : au = au') : fitI n kd ar au = fitI n kd' ar' au' := by
  unfold fitI
  have e1 : anyF n (fun f => decide (kd f = 3)) = anyF n (fun f => decide (kd' f = 3)) := anyF_cg fun f hf => by show decide (kd f = 3) = decide (kd' f = 3); rw [hk f hf]
  have e2 : sumF n (oaG kd ar) = sumF n (oaG kd' ar') := sumF_congr fun f hf => by unfold oaG; rw [hk f hf, ha f hf]
  rw [e1, e2, sumF_congr ha, hu]
theorem ndB_cg {hs hs' bd bd' : Nat → Nat → Bool} (h1 : ∀ f m, f < n → m < 12 → hs f m = hs' f m) (h2 : ∀ f m, f < n → m < 12 → bd f m = bd' f m) : ndB n hs bd = ndB n hs' bd' := by
  unfold ndB
  refine anyF_cg fun f hf => anyF_cg fun m hm => ?_
  show (decide (1 ≤ m) && hs f m && !bd f m) = (decide (1 ≤ m) && hs' f m && !bd' f m)
  rw [h1 f m hf hm, h2 f m hf hm]
end VE
theorem goS_cg {f : Int} {hs hs' : Nat → Bool} {vl vl' : Nat → Int} : ∀ {k t : Nat} {b who : Int}, (∀ x, t ≤ x → x < t + k → hs x = hs' x ∧ (hs x = true → vl x = vl' x)) → goS f hs vl k t b who = goS f hs' vl' k t b who := by
  intro k
  induction k with
  | zero => intro t b who _; rfl
  | succ k ih =>
    intro t b who h
    obtain ⟨e1, e2⟩ := h t (Nat.le_refl t) (by omega)
    show (if hs t then (f, b, (t : Int), who) :: goS f hs vl k (t + 1) t (vl t) else goS f hs vl k (t + 1) b who) = (if hs' t then (f, b, (t : Int), who) :: goS f hs' vl' k (t + 1) t (vl' t) else goS f hs' vl' k (t + 1) b who)
    rw [← e1]
    by_cases c : hs t = true
    · rw [if_pos c, if_pos c, e2 c, ih (fun x h1 h2 => h x (by omega) (by omega))]
    · rw [if_neg c, if_neg c, ih (fun x h1 h2 => h x (by omega) (by omega))]
theorem spF_cg {f : Int} {hs hs' : Nat → Bool} {vl vl' : Nat → Int} {fh fh' : Int} (h : ∀ x, x < 12 → hs x = hs' x ∧ (hs x = true → vl x = vl' x)) (e : fh = fh') : spF f hs vl fh = spF f hs' vl' fh' := by
  unfold spF
  obtain ⟨e1, e2⟩ := h 0 (by omega)
  have ew : (if hs 0 then vl 0 else fh) = (if hs' 0 then vl' 0 else fh') := by
    rw [← e1, e]
    by_cases c : hs 0 = true
    · rw [if_pos c, if_pos c, e2 c]
    · rw [if_neg c, if_neg c]
  rw [ew]
  exact goS_cg fun x h1 h2 => h x (by omega)
theorem spA_cg {hs hs' : Nat → Nat → Bool} {vl vl' : Nat → Nat → Int} {fh fh' : Nat → Int} : ∀ {n : Nat}, (∀ f x, f < n → x < 12 → hs f x = hs' f x ∧ (hs f x = true → vl f x = vl' f x)) → (∀ f, f < n → fh f = fh' f) → spA hs vl fh n = spA hs' vl' fh' n := by
  intro n
  induction n with
  | zero => intro _ _; rfl
  | succ n ih =>
    intro h1 h2
    show spA hs vl fh n ++ spF n (hs n) (vl n) (fh n) = spA hs' vl' fh' n ++ spF n (hs' n) (vl' n) (fh' n)
    rw [ih (fun f x hf hx => h1 f x (by omega) hx) (fun f hf => h2 f (by omega)), spF_cg (fun x hx => h1 n x (by omega) hx) (h2 n (by omega))]
theorem hoE_cg {hs hs' : Nat → Bool} {vl vl' : Nat → Int} {fh fh' : Int} (e : fh = fh') : ∀ {n : Nat}, (∀ x, x < n → hs x = hs' x ∧ (hs x = true → vl x = vl' x)) → hoE hs vl fh n = hoE hs' vl' fh' n := by
  intro n
  induction n with
  | zero => intro _; exact e
  | succ n ih =>
    intro h
    obtain ⟨e1, e2⟩ := h n (by omega)
    by_cases c : hs n = true
    · rw [hoE_yes c, hoE_yes (by rw [← e1]; exact c), e2 c]
    · have c' : hs n = false := Bool.eq_false_iff.mpr c
      rw [hoE_no c', hoE_no (by rw [← e1]; exact c'), ih (fun x hx => h x (by omega))]
theorem lsB_cg {bd bd' : Nat → Bool} : ∀ {t : Nat}, (∀ x, x ≤ t → bd x = bd' x) → lsB bd t = lsB bd' t := by
  intro t
  induction t with
  | zero => intro _; rfl
  | succ t ih =>
    intro h
    show (if bd (t + 1) = true then t + 1 else lsB bd t) = (if bd' (t + 1) = true then t + 1 else lsB bd' t)
    rw [h (t + 1) (Nat.le_refl _), ih (fun x hx => h x (by omega))]
theorem nxB_cg {bd bd' : Nat → Bool} : ∀ {k t : Nat}, (∀ x, x ≤ t + k → bd x = bd' x) → nxB bd k t = nxB bd' k t := by
  intro k
  induction k with
  | zero => intro t _; rfl
  | succ k ih =>
    intro t h
    show (if bd (t + 1) = true then t + 1 else nxB bd k (t + 1)) = (if bd' (t + 1) = true then t + 1 else nxB bd' k (t + 1))
    rw [h (t + 1) (by omega), ih (fun x hx => h x (by omega))]
theorem GA_cg {bd bd' : Nat → Bool} {V V' dg : Nat → Int} (h1 : ∀ x, x ≤ 12 → bd x = bd' x) (h2 : ∀ x, x ≤ 12 → V x = V' x) : ∀ {t : Nat}, t ≤ 12 → GA bd V dg t = GA bd' V' dg t := by
  intro t
  induction t with
  | zero => intro _; rfl
  | succ t ih =>
    intro ht
    have r := nxB_rng bd' (12 - t) t (by omega)
    have l := lsB_le bd' t
    show GA bd V dg t + (V (nxB bd (12 - t) t) - V (lsB bd t)) * (psF dg (lsB bd t) (nxB bd (12 - t) t) (t + 1) - psF dg (lsB bd t) (nxB bd (12 - t) t) t) = GA bd' V' dg t + (V' (nxB bd' (12 - t) t) - V' (lsB bd' t)) * (psF dg (lsB bd' t) (nxB bd' (12 - t) t) (t + 1) - psF dg (lsB bd' t) (nxB bd' (12 - t) t) t)
    rw [ih (by omega), nxB_cg (bd := bd) (bd' := bd') (fun x hx => h1 x (by omega)), lsB_cg (bd := bd) (bd' := bd') (fun x hx => h1 x (by omega)), h2 _ (show nxB bd' (12 - t) t ≤ 12 by omega), h2 _ (show lsB bd' t ≤ 12 by omega)]
theorem bdF_cg {k k' : Int} {r r' : Nat → Int} (hk : k = k') (h : ∀ t, t < 13 → r t = r' t) {t : Nat} (ht : t ≤ 12) : bdF k r t = bdF k' r' t := by
  unfold bdF esI
  rw [hk, Int.toNat_natCast, h t (by omega)]
theorem gaM_cg {kd kd' fc fc' un un' dg : Nat → Int} {sc sc' : Int} {rd rd' : Nat → Nat → Int} {f : Nat} (hk : kd f = kd' f) (hf : fc f = fc' f) (hu : un f = un' f) (hs : sc = sc') (hr : ∀ t, t < 13 → rd f t = rd' f t) {x : Int} (hx : x ≤ 12) : gaM kd fc un sc rd dg (f : Int) x = gaM kd' fc' un' sc' rd' dg (f : Int) x := by
  unfold gaM
  rw [Int.toNat_natCast]
  refine GA_cg (fun y hy => bdF_cg hk hr hy) (fun y hy => ?_) (by omega)
  unfold VF
  rw [hk, hf, hu, hs, hr y (by omega)]
theorem dT_cg {Γ Γ' : Int → Int → Int} {n : Nat} (h : ∀ f : Nat, f < n → ∀ x : Int, 0 ≤ x → x ≤ 12 → Γ f x = Γ' f x) : dT Γ n = dT Γ' n := sumF_congr fun f hf => by
  show Γ f 12 - Γ f 0 = Γ' f 12 - Γ' f 0
  rw [h f hf 12 (by omega) (by omega), h f hf 0 (by omega) (by omega)]
theorem tl_cg {Γ Γ' : Int → Int → Int} {n : Nat} {hs : Nat → Nat → Bool} {vl : Nat → Nat → Int} {fh : Nat → Int} {p : Int} (h : ∀ f : Nat, f < n → ∀ x : Int, 0 ≤ x → x ≤ 12 → Γ f x = Γ' f x) : (fun s => p * tlS Γ (qS (spA hs vl fh n) s)) = fun s => p * tlS Γ' (qS (spA hs vl fh n) s) := by
  funext s
  by_cases c : s < (spA hs vl fh n).length
  · obtain ⟨f, hf, e1, e2, _⟩ := mem_spA (qS_mem c)
    unfold tlS
    rw [e1, h f hf _ (by omega) (by omega), h f hf _ (by omega) (by omega)]
  · have e : qS (spA hs vl fh n) s = (0, 0, 0, 0) := by
      unfold qS
      rw [List.getD_eq_getElem?_getD, List.getElem?_eq_none (by omega)]
      rfl
    rw [e]
    show p * (Γ 0 0 - Γ 0 0) = p * (Γ' 0 0 - Γ' 0 0)
    rw [Int.sub_self, Int.sub_self]
theorem outF_cg {Γ Γ' : Int → Int → Int} {n : Nat} {hs : Nat → Nat → Bool} {vl : Nat → Nat → Int} {fh : Nat → Int} {p : Int} (h : ∀ f : Nat, f < n → ∀ x : Int, 0 ≤ x → x ≤ 12 → Γ f x = Γ' f x) (j : Nat) : outF (spA hs vl fh n) Γ n p j = outF (spA hs vl fh n) Γ' n p j := by
  unfold outF
  rw [dT_cg h, tl_cg h]
/-- the class's rows are the reference's -/
theorem out_rows {S : List SP} {Γ : Int → Int → Int} {n : Nat} {p : Int} (h : ∀ s, s < S.length → -1 ≤ (qS S s).2.2.2 ∧ (qS S s).2.2.2 < 20) : outF S Γ n p 0 = otR S Γ n p 20 ∧ ∀ j, j < 20 → outF S Γ n p (j + 1) = otR S Γ n p j := ac_rows h
theorem out_zero {S : List SP} {Γ : Int → Int → Int} {n : Nat} {p T : Int} (h : ∀ s, s < S.length → -1 ≤ (qS S s).2.2.2 ∧ (qS S s).2.2.2 < T) {j : Nat} (hj : T ≤ (j : Int)) : outF S Γ n p (j + 1) = 0 := by
  unfold outF acF
  have z := sumF_bd (g := fun s => if ((qS S s).2.2.2 + 1).toNat = j + 1 then gvN S.length p (dT Γ n) (fun s => p * tlS Γ (qS S s)) s else 0) (L := 0) (M := 0) (n := S.length) (fun s hs => by
    have y := h s hs
    show 0 ≤ (if ((qS S s).2.2.2 + 1).toNat = j + 1 then _ else (0 : Int)) ∧ (if ((qS S s).2.2.2 + 1).toNat = j + 1 then _ else (0 : Int)) ≤ 0
    rw [if_neg (by omega)]
    omega)
  have e1 : (0 : Int) * (S.length : Int) = 0 := Int.zero_mul _
  rw [e1] at z
  exact Int.le_antisymm z.2 z.1
theorem out_bd {S : List SP} {Γ : Int → Int → Int} {n : Nat} {p : Int} (hp : 0 ≤ p ∧ p ≤ 260000) (hl : 1 ≤ S.length ∧ S.length ≤ 72) (hD : 0 < dT Γ n) (hN : ∀ s : Nat, s < S.length → 0 ≤ p * tlS Γ (qS S s) ∧ p * tlS Γ (qS S s) ≤ p * dT Γ n) (j : Nat) : 0 ≤ outF S Γ n p j ∧ outF S Γ n p j ≤ 20000000 := by
  have g := gvC_bd S.length hl.1 (min (p - sumF S.length (fun s => (p * tlS Γ (qS S s)) / dT Γ n)).toNat S.length) (fun s => (p * tlS Γ (qS S s)) % dT Γ n) (fun s => (p * tlS Γ (qS S s)) / dT Γ n) 260000 (fun s hs => by
    have z := hN s hs
    refine ⟨Int.ediv_nonneg z.1 (by omega), ?_⟩
    have y := Int.ediv_le_ediv hD z.2
    rw [Int.mul_ediv_cancel _ (by omega)] at y
    show (p * tlS Γ (qS S s)) / dT Γ n ≤ 260000
    omega)
  have a := acF_bd (n := S.length) (G := gvN S.length p (dT Γ n) (fun s => p * tlS Γ (qS S s))) (ho := fun s => (qS S s).2.2.2) (M := 260072) (by omega) (fun s hs => by
    have z := g s hs
    have m : min (p - sumF S.length (fun s => (p * tlS Γ (qS S s)) / dT Γ n)).toNat S.length ≤ 72 := Nat.le_trans (Nat.min_le_right _ _) hl.2
    exact ⟨z.1, Int.le_trans z.2 (by omega)⟩) j
  unfold outF
  omega
theorem krow_ge {v q u : Nat → Int} : ∀ {n j : Nat}, kct v n ≤ j → krow v q u n j = u j := by
  intro n
  induction n with
  | zero => intro j _; rfl
  | succ n ih =>
    intro j h
    unfold kct at h
    unfold krow
    by_cases c : 0 < v n
    · rw [if_pos c] at h
      rw [if_pos c]
      unfold upI
      rw [if_neg (by omega), ih (by omega)]
    · rw [if_neg c] at h
      rw [if_neg c]
      exact ih h

/-! The reference's spans. -/
def RSF (h : AH) (n : Nat) (wh up dn : Nat → Int) : AH := fun t i j =>
  if t = 40 ∧ i = 0 ∧ j = 32 then (n : Int)
  else if t = 57 ∧ i = 0 ∧ j < n then wh j
  else if t = 58 ∧ i = 0 ∧ j < n then up j
  else if t = 59 ∧ i = 0 ∧ j < n then dn j
  else if t = 61 ∧ i = 0 ∧ j < n then 0
  else h t i j
theorem RSF_fr (h : AH) (n : Nat) (wh up dn : Nat → Int) {t : Nat} (e : t ≠ 40 ∧ t ≠ 57 ∧ t ≠ 58 ∧ t ≠ 59 ∧ t ≠ 61) : RSF h n wh up dn t = h t := by
  funext i j; unfold RSF
  rw [if_neg (by omega), if_neg (by omega), if_neg (by omega), if_neg (by omega), if_neg (by omega)]
theorem RSF_40 (h : AH) (n : Nat) (wh up dn : Nat → Int) {j : Nat} (e : j ≠ 32) : RSF h n wh up dn 40 0 j = h 40 0 j := by
  unfold RSF
  rw [if_neg (by omega), if_neg (by omega), if_neg (by omega), if_neg (by omega), if_neg (by omega)]
theorem RSF_cnt (h : AH) (n : Nat) (wh up dn : Nat → Int) : RSF h n wh up dn 40 0 32 = (n : Int) := rfl
theorem RSF_nil (h : AH) (wh up dn : Nat → Int) : hset h 40 0 32 0 = RSF h 0 wh up dn := by
  funext t i j; unfold hset RSF
  by_cases e : t = 40 ∧ i = 0 ∧ j = 32
  · rw [if_pos e, if_pos e]; rfl
  · rw [if_neg e, if_neg e, if_neg (by omega), if_neg (by omega), if_neg (by omega), if_neg (by omega)]
theorem RSF_add (h : AH) (n : Nat) (wh up dn : Nat → Int) (a b c : Int) : hset (hset (hset (hset (hset (RSF h n wh up dn) 57 0 n a) 58 0 n b) 59 0 n c) 61 0 n 0) 40 0 32 ((n : Int) + 1) = RSF h (n + 1) (upI wh n a) (upI up n b) (upI dn n c) := by
  funext t i j; unfold hset RSF upI
  by_cases c0 : t = 40 ∧ i = 0 ∧ j = 32
  · rw [if_pos c0, if_pos c0]; rfl
  · rw [if_neg c0, if_neg c0]
    by_cases z : j = n
    · subst z
      by_cases i0 : i = 0
      · subst i0
        by_cases t61 : t = 61
        · subst t61; simp
        · by_cases t59 : t = 59
          · subst t59; simp
          · by_cases t58 : t = 58
            · subst t58; simp
            · by_cases t57 : t = 57
              · subst t57; simp
              · simp [t57, t58, t59, t61, c0]
                intro z1 z2; exact absurd ⟨z1, rfl, z2⟩ c0
      · simp [i0]
    · have e1 : (j < n + 1) = (j < n) := by apply propext; omega
      simp only [z, if_false, e1, and_false, c0]
theorem upI_at (f : Nat → Int) (n : Nat) (v : Int) : upI f n v n = v := by unfold upI; rw [if_pos rfl]
theorem upI_lo {f : Nat → Int} {n : Nat} {v : Int} {k : Nat} (h : k < n) : upI f n v k = f k := by unfold upI; rw [if_neg (by omega)]
/-- the spans of a flat from month b on -/
def spT (f : Int) (hs : Nat → Bool) (vl : Nat → Int) (ow : Int) (b : Nat) : List SP := if b < 12 then goS f hs vl (11 - b) (b + 1) b (hoE hs vl ow (b + 1)) else []
theorem nxB_rng (hs : Nat → Bool) : ∀ k t, 1 ≤ k → t < nxB hs k t ∧ nxB hs k t ≤ t + k ∧ (nxB hs k t < t + k → hs (nxB hs k t) = true) := by
  intro k
  induction k with
  | zero => intro t h; omega
  | succ k ih =>
    intro t _
    unfold nxB
    split
    · rename_i z; exact ⟨by omega, by omega, fun _ => z⟩
    · by_cases k0 : k = 0
      · subst k0; show t < t + 1 ∧ t + 1 ≤ t + (0 + 1) ∧ (t + 1 < t + (0 + 1) → _); exact ⟨by omega, by omega, fun z => by omega⟩
      · have y := ih (t + 1) (by omega)
        exact ⟨by omega, by omega, fun z => y.2.2 (by omega)⟩
theorem goS_head (f : Int) (hs : Nat → Bool) (vl : Nat → Int) : ∀ (k t : Nat) (b who : Int), t + k = 12 → 1 ≤ t → goS f hs vl k t b who = (f, b, ((nxB hs (k + 1) (t - 1) : Nat) : Int), who) :: (if nxB hs (k + 1) (t - 1) < 12 then goS f hs vl (11 - nxB hs (k + 1) (t - 1)) (nxB hs (k + 1) (t - 1) + 1) (nxB hs (k + 1) (t - 1) : Nat) (vl (nxB hs (k + 1) (t - 1))) else []) := by
  intro k
  induction k with
  | zero =>
    intro t b who h1 h2
    have e : t - 1 = 11 := by omega
    rw [e, nx_11, if_neg (by omega)]
    rfl
  | succ k ih =>
    intro t b who h1 h2
    by_cases c : hs t = true
    · have e : nxB hs (k + 1 + 1) (t - 1) = t := by
        rw [nxB_yes (by omega) (by rw [show t - 1 + 1 = t by omega]; exact c)]; omega
      rw [e, if_pos (by omega)]
      conv => lhs; unfold goS
      rw [if_pos c, show 11 - t = k by omega]
    · have c' : hs t = false := by simpa using c
      have e : nxB hs (k + 1 + 1) (t - 1) = nxB hs (k + 1) t := by
        rw [nxB_no (by omega) (by rw [show t - 1 + 1 = t by omega]; exact c'), show k + 1 + 1 - 1 = k + 1 by omega, show t - 1 + 1 = t by omega]
      rw [e]
      conv => lhs; unfold goS
      rw [if_neg c]
      have z := ih (t + 1) b who (by omega) (by omega)
      rw [show t + 1 - 1 = t by omega] at z
      exact z
theorem spT_step (f : Int) (hs : Nat → Bool) (vl : Nat → Int) (ow : Int) {b : Nat} (hb : b < 12) : spT f hs vl ow b = (f, (b : Int), ((nxB hs (12 - b) b : Nat) : Int), hoE hs vl ow (b + 1)) :: spT f hs vl ow (nxB hs (12 - b) b) := by
  have r := nxB_rng hs (12 - b) b (by omega)
  conv => lhs; unfold spT
  rw [if_pos hb, goS_head f hs vl (11 - b) (b + 1) b _ (by omega) (by omega), show 11 - b + 1 = 12 - b by omega, show b + 1 - 1 = b by omega]
  congr 1
  unfold spT
  by_cases c : nxB hs (12 - b) b < 12
  · rw [if_pos c, if_pos c, hoE_yes (r.2.2 (by omega))]
  · rw [if_neg c, if_neg c]
theorem spT_0 (f : Int) (hs : Nat → Bool) (vl : Nat → Int) (ow : Int) : spT f hs vl ow 0 = spF f hs vl ow := by
  unfold spT spF
  rw [if_pos (by omega)]
  rfl
/-- the rows hold the spans of the list S, and U holds of each and its two numbers -/
def RSp (S : List SP) (wh up dn : Nat → Int) (U : SP → Int → Int → Prop) : Prop := ∀ s : Nat, s < S.length → wh s = (qS S s).2.2.2 ∧ U (qS S s) (up s) (dn s)
theorem qS_app {S : List SP} {q : SP} (j : Nat) : qS (S ++ [q]) j = if j = S.length then q else qS S j := getD_app j
theorem RSp.add {S : List SP} {wh up dn : Nat → Int} {U : SP → Int → Int → Prop} (H : RSp S wh up dn U) {q : SP} {a b : Int} (h : U q a b) : RSp (S ++ [q]) (upI wh S.length q.2.2.2) (upI up S.length a) (upI dn S.length b) U := by
  intro s hs
  rw [List.length_append] at hs
  rw [qS_app]
  by_cases e : s = S.length
  · subst e; rw [if_pos rfl, upI_at, upI_at, upI_at]; exact ⟨rfl, h⟩
  · have l : s < S.length := by simp at hs; omega
    rw [if_neg e, upI_lo l, upI_lo l, upI_lo l]; exact H s l
set_option maxHeartbeats 1000000 in
theorem c_R_span {l : Launch} (hl : l.stackTraces = false) {w : XW} {h : AH} {n : Nat} {wh up dn : Nat → Int} {a b c : Int} (hn : n < 72) : AM l y_R_span (wsM y_R_span b_R_span 6 none []) false (rmV 0 0) w [vO 40 0, vI a, vL b, vL c] (RSF h n wh up dn) (RetP none (fun h' => h' = RSF h (n + 1) (upI wh n a) (upI up n b) (upI dn n c))) := by
  refine AM.of hl (by decide +kernel) (Nat.le_of_ble_eq_true rfl) fun x hx C _ => ?_
  refine r_aload_n (i0 := 0) C d_R_span_0 rfl rfl ?_
  refine r_getO C fl_R_69 d_R_span_1 rfl rfl (fun hi => hi) ?_
  refine r_aload_n (i0 := 0) C d_R_span_4 rfl rfl ?_
  refine r_getI C fl_R_177 d_R_span_5 rfl ?_
  simp only [hset_tag, RSF_cnt, ne_eq, not_false_eq_true, Nat.reduceEqDiff, Int.toNat_natCast]
  refine r_iload_n (i0 := 1) C d_R_span_8 rfl rfl ?_
  refine r_iastore (ln := 72) C d_R_span_9 rfl (fun _ => rfl) rfl (by omega) ?_
  refine r_aload_n (i0 := 0) C d_R_span_10 rfl rfl ?_
  refine r_getO C fl_R_72 d_R_span_11 rfl rfl (fun hi => hi) ?_
  refine r_aload_n (i0 := 0) C d_R_span_14 rfl rfl ?_
  refine r_getI C fl_R_177 d_R_span_15 rfl ?_
  simp only [hset_tag, RSF_cnt, ne_eq, not_false_eq_true, Nat.reduceEqDiff, Int.toNat_natCast]
  refine r_lload_n (i0 := 2) C d_R_span_18 rfl rfl ?_
  refine r_lastore (ln := 72) C d_R_span_19 rfl (fun _ => rfl) rfl (by omega) ?_
  refine r_aload_n (i0 := 0) C d_R_span_20 rfl rfl ?_
  refine r_getO C fl_R_75 d_R_span_21 rfl rfl (fun hi => hi) ?_
  refine r_aload_n (i0 := 0) C d_R_span_24 rfl rfl ?_
  refine r_getI C fl_R_177 d_R_span_25 rfl ?_
  simp only [hset_tag, RSF_cnt, ne_eq, not_false_eq_true, Nat.reduceEqDiff, Int.toNat_natCast]
  refine r_lload C d_R_span_28 rfl ?_
  refine r_lastore (ln := 72) C d_R_span_30 rfl (fun _ => rfl) rfl (by omega) ?_
  refine r_aload_n (i0 := 0) C d_R_span_31 rfl rfl ?_
  refine r_getO C fl_R_81 d_R_span_32 rfl rfl (fun hi => hi) ?_
  refine r_aload_n (i0 := 0) C d_R_span_35 rfl rfl ?_
  refine r_getI C fl_R_177 d_R_span_36 rfl ?_
  simp only [hset_tag, RSF_cnt, ne_eq, not_false_eq_true, Nat.reduceEqDiff, Int.toNat_natCast]
  refine r_iconst C d_R_span_39 (by decide) ?_
  refine r_zastore (ln := 72) C d_R_span_40 rfl (fun _ => rfl) (by omega) rfl (by omega) ?_
  refine r_aload_n (i0 := 0) C d_R_span_41 rfl rfl ?_
  refine r_dup C d_R_span_42 rfl ?_
  refine r_getI C fl_R_177 d_R_span_43 rfl ?_
  simp only [hset_tag, RSF_cnt, ne_eq, not_false_eq_true, Nat.reduceEqDiff, Int.toNat_natCast]
  refine r_iconst C d_R_span_46 (by decide) ?_
  refine r_iadd C d_R_span_47 (by omega) ?_
  refine r_putI C pl_R_177 d_R_span_48 rfl ?_
  exact r_vret C d_R_span_51 (⟨rfl, by simp only [Int.toNat_natCast]; exact RSF_add h n wh up dn a b c⟩) (by decide) (fun q => nomatch q)
theorem RSF_hs (h : AH) (n : Nat) (wh up dn : Nat → Int) (f : Nat) : rHs (RSF h n wh up dn) f = rHs h f := by
  funext t; unfold rHs; rw [RSF_fr _ _ _ _ _ (by decide)]
theorem RSF_vl (h : AH) (n : Nat) (wh up dn : Nat → Int) (f : Nat) : rVl (RSF h n wh up dn) f = rVl h f := by
  funext t; show RSF h n wh up dn 45 0 _ = _; rw [RSF_fr _ _ _ _ _ (by decide)]
theorem RSF_46 (h : AH) (n : Nat) (wh up dn : Nat → Int) : RSF h n wh up dn 46 = h 46 := RSF_fr _ _ _ _ _ (by decide)
set_option maxHeartbeats 1000000 in
theorem c_R_spansBy {l : Launch} (hl : l.stackTraces = false) {w : XW} {h : AH} {S0 : List SP} {wh0 up0 dn0 : Nat → Int} {U : SP → Int → Int → Prop} {f p a al : Int} (hS : S0.length ≤ 60) (hR0 : RSp S0 wh0 up0 dn0 U) (hf : 0 ≤ f ∧ f < 6) (hp : 0 ≤ p ∧ p ≤ 260000) (ha : 0 ≤ a ∧ a ≤ 50) (hal : 0 ≤ al ∧ al ≤ 300) (hU : ∀ b e who : Int, 0 ≤ b → U (f, b, e, who) (p * a * (e - b)) (12 * al)) : AM l y_R_spansBy (wsM y_R_spansBy b_R_spansBy 7 none []) false (rmV 2 0) w [vO 40 0, vI f, vL p, vI a, vI al] (RSF h S0.length wh0 up0 dn0) (RetP none (fun h' => ∃ wh up dn : Nat → Int, RSp (S0 ++ spF f (rHs h f.toNat) (rVl h f.toNat) (h 46 0 f.toNat)) wh up dn U ∧ h' = RSF h (S0 ++ spF f (rHs h f.toNat) (rVl h f.toNat) (h 46 0 f.toNat)).length wh up dn)) := by
  refine AM.of hl (by decide +kernel) (Nat.le_of_ble_eq_true rfl) fun x hx C _ => ?_
  have hTl : (S0 ++ spF f (rHs h f.toNat) (rVl h f.toNat) (h 46 0 f.toNat)).length ≤ 72 := by rw [List.length_append]; have := goS_len f (rHs h f.toNat) (rVl h f.toNat) 11 1 0 (if (rHs h f.toNat) 0 then (rVl h f.toNat) 0 else (h 46 0 f.toNat)); unfold spF; omega
  have loop : ∀ (m : Nat) (b : Int) (S : List SP) (wh up dn : Nat → Int), 0 ≤ b → b ≤ 12 → (12 - b).toNat = m → RSp S wh up dn U → S ++ spT f (rHs h f.toNat) (rVl h f.toNat) (h 46 0 f.toNat) b.toNat = (S0 ++ spF f (rHs h f.toNat) (rVl h f.toNat) (h 46 0 f.toNat)) → AW x w 7 false 0 0 (AQ x w false 0 0 (RetP none (fun h' => ∃ wh up dn : Nat → Int, RSp (S0 ++ spF f (rHs h f.toNat) (rVl h f.toNat) (h 46 0 f.toNat)) wh up dn U ∧ h' = RSF h (S0 ++ spF f (rHs h f.toNat) (rVl h f.toNat) (h 46 0 f.toNat)).length wh up dn))) 3 [(6, vI b), (0, vO 40 0), (1, vI f), (2, vL p), (4, vI a), (5, vI al)] [] (RSF h S.length wh up dn) := by
    intro m
    induction m using Nat.strongRecOn with
    | _ m ih =>
    intro b S wh up dn hb0 hb1 hm hR hT
    refine r_iload C d_R_spansBy_3 rfl ?_
    refine r_bipush C d_R_spansBy_5 (by decide) (by decide) ?_
    refine r_icmp_ge (tgt := 57) C d_R_spansBy_7 (by decide) (fun q7 => ?_) (fun q7 => ?_)
    · exact r_vret C d_R_spansBy_57 (⟨rfl, wh, up, dn, by have e : spT f (rHs h f.toNat) (rVl h f.toNat) (h 46 0 f.toNat) b.toNat = [] := (by unfold spT; rw [if_neg (by omega)]); rw [e, List.append_nil] at hT; rw [← hT]; exact ⟨hR, rfl⟩⟩) (by decide) (fun q => nomatch q)
    · have r := nxB_rng (rHs h f.toNat) (12 - b).toNat b.toNat (by omega)
      have hstep := spT_step f (rHs h f.toNat) (rVl h f.toNat) (h 46 0 f.toNat) (b := b.toNat) (by omega)
      rw [show 12 - b.toNat = (12 - b).toNat by omega] at hstep
      have hlen : S.length < 72 := (by have e := congrArg List.length hT; rw [hstep, List.length_append, List.length_cons] at e; omega)
      have m1 := mulN (A := 260000) (B := 50) (a := p) (b := a) hp ha
      have m2 := mulN (A := 13000000) (B := 12) (a := p * a) (b := ((nxB (rHs h f.toNat) (12 - b).toNat b.toNat : Nat) : Int) - b) (by omega) (by omega)
      refine r_aload_n (i0 := 0) C d_R_spansBy_10 rfl rfl ?_
      refine r_aload_n (i0 := 0) C d_R_spansBy_11 rfl rfl ?_
      refine r_iload_n (i0 := 1) C d_R_spansBy_12 rfl rfl ?_
      refine r_iload C d_R_spansBy_13 rfl ?_
      refine r_callVp C cl_R_180 im_R_holderAt rfl rfl (c_R_holderAt hx hf (by omega)) rfl rfl d_R_spansBy_15 (by decide) (Nat.le_of_ble_eq_true rfl) ?_
      simp only [RSF_hs, RSF_vl, RSF_46]
      refine r_lload_n (i0 := 2) C d_R_spansBy_18 rfl rfl ?_
      refine r_iload C d_R_spansBy_19 rfl ?_
      refine r_i2l C d_R_spansBy_21 ?_
      refine r_lmul C d_R_spansBy_22 (by omega) ?_
      refine r_aload_n (i0 := 0) C d_R_spansBy_23 rfl rfl ?_
      refine r_iload_n (i0 := 1) C d_R_spansBy_24 rfl rfl ?_
      refine r_iload C d_R_spansBy_25 rfl ?_
      refine r_callVp C cl_R_183 im_R_endOf rfl rfl (c_R_endOf hx hf (by omega)) rfl rfl d_R_spansBy_27 (by decide) (Nat.le_of_ble_eq_true rfl) ?_
      simp only [RSF_hs, RSF_vl, RSF_46]
      refine r_iload C d_R_spansBy_30 rfl ?_
      refine r_isub C d_R_spansBy_32 (by omega) ?_
      refine r_i2l C d_R_spansBy_33 ?_
      refine r_lmul C d_R_spansBy_34 (by omega) ?_
      refine r_ldc2 C d_R_spansBy_35 k_R_186 (by decide) ?_
      refine r_iload C d_R_spansBy_38 rfl ?_
      refine r_i2l C d_R_spansBy_40 ?_
      refine r_lmul C d_R_spansBy_41 (by omega) ?_
      refine r_callVw C cl_R_188 im_R_span rfl rfl (c_R_span hx hlen) rfl rfl d_R_spansBy_42 (by decide) (by decide) (Nat.le_of_ble_eq_true rfl) (fun h42 p42 => ?_)
      subst p42
      refine r_aload_n (i0 := 0) C d_R_spansBy_45 rfl rfl ?_
      refine r_iload_n (i0 := 1) C d_R_spansBy_46 rfl rfl ?_
      refine r_iload C d_R_spansBy_47 rfl ?_
      refine r_callVp C cl_R_183 im_R_endOf rfl rfl (c_R_endOf hx hf (by omega)) rfl rfl d_R_spansBy_49 (by decide) (Nat.le_of_ble_eq_true rfl) ?_
      simp only [RSF_hs, RSF_vl, RSF_46]
      refine r_istore C d_R_spansBy_52 (by decide) ?_
      refine r_goto (tgt := 3) C d_R_spansBy_54 (by decide) ?_
      have hadd := hR.add (q := (f, b, ((nxB (rHs h f.toNat) (12 - b).toNat b.toNat : Nat) : Int), hoE (rHs h f.toNat) (rVl h f.toNat) (h 46 0 f.toNat) (b + 1).toNat)) (hU b ((nxB (rHs h f.toNat) (12 - b).toNat b.toNat : Nat) : Int) (hoE (rHs h f.toNat) (rVl h f.toNat) (h 46 0 f.toNat) (b + 1).toNat) (by omega))
      have ee := ih (12 - ((nxB (rHs h f.toNat) (12 - b).toNat b.toNat : Nat) : Int)).toNat (by omega) ((nxB (rHs h f.toNat) (12 - b).toNat b.toNat : Nat) : Int) (S ++ [(f, b, ((nxB (rHs h f.toNat) (12 - b).toNat b.toNat : Nat) : Int), hoE (rHs h f.toNat) (rVl h f.toNat) (h 46 0 f.toNat) (b + 1).toNat)]) _ _ _ (by omega) (by omega) rfl hadd (by rw [Int.toNat_natCast, List.append_assoc, ← hT, hstep, show (b.toNat : Int) = b by omega, show b.toNat + 1 = (b + 1).toNat by omega]; rfl)
      exact AW.lvs [(6, _), (0, _), (1, _), (2, _), (4, _), (5, _)] ⟨rfl, rfl, rfl, rfl, rfl, rfl, trivial⟩ (AW.heq (by rw [List.length_append]; rfl) ee)
  refine r_iconst C d_R_spansBy_0 (by decide) ?_
  refine r_istore C d_R_spansBy_1 (by decide) ?_
  exact AW.lvs [(6, _), (0, _), (1, _), (2, _), (4, _), (5, _)] ⟨rfl, rfl, rfl, rfl, rfl, rfl, trivial⟩ (AW.dirty (loop _ 0 S0 wh0 up0 dn0 (by omega) (by omega) rfl hR0 (by rw [show (0 : Int).toNat = 0 from rfl, spT_0])))

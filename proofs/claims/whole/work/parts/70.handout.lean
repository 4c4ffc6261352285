/-! Contracts of the reference: handOut. -/
section BST
variable {n : Nat} {g : AH} {q : Nat → Int} {k best : Int}
theorem Bst.isdone (B : Bst n g q k best) (hd : g 61 0 k.toNat = 1) (hk : 0 ≤ k) : Bst n g q (k - 1) best := by
  rcases B with ⟨b1, b2⟩ | ⟨b1, b2, b3, b4⟩
  · refine Or.inl ⟨b1, fun j h1 h2 => ?_⟩
    by_cases e : (j : Int) = k
    · rw [show j = k.toNat by omega]; exact hd
    · exact b2 j (by omega) h2
  · refine Or.inr ⟨by omega, b2, b3, fun j h1 h2 h3 => ?_⟩
    by_cases e : (j : Int) = k
    · rw [show j = k.toNat by omega, hd] at h3; cases h3
    · exact b4 j (by omega) h2 h3
theorem Bst.fresh (B : Bst n g q k best) (hd : g 61 0 k.toNat = 0) (hk : 0 ≤ k ∧ k < n) (hb : best < 0) : Bst n g q (k - 1) k := by
  rcases B with ⟨b1, b2⟩ | ⟨b1, b2, b3, b4⟩
  · refine Or.inr ⟨by omega, hk.2, hd, fun j h1 h2 h3 => ?_⟩
    by_cases e : (j : Int) = k
    · rw [show j = k.toNat by omega]; exact ⟨Int.le_refl _, fun z => by omega⟩
    · have := b2 j (by omega) h2; omega
  · omega
theorem Bst.take (B : Bst n g q k best) (hd : g 61 0 k.toNat = 0) (hk : 0 ≤ k ∧ k < n) (hb : 0 ≤ best) (hq : q best.toNat ≤ q k.toNat) : Bst n g q (k - 1) k := by
  rcases B with ⟨b1, b2⟩ | ⟨b1, b2, b3, b4⟩
  · omega
  · refine Or.inr ⟨by omega, hk.2, hd, fun j h1 h2 h3 => ?_⟩
    by_cases e : (j : Int) = k
    · rw [show j = k.toNat by omega]; exact ⟨Int.le_refl _, fun z => by omega⟩
    · have := b4 j (by omega) h2 h3; exact ⟨by omega, fun z => by omega⟩
theorem Bst.keep (B : Bst n g q k best) (hb : 0 ≤ best) (hk : 0 ≤ k) (hq : q k.toNat < q best.toNat) : Bst n g q (k - 1) best := by
  rcases B with ⟨b1, b2⟩ | ⟨b1, b2, b3, b4⟩
  · omega
  · refine Or.inr ⟨by omega, b2, b3, fun j h1 h2 h3 => ?_⟩
    by_cases e : (j : Int) = k
    · rw [show j = k.toNat by omega]; exact ⟨by omega, fun z => hq⟩
    · exact b4 j (by omega) h2 h3
theorem Bst.rng (B : Bst n g q k best) (hb : 0 ≤ best) : k < best ∧ best < n := by
  rcases B with ⟨b1, b2⟩ | ⟨b1, b2, b3, b4⟩
  · omega
  · exact ⟨b1, b2⟩
end BST
theorem RRT.mono {h g : AH} {n : Nat} {D : Int} {q c r : Nat → Int} {M M' : Int} (H : RRT h g n D q c r M) (hM : M ≤ M') : RRT h g n D q c r M' := ⟨H.1, fun s hs => by have z := H.2 s hs; exact ⟨z.1, ⟨z.2.1.1, by omega⟩, z.2.2⟩⟩
def rowR (w : Int) : Int := if w < 0 then 20 else w
def acR (n : Nat) (G wh : Nat → Int) (row : Nat) : Int := sumF n (fun s => if (rowR (wh s)).toNat = row then G s else 0)
def AC2 (g : AH) (a n : Nat) (G wh : Nat → Int) : AH := fun t i j => if t = 52 ∧ i = 0 ∧ j % 3 = a ∧ j < 63 then acR n G wh (j / 3) else g t i j
theorem AC2_fr (g : AH) (a n : Nat) (G wh : Nat → Int) {t : Nat} (e : t ≠ 52) : AC2 g a n G wh t = g t := by funext i j; unfold AC2; rw [if_neg (by omega)]
theorem AC2_ix (g : AH) (n : Nat) (G wh : Nat → Int) {a R : Int} (ha : 0 ≤ a ∧ a < 3) (hR : 0 ≤ R ∧ R ≤ 20) : AC2 g a.toNat n G wh 52 0 (3 * R + a).toNat = acR n G wh R.toNat := by
  unfold AC2; rw [if_pos (by omega), show (3 * R + a).toNat / 3 = R.toNat by omega]
theorem AC2_zero (g : AH) {a : Nat} (G wh : Nat → Int) (h0 : ∀ j : Nat, j < 63 → j % 3 = a → g 52 0 j = 0) : g = AC2 g a 0 G wh := by
  funext t i j; unfold AC2
  split
  · rename_i z; obtain ⟨rfl, rfl, z1, z2⟩ := z; exact h0 j z2 z1
  · rfl
theorem AC2_step (g : AH) (n : Nat) (G wh : Nat → Int) {a R : Int} (ha : 0 ≤ a ∧ a < 3) (hR : 0 ≤ R ∧ R ≤ 20) (e : R = rowR (wh n)) : hset (AC2 g a.toNat n G wh) 52 0 (3 * R + a).toNat (acR n G wh R.toNat + G n) = AC2 g a.toNat (n + 1) G wh := by
  have ss : ∀ j, acR (n + 1) G wh j = acR n G wh j + (if R.toNat = j then G n else 0) := fun j => by rw [e]; exact sumF_succ _ _
  funext t i j; unfold hset AC2
  by_cases c : t = 52 ∧ i = 0 ∧ j = (3 * R + a).toNat
  · rw [if_pos c, if_pos (by omega), ss, if_pos (by omega), show j / 3 = R.toNat by omega]
  · rw [if_neg c]
    by_cases d : t = 52 ∧ i = 0 ∧ j % 3 = a.toNat ∧ j < 63
    · rw [if_pos d, if_pos d, ss, if_neg (by omega)]; omega
    · rw [if_neg d, if_neg d]
theorem acR_bd {n : Nat} {G wh : Nat → Int} {M : Int} (hM : 0 ≤ M) (h : ∀ s : Nat, s < n → 0 ≤ G s ∧ G s ≤ M) (j : Nat) : 0 * (n : Int) ≤ acR n G wh j ∧ acR n G wh j ≤ M * n := sumF_bd fun s hs => by
  have := h s hs
  split <;> omega
set_option maxHeartbeats 1000000 in
theorem c_R_handOut {l : Launch} (hl : l.stackTraces = false) {w : XW} {h : AH} {n : Nat} {p a D : Int} {N : Nat → Int} (hH : HOk h n p D N) (ha : 0 ≤ a ∧ a < 3) (hwh : ∀ s : Nat, s < n → -1 ≤ h 57 0 s ∧ h 57 0 s < 20) (h0 : ∀ j : Nat, j < 63 → j % 3 = a.toNat → h 52 0 j = 0) : AM l y_R_handOut (wsM y_R_handOut b_R_handOut 6 none []) false (rmV 1 0) w [vO 40 0, vI p, vI a] h (RetP none (fun h' => (∀ t : Nat, t ≠ 52 → t ≠ 58 → t ≠ 60 → t ≠ 61 → h' t = h t) ∧ ∀ j : Nat, j < 63 → h' 52 0 j = if j % 3 = a.toNat then acR n (gvN n p D N) (h 57 0) (j / 3) else h 52 0 j)) := by
  refine AM.of hl (by decide +kernel) (Nat.le_of_ble_eq_true rfl) fun x hx C _ => ?_
  obtain ⟨hcn, hp, hD, hS, hW⟩ := hH
  have hn2 := hcn.2
  have qb : ∀ s : Nat, s < n → 0 ≤ N s / D ∧ N s / D ≤ 260000 := fun s hs => by
    have y := hW s hs
    refine ⟨Int.ediv_nonneg y.2.2.2.1.1 (by omega), ?_⟩
    have z := Int.ediv_le_ediv hD y.2.2.2.1.2
    rw [Int.mul_ediv_cancel _ (by omega)] at z
    omega
  have hgb : ∀ s : Nat, s < n → 0 ≤ (gvN n p D N) s ∧ (gvN n p D N) s ≤ 260072 := fun s hs => by
    have z := gvC_bd n hn2.1 (min (p - sumF n (fun s => N s / D)).toNat n) (fun s => N s % D) (fun s => N s / D) 260000 qb s hs
    unfold gvN; omega
  have loop3 : ∀ g : AH, (∀ t : Nat, t ≠ 58 → t ≠ 60 → t ≠ 61 → g t = h t) → (∀ s : Nat, s < n → g 60 0 s = (gvN n p D N) s) → ∀ (m : Nat) (i : Int), 0 ≤ i → i ≤ n → ((n : Int) - i).toNat = m → AW x w 6 false 0 0 (AQ x w false 0 0 (RetP none (fun h' => (∀ t : Nat, t ≠ 52 → t ≠ 58 → t ≠ 60 → t ≠ 61 → h' t = h t) ∧ ∀ j : Nat, j < 63 → h' 52 0 j = if j % 3 = a.toNat then acR n (gvN n p D N) (h 57 0) (j / 3) else h 52 0 j))) 182 [(4, vI i), (0, vO 40 0), (1, vI p), (2, vI a)] [] (AC2 g a.toNat i.toNat (gvN n p D N) (h 57 0)) := by
    intro g hg hG
    intro m
    induction m using Nat.strongRecOn with
    | _ m ih =>
    intro i hi0 hi1 hm
    refine r_iload C d_R_handOut_182 rfl ?_
    refine r_aload_n (i0 := 0) C d_R_handOut_184 rfl rfl ?_
    refine r_getI C fl_R_177 d_R_handOut_185 rfl ?_
    rw [AC2_fr _ _ _ _ _ (by decide), hg 40 (by decide) (by decide) (by decide), hcn.1]
    refine r_icmp_ge (tgt := 251) C d_R_handOut_188 (by decide) (fun q188 => ?_) (fun q188 => ?_)
    · have e : i.toNat = n := (by omega)
      rw [e]
      exact r_vret C d_R_handOut_251 (⟨rfl, fun t h1 h2 h3 h4 => by rw [AC2_fr _ _ _ _ _ h1]; exact hg t h2 h3 h4, fun j hj => by show (if _ then _ else _) = _; by_cases z : j % 3 = a.toNat <;> simp [z, hj, hg 52]⟩) (by decide) (fun q => nomatch q)
    · have hw := hwh i.toNat (by omega)
      have gb := hgb i.toNat (by omega)
      have ab := fun j => acR_bd (n := i.toNat) (G := (gvN n p D N)) (wh := h 57 0) (M := 260072) (by omega) (fun s hs => hgb s (by omega)) j
      refine r_aload_n (i0 := 0) C d_R_handOut_191 rfl rfl ?_
      refine r_getO C fl_R_69 d_R_handOut_192 rfl rfl (fun hi => hi) ?_
      refine r_iload C d_R_handOut_195 rfl ?_
      refine r_iaload (ln := 72) C d_R_handOut_197 rfl (fun _ => rfl) rfl (by omega) ?_
      rw [AC2_fr _ _ _ _ _ (by decide), hg 57 (by decide) (by decide) (by decide)]
      refine r_if_ge (tgt := 206) C d_R_handOut_198 (by decide) (fun q198 => ?_) (fun q198 => ?_)
      · refine r_aload_n (i0 := 0) C d_R_handOut_206 rfl rfl ?_
        refine r_getO C fl_R_69 d_R_handOut_207 rfl rfl (fun hi => hi) ?_
        refine r_iload C d_R_handOut_210 rfl ?_
        refine r_iaload (ln := 72) C d_R_handOut_212 rfl (fun _ => rfl) rfl (by omega) ?_
        rw [AC2_fr _ _ _ _ _ (by decide), hg 57 (by decide) (by decide) (by decide)]
        refine r_istore C d_R_handOut_213 (by decide) ?_
        refine r_aload_n (i0 := 0) C d_R_handOut_215 rfl rfl ?_
        refine r_getO C fl_R_53 d_R_handOut_216 rfl rfl (fun hi => hi) ?_
        refine r_iconst C d_R_handOut_219 (by decide) ?_
        refine r_iload C d_R_handOut_220 rfl ?_
        refine r_imul C d_R_handOut_222 (by omega) ?_
        refine r_iload_n (i0 := 2) C d_R_handOut_223 rfl rfl ?_
        refine r_iadd C d_R_handOut_224 (by omega) ?_
        refine r_aload_n (i0 := 0) C d_R_handOut_225 rfl rfl ?_
        refine r_getO C fl_R_53 d_R_handOut_226 rfl rfl (fun hi => hi) ?_
        refine r_iconst C d_R_handOut_229 (by decide) ?_
        refine r_iload C d_R_handOut_230 rfl ?_
        refine r_imul C d_R_handOut_232 (by omega) ?_
        refine r_iload_n (i0 := 2) C d_R_handOut_233 rfl rfl ?_
        refine r_iadd C d_R_handOut_234 (by omega) ?_
        refine r_iaload (ln := 63) C d_R_handOut_235 rfl (fun _ => rfl) rfl (by omega) ?_
        rw [AC2_ix _ _ _ _ ha (by omega)]
        refine r_aload_n (i0 := 0) C d_R_handOut_236 rfl rfl ?_
        refine r_getO C fl_R_78 d_R_handOut_237 rfl rfl (fun hi => hi) ?_
        refine r_iload C d_R_handOut_240 rfl ?_
        refine r_iaload (ln := 72) C d_R_handOut_242 rfl (fun _ => rfl) rfl (by omega) ?_
        rw [AC2_fr _ _ _ _ _ (by decide), hG i.toNat (by omega)]
        refine r_iadd C d_R_handOut_243 (by first | (have z := ab (20 : Int).toNat; omega) | (have z := ab (h 57 0 i.toNat).toNat; omega)) ?_
        refine r_iastore (ln := 63) C d_R_handOut_244 rfl (fun _ => rfl) rfl (by omega) ?_
        refine r_iinc C d_R_handOut_245 rfl (by decide) (by omega) ?_
        refine r_goto (tgt := 182) C d_R_handOut_248 (by decide) ?_
        have e2 : (i + 1).toNat = i.toNat + 1 := by omega
        have ee := ih (m - 1) (by omega) (i + 1) (by omega) (by omega) (by omega)
        rw [e2] at ee
        exact AW.lvs [(4, _), (0, _), (1, _), (2, _)] ⟨rfl, rfl, rfl, rfl, trivial⟩ (AW.heq (AC2_step _ _ _ _ ha (by omega) (by unfold rowR; first | (rw [if_pos (by omega)]; done) | (rw [if_neg (by omega)]; done))) ee)
      · refine r_bipush C d_R_handOut_201 (by decide) (by decide) ?_
        refine r_goto (tgt := 213) C d_R_handOut_203 (by decide) ?_
        refine r_istore C d_R_handOut_213 (by decide) ?_
        refine r_aload_n (i0 := 0) C d_R_handOut_215 rfl rfl ?_
        refine r_getO C fl_R_53 d_R_handOut_216 rfl rfl (fun hi => hi) ?_
        refine r_iconst C d_R_handOut_219 (by decide) ?_
        refine r_iload C d_R_handOut_220 rfl ?_
        refine r_imul C d_R_handOut_222 (by omega) ?_
        refine r_iload_n (i0 := 2) C d_R_handOut_223 rfl rfl ?_
        refine r_iadd C d_R_handOut_224 (by omega) ?_
        refine r_aload_n (i0 := 0) C d_R_handOut_225 rfl rfl ?_
        refine r_getO C fl_R_53 d_R_handOut_226 rfl rfl (fun hi => hi) ?_
        refine r_iconst C d_R_handOut_229 (by decide) ?_
        refine r_iload C d_R_handOut_230 rfl ?_
        refine r_imul C d_R_handOut_232 (by omega) ?_
        refine r_iload_n (i0 := 2) C d_R_handOut_233 rfl rfl ?_
        refine r_iadd C d_R_handOut_234 (by omega) ?_
        refine r_iaload (ln := 63) C d_R_handOut_235 rfl (fun _ => rfl) rfl (by omega) ?_
        rw [AC2_ix _ _ _ _ ha (by omega)]
        refine r_aload_n (i0 := 0) C d_R_handOut_236 rfl rfl ?_
        refine r_getO C fl_R_78 d_R_handOut_237 rfl rfl (fun hi => hi) ?_
        refine r_iload C d_R_handOut_240 rfl ?_
        refine r_iaload (ln := 72) C d_R_handOut_242 rfl (fun _ => rfl) rfl (by omega) ?_
        rw [AC2_fr _ _ _ _ _ (by decide), hG i.toNat (by omega)]
        refine r_iadd C d_R_handOut_243 (by first | (have z := ab (20 : Int).toNat; omega) | (have z := ab (h 57 0 i.toNat).toNat; omega)) ?_
        refine r_iastore (ln := 63) C d_R_handOut_244 rfl (fun _ => rfl) rfl (by omega) ?_
        refine r_iinc C d_R_handOut_245 rfl (by decide) (by omega) ?_
        refine r_goto (tgt := 182) C d_R_handOut_248 (by decide) ?_
        have e2 : (i + 1).toNat = i.toNat + 1 := by omega
        have ee := ih (m - 1) (by omega) (i + 1) (by omega) (by omega) (by omega)
        rw [e2] at ee
        exact AW.lvs [(4, _), (0, _), (1, _), (2, _)] ⟨rfl, rfl, rfl, rfl, trivial⟩ (AW.heq (AC2_step _ _ _ _ ha (by omega) (by unfold rowR; first | (rw [if_pos (by omega)]; done) | (rw [if_neg (by omega)]; done))) ee)
  have loop2 : ∀ (m : Nat) (L : Int) (c r : Nat → Int) (g : AH), L.toNat = m → (-20000000 ≤ L ∧ L ≤ 72) → RRT h g n D (fun s => N s % D) c r (260072 - L) → L ≤ posN n r → (∀ s : Nat, s < n → gvC n L.toNat r c s = (gvN n p D N) s) → AW x w 6 false 0 0 (AQ x w false 0 0 (RetP none (fun h' => (∀ t : Nat, t ≠ 52 → t ≠ 58 → t ≠ 60 → t ≠ 61 → h' t = h t) ∧ ∀ j : Nat, j < 63 → h' 52 0 j = if j % 3 = a.toNat then acR n (gvN n p D N) (h 57 0) (j / 3) else h 52 0 j))) 75 [(3, vI L), (0, vO 40 0), (1, vI p), (2, vI a)] [] g := by
    intro m
    induction m using Nat.strongRecOn with
    | _ m ih =>
    intro L c r g hm hL hR hpo hG
    have inner : 0 < L → ∀ (m2 : Nat) (k best : Int), -1 ≤ k → k < n → (k + 1).toNat = m2 → Bst n g (fun s => N s % D) k best → -1 ≤ best → AW x w 6 false 0 0 (AQ x w false 0 0 (RetP none (fun h' => (∀ t : Nat, t ≠ 52 → t ≠ 58 → t ≠ 60 → t ≠ 61 → h' t = h t) ∧ ∀ j : Nat, j < 63 → h' 52 0 j = if j % 3 = a.toNat then acR n (gvN n p D N) (h 57 0) (j / 3) else h 52 0 j))) 90 [(5, vI k), (4, vI best), (3, vI L), (0, vO 40 0), (1, vI p), (2, vI a)] [] g := by
      intro hL0
      intro m2
      induction m2 using Nat.strongRecOn with
      | _ m2 ih2 =>
      intro k best hk0 hk1 hm2 B hb
      refine r_iload C d_R_handOut_90 rfl ?_
      refine r_if_lt (tgt := 154) C d_R_handOut_92 (by decide) (fun q92 => ?_) (fun q92 => ?_)
      · have k1 : k = -1 := (by omega)
        subst k1
        have bg := Bst_gm hR B (by omega)
        have zb := hR.2 best.toNat (by omega)
        refine r_aload_n (i0 := 0) C d_R_handOut_154 rfl rfl ?_
        refine r_getO C fl_R_78 d_R_handOut_155 rfl rfl (fun hi => hi) ?_
        refine r_iload C d_R_handOut_158 rfl ?_
        refine r_dup2 C d_R_handOut_160 rfl rfl ?_
        refine r_iaload (ln := 72) C d_R_handOut_161 rfl (fun _ => rfl) rfl (by omega) ?_
        refine r_iconst C d_R_handOut_162 (by decide) ?_
        refine r_iadd C d_R_handOut_163 (by omega) ?_
        refine r_iastore (ln := 72) C d_R_handOut_164 rfl (fun _ => rfl) rfl (by omega) ?_
        refine r_aload_n (i0 := 0) C d_R_handOut_165 rfl rfl ?_
        refine r_getO C fl_R_81 d_R_handOut_166 rfl rfl (fun hi => hi) ?_
        refine r_iload C d_R_handOut_169 rfl ?_
        refine r_iconst C d_R_handOut_171 (by decide) ?_
        refine r_zastore (ln := 72) C d_R_handOut_172 rfl (fun _ => rfl) (by omega) rfl (by omega) ?_
        refine r_iinc C d_R_handOut_173 rfl (by decide) (by omega) ?_
        refine r_goto (tgt := 75) C d_R_handOut_176 (by decide) ?_
        have e1 : r best.toNat = r (gm r (n - 1)) := by rw [bg.2.2.1]
        have pk := hR.pick best.toNat
        rw [zb.1]
        refine AW.lvs [(3, _), (0, _), (1, _), (2, _)] ⟨rfl, rfl, rfl, rfl, trivial⟩ (ih (m - 1) (by omega) (L - 1) _ _ _ (by omega) (by omega) (pk.mono (by omega)) (by rw [posN_pick (by omega) bg.2.2.2]; omega) (fun s hs => ?_))
        rw [← hG s hs, bg.2.2.1, show L.toNat = (L - 1).toNat + 1 by omega]
        rfl
      · have zk := hR.2 k.toNat (by omega)
        have yk := hW k.toNat (by omega)
        refine r_aload_n (i0 := 0) C d_R_handOut_95 rfl rfl ?_
        refine r_getO C fl_R_81 d_R_handOut_96 rfl rfl (fun hi => hi) ?_
        refine r_iload C d_R_handOut_99 rfl ?_
        refine r_zaload (ln := 72) C d_R_handOut_101 rfl (fun _ => rfl) rfl (by omega) ?_
        refine r_if_ne (tgt := 148) C d_R_handOut_102 (by decide) (fun q102 => ?_) (fun q102 => ?_)
        · refine r_iinc C d_R_handOut_148 rfl (by decide) (by omega) ?_
          refine r_goto (tgt := 90) C d_R_handOut_151 (by decide) ?_
          first
            | exact AW.lvs [(5, _), (4, _), (3, _), (0, _), (1, _), (2, _)] ⟨rfl, rfl, rfl, rfl, rfl, rfl, trivial⟩ (ih2 (m2 - 1) (by omega) (k - 1) best (by omega) (by omega) (by omega) (B.isdone (by omega) (by omega)) (by omega))
            | exact AW.lvs [(5, _), (4, _), (3, _), (0, _), (1, _), (2, _)] ⟨rfl, rfl, rfl, rfl, rfl, rfl, trivial⟩ (ih2 (m2 - 1) (by omega) (k - 1) k (by omega) (by omega) (by omega) (B.fresh (by omega) (by omega) (by omega)) (by omega))
            | exact AW.lvs [(5, _), (4, _), (3, _), (0, _), (1, _), (2, _)] ⟨rfl, rfl, rfl, rfl, rfl, rfl, trivial⟩ (ih2 (m2 - 1) (by omega) (k - 1) k (by omega) (by omega) (by omega) (B.take (by omega) (by omega) (by omega) (Int.not_lt.mp (fun z => ite_no (by omega) (cc.mpr z)))) (by omega))
            | exact AW.lvs [(5, _), (4, _), (3, _), (0, _), (1, _), (2, _)] ⟨rfl, rfl, rfl, rfl, rfl, rfl, trivial⟩ (ih2 (m2 - 1) (by omega) (k - 1) best (by omega) (by omega) (by omega) (B.keep (by omega) (by omega) (cc.mp (ite_yes (by omega)))) (by omega))
        · refine r_iload C d_R_handOut_105 rfl ?_
          refine r_if_lt (tgt := 144) C d_R_handOut_107 (by decide) (fun q107 => ?_) (fun q107 => ?_)
          · refine r_iload C d_R_handOut_144 rfl ?_
            refine r_istore C d_R_handOut_146 (by decide) ?_
            refine r_iinc C d_R_handOut_148 rfl (by decide) (by omega) ?_
            refine r_goto (tgt := 90) C d_R_handOut_151 (by decide) ?_
            first
              | exact AW.lvs [(5, _), (4, _), (3, _), (0, _), (1, _), (2, _)] ⟨rfl, rfl, rfl, rfl, rfl, rfl, trivial⟩ (ih2 (m2 - 1) (by omega) (k - 1) best (by omega) (by omega) (by omega) (B.isdone (by omega) (by omega)) (by omega))
              | exact AW.lvs [(5, _), (4, _), (3, _), (0, _), (1, _), (2, _)] ⟨rfl, rfl, rfl, rfl, rfl, rfl, trivial⟩ (ih2 (m2 - 1) (by omega) (k - 1) k (by omega) (by omega) (by omega) (B.fresh (by omega) (by omega) (by omega)) (by omega))
              | exact AW.lvs [(5, _), (4, _), (3, _), (0, _), (1, _), (2, _)] ⟨rfl, rfl, rfl, rfl, rfl, rfl, trivial⟩ (ih2 (m2 - 1) (by omega) (k - 1) k (by omega) (by omega) (by omega) (B.take (by omega) (by omega) (by omega) (Int.not_lt.mp (fun z => ite_no (by omega) (cc.mpr z)))) (by omega))
              | exact AW.lvs [(5, _), (4, _), (3, _), (0, _), (1, _), (2, _)] ⟨rfl, rfl, rfl, rfl, rfl, rfl, trivial⟩ (ih2 (m2 - 1) (by omega) (k - 1) best (by omega) (by omega) (by omega) (B.keep (by omega) (by omega) (cc.mp (ite_yes (by omega)))) (by omega))
          · have br := B.rng (by omega)
            have zb := hR.2 best.toNat (by omega)
            have yb := hW best.toNat (by omega)
            have cc := cut_cmp hD (show (0 : Int) < 1 by omega) (show 0 < h 59 0 best.toNat by omega) (show 0 < h 59 0 k.toNat by omega) zb.2.2.1 zk.2.2.1
            refine r_aload_n (i0 := 0) C d_R_handOut_110 rfl rfl ?_
            refine r_getO C fl_R_72 d_R_handOut_111 rfl rfl (fun hi => hi) ?_
            refine r_iload C d_R_handOut_114 rfl ?_
            refine r_laload (ln := 72) C d_R_handOut_116 rfl (fun _ => rfl) rfl (by omega) ?_
            refine r_aload_n (i0 := 0) C d_R_handOut_117 rfl rfl ?_
            refine r_getO C fl_R_75 d_R_handOut_118 rfl rfl (fun hi => hi) ?_
            refine r_iload C d_R_handOut_121 rfl ?_
            refine r_laload (ln := 72) C d_R_handOut_123 rfl (fun _ => rfl) rfl (by omega) ?_
            rw [hR.1 59 (by decide) (by decide) (by decide)]
            refine r_aload_n (i0 := 0) C d_R_handOut_124 rfl rfl ?_
            refine r_getO C fl_R_72 d_R_handOut_125 rfl rfl (fun hi => hi) ?_
            refine r_iload C d_R_handOut_128 rfl ?_
            refine r_laload (ln := 72) C d_R_handOut_130 rfl (fun _ => rfl) rfl (by omega) ?_
            refine r_aload_n (i0 := 0) C d_R_handOut_131 rfl rfl ?_
            refine r_getO C fl_R_75 d_R_handOut_132 rfl rfl (fun hi => hi) ?_
            refine r_iload C d_R_handOut_135 rfl ?_
            refine r_laload (ln := 72) C d_R_handOut_137 rfl (fun _ => rfl) rfl (by omega) ?_
            rw [hR.1 59 (by decide) (by decide) (by decide)]
            refine r_callSp C cl_R_203 st_R_isMore (c_R_isMore hx (by omega) (by omega) (by omega) (by omega)) rfl rfl d_R_handOut_138 (by decide) (Nat.le_of_ble_eq_true rfl) ?_
            refine r_if_ne (tgt := 148) C d_R_handOut_141 (by decide) (fun q141 => ?_) (fun q141 => ?_)
            · refine r_iinc C d_R_handOut_148 rfl (by decide) (by omega) ?_
              refine r_goto (tgt := 90) C d_R_handOut_151 (by decide) ?_
              first
                | exact AW.lvs [(5, _), (4, _), (3, _), (0, _), (1, _), (2, _)] ⟨rfl, rfl, rfl, rfl, rfl, rfl, trivial⟩ (ih2 (m2 - 1) (by omega) (k - 1) best (by omega) (by omega) (by omega) (B.isdone (by omega) (by omega)) (by omega))
                | exact AW.lvs [(5, _), (4, _), (3, _), (0, _), (1, _), (2, _)] ⟨rfl, rfl, rfl, rfl, rfl, rfl, trivial⟩ (ih2 (m2 - 1) (by omega) (k - 1) k (by omega) (by omega) (by omega) (B.fresh (by omega) (by omega) (by omega)) (by omega))
                | exact AW.lvs [(5, _), (4, _), (3, _), (0, _), (1, _), (2, _)] ⟨rfl, rfl, rfl, rfl, rfl, rfl, trivial⟩ (ih2 (m2 - 1) (by omega) (k - 1) k (by omega) (by omega) (by omega) (B.take (by omega) (by omega) (by omega) (Int.not_lt.mp (fun z => ite_no (by omega) (cc.mpr z)))) (by omega))
                | exact AW.lvs [(5, _), (4, _), (3, _), (0, _), (1, _), (2, _)] ⟨rfl, rfl, rfl, rfl, rfl, rfl, trivial⟩ (ih2 (m2 - 1) (by omega) (k - 1) best (by omega) (by omega) (by omega) (B.keep (by omega) (by omega) (cc.mp (ite_yes (by omega)))) (by omega))
            · refine r_iload C d_R_handOut_144 rfl ?_
              refine r_istore C d_R_handOut_146 (by decide) ?_
              refine r_iinc C d_R_handOut_148 rfl (by decide) (by omega) ?_
              refine r_goto (tgt := 90) C d_R_handOut_151 (by decide) ?_
              first
                | exact AW.lvs [(5, _), (4, _), (3, _), (0, _), (1, _), (2, _)] ⟨rfl, rfl, rfl, rfl, rfl, rfl, trivial⟩ (ih2 (m2 - 1) (by omega) (k - 1) best (by omega) (by omega) (by omega) (B.isdone (by omega) (by omega)) (by omega))
                | exact AW.lvs [(5, _), (4, _), (3, _), (0, _), (1, _), (2, _)] ⟨rfl, rfl, rfl, rfl, rfl, rfl, trivial⟩ (ih2 (m2 - 1) (by omega) (k - 1) k (by omega) (by omega) (by omega) (B.fresh (by omega) (by omega) (by omega)) (by omega))
                | exact AW.lvs [(5, _), (4, _), (3, _), (0, _), (1, _), (2, _)] ⟨rfl, rfl, rfl, rfl, rfl, rfl, trivial⟩ (ih2 (m2 - 1) (by omega) (k - 1) k (by omega) (by omega) (by omega) (B.take (by omega) (by omega) (by omega) (Int.not_lt.mp (fun z => ite_no (by omega) (cc.mpr z)))) (by omega))
                | exact AW.lvs [(5, _), (4, _), (3, _), (0, _), (1, _), (2, _)] ⟨rfl, rfl, rfl, rfl, rfl, rfl, trivial⟩ (ih2 (m2 - 1) (by omega) (k - 1) best (by omega) (by omega) (by omega) (B.keep (by omega) (by omega) (cc.mp (ite_yes (by omega)))) (by omega))
    refine r_iload_n (i0 := 3) C d_R_handOut_75 rfl rfl ?_
    refine r_if_le (tgt := 179) C d_R_handOut_76 (by decide) (fun q76 => ?_) (fun q76 => ?_)
    · refine r_iconst C d_R_handOut_179 (by decide) ?_
      refine r_istore C d_R_handOut_180 (by decide) ?_
      exact AW.lvs [(4, _), (0, _), (1, _), (2, _)] ⟨rfl, rfl, rfl, rfl, trivial⟩ (AW.heq (AC2_zero g (gvN n p D N) (h 57 0) (fun j hj h3 => by rw [hR.1 52 (by decide) (by decide) (by decide)]; exact h0 j hj h3)) (AW.dirty (loop3 g hR.1 (fun s hs => by rw [(hR.2 s hs).1, ← hG s hs, show L.toNat = 0 by omega]; rfl) _ 0 (by omega) (by omega) rfl)))
    · refine r_iconst C d_R_handOut_79 (by decide) ?_
      refine r_istore C d_R_handOut_80 (by decide) ?_
      refine r_aload_n (i0 := 0) C d_R_handOut_82 rfl rfl ?_
      refine r_getI C fl_R_177 d_R_handOut_83 rfl ?_
      rw [hR.1 40 (by decide) (by decide) (by decide), hcn.1]
      refine r_iconst C d_R_handOut_86 (by decide) ?_
      refine r_isub C d_R_handOut_87 (by omega) ?_
      refine r_istore C d_R_handOut_88 (by decide) ?_
      exact AW.lvs [(5, _), (4, _), (3, _), (0, _), (1, _), (2, _)] ⟨rfl, rfl, rfl, rfl, rfl, rfl, trivial⟩ (AW.dirty (inner (by omega) _ ((n : Int) - 1) (-1) (by omega) (by omega) rfl (Or.inl ⟨rfl, fun j h1 h2 => by omega⟩) (by omega)))
  have sbd : ∀ k : Nat, k ≤ n → 0 * (k : Int) ≤ sumF k (fun s => N s / D) ∧ sumF k (fun s => N s / D) ≤ 260000 * k := fun k hk => sumF_bd fun s hs => qb s (by omega)
  have loop : ∀ (m : Nat) (i A : Int), 0 ≤ i → i ≤ n → ((n : Int) - i).toNat = m → A = p - sumF i.toNat (fun s => N s / D) → AW x w 6 false 0 0 (AQ x w false 0 0 (RetP none (fun h' => (∀ t : Nat, t ≠ 52 → t ≠ 58 → t ≠ 60 → t ≠ 61 → h' t = h t) ∧ ∀ j : Nat, j < 63 → h' 52 0 j = if j % 3 = a.toNat then acR n (gvN n p D N) (h 57 0) (j / 3) else h 52 0 j))) 5 [(4, vI i), (3, vI A), (0, vO 40 0), (1, vI p), (2, vI a)] [] (RD2 h i.toNat (fun s => N s / D) (fun s => h 58 0 s % h 59 0 s)) := by
    intro m
    induction m using Nat.strongRecOn with
    | _ m ih =>
    intro i A hi0 hi1 hm hA
    refine r_iload C d_R_handOut_5 rfl ?_
    refine r_aload_n (i0 := 0) C d_R_handOut_7 rfl rfl ?_
    refine r_getI C fl_R_177 d_R_handOut_8 rfl ?_
    rw [RD2_fr _ _ _ _ (by decide), hcn.1]
    refine r_icmp_ge (tgt := 75) C d_R_handOut_11 (by decide) (fun q11 => ?_) (fun q11 => ?_)
    · have e : i.toNat = n := by omega
      have z := sbd n (Nat.le_refl _)
      rw [e] at hA
      rw [e]
      have ll := left_le hD hS
      have pn := posN_n (n := n) (fun s => N s % D)
      refine AW.lvs [(3, _), (0, _), (1, _), (2, _)] ⟨rfl, rfl, rfl, rfl, trivial⟩ (loop2 _ A (fun s => N s / D) (fun s => N s % D) _ rfl (by omega) ⟨fun t h1 h2 h3 => RD2_fr _ _ _ _ ⟨h2, h1⟩, fun s hs => ?_⟩ (by rw [hA]; exact ll) (fun s hs => ?_))
      · have y := hW s hs
        have re := rem_eq (show 0 < h 59 0 s by omega) hD y.2.2.1
        have q1 := qb s hs
        have m0 := Int.emod_nonneg (h 58 0 s) (show h 59 0 s ≠ 0 by omega)
        have m1 := Int.emod_lt_of_pos (h 58 0 s) (show 0 < h 59 0 s by omega)
        rw [RD2_c _ _ _ hs, RD2_k _ _ _ hs, RD2_fr _ _ _ _ (by decide)]
        exact ⟨rfl, (show 0 ≤ N s / D ∧ N s / D ≤ 260072 - A from ⟨q1.1, by omega⟩), by rw [re, Int.one_mul], ⟨m0, by omega⟩, Int.emod_nonneg _ (by omega), Or.inl ⟨y.2.2.2.2, rfl⟩⟩
      · show _ = gvC n (min (p - sumF n (fun s => N s / D)).toNat n) _ _ s
        rw [← hA, show min A.toNat n = A.toNat by omega]
    · have y := hW i.toNat (by omega)
      have qe := quo_eq (show 0 < h 59 0 i.toNat by omega) hD y.2.2.1
      have q1 := qb i.toNat (by omega)
      have m0 := Int.emod_nonneg (h 58 0 i.toNat) (show h 59 0 i.toNat ≠ 0 by omega)
      have m1 := Int.emod_lt_of_pos (h 58 0 i.toNat) (show 0 < h 59 0 i.toNat by omega)
      refine r_aload_n (i0 := 0) C d_R_handOut_14 rfl rfl ?_
      refine r_getO C fl_R_78 d_R_handOut_15 rfl rfl (fun hi => hi) ?_
      refine r_iload C d_R_handOut_18 rfl ?_
      refine r_aload_n (i0 := 0) C d_R_handOut_20 rfl rfl ?_
      refine r_getO C fl_R_72 d_R_handOut_21 rfl rfl (fun hi => hi) ?_
      refine r_iload C d_R_handOut_24 rfl ?_
      refine r_laload (ln := 72) C d_R_handOut_26 rfl (fun _ => rfl) rfl (by omega) ?_
      rw [RD2_58]
      refine r_aload_n (i0 := 0) C d_R_handOut_27 rfl rfl ?_
      refine r_getO C fl_R_75 d_R_handOut_28 rfl rfl (fun hi => hi) ?_
      refine r_iload C d_R_handOut_31 rfl ?_
      refine r_laload (ln := 72) C d_R_handOut_33 rfl (fun _ => rfl) rfl (by omega) ?_
      rw [RD2_fr _ _ _ _ (by decide)]
      refine r_ldiv C d_R_handOut_34 (by omega) (by rw [tdiv_nn (by omega), qe]; omega) ?_
      rw [tdiv_nn (by omega), qe]
      refine r_l2i C d_R_handOut_35 (by omega) ?_
      refine r_iastore (ln := 72) C d_R_handOut_36 rfl (fun _ => rfl) rfl (by omega) ?_
      refine r_aload_n (i0 := 0) C d_R_handOut_37 rfl rfl ?_
      refine r_getO C fl_R_72 d_R_handOut_38 rfl rfl (fun hi => hi) ?_
      refine r_iload C d_R_handOut_41 rfl ?_
      refine r_aload_n (i0 := 0) C d_R_handOut_43 rfl rfl ?_
      refine r_getO C fl_R_72 d_R_handOut_44 rfl rfl (fun hi => hi) ?_
      refine r_iload C d_R_handOut_47 rfl ?_
      refine r_laload (ln := 72) C d_R_handOut_49 rfl (fun _ => rfl) rfl (by omega) ?_
      rw [hset_tag _ _ (by decide), RD2_58]
      refine r_aload_n (i0 := 0) C d_R_handOut_50 rfl rfl ?_
      refine r_getO C fl_R_75 d_R_handOut_51 rfl rfl (fun hi => hi) ?_
      refine r_iload C d_R_handOut_54 rfl ?_
      refine r_laload (ln := 72) C d_R_handOut_56 rfl (fun _ => rfl) rfl (by omega) ?_
      rw [hset_tag _ _ (by decide), RD2_fr _ _ _ _ (by decide)]
      refine r_lrem C d_R_handOut_57 (by omega) (by rw [tdiv_nn (by omega), qe]; omega) (by rw [tmod_nn (by omega)]; omega) ?_
      rw [tmod_nn (by omega)]
      refine r_lastore (ln := 72) C d_R_handOut_58 rfl (fun _ => rfl) rfl (by omega) ?_
      refine r_iload_n (i0 := 3) C d_R_handOut_59 rfl rfl ?_
      refine r_aload_n (i0 := 0) C d_R_handOut_60 rfl rfl ?_
      refine r_getO C fl_R_78 d_R_handOut_61 rfl rfl (fun hi => hi) ?_
      refine r_iload C d_R_handOut_64 rfl ?_
      refine r_iaload (ln := 72) C d_R_handOut_66 rfl (fun _ => rfl) rfl (by omega) ?_
      rw [hset_tag _ _ (by decide), hset_same]
      refine r_isub C d_R_handOut_67 (by have z := sbd i.toNat (by omega); rw [hA]; omega) ?_
      refine r_istore_n (i0 := 3) C d_R_handOut_68 rfl (by decide) ?_
      refine r_iinc C d_R_handOut_69 rfl (by decide) (by omega) ?_
      refine r_goto (tgt := 5) C d_R_handOut_72 (by decide) ?_
      have e2 : (i + 1).toNat = i.toNat + 1 := by omega
      have ee := ih (m - 1) (by omega) (i + 1) (A - N i.toNat / D) (by omega) (by omega) (by omega) (by rw [sumF_int hi0, hA]; omega)
      rw [e2] at ee
      exact AW.lvs [(4, _), (3, _), (0, _), (1, _), (2, _)] ⟨rfl, rfl, rfl, rfl, rfl, trivial⟩ (AW.heq (RD2_step h i.toNat (fun s => N s / D) (fun s => h 58 0 s % h 59 0 s)) ee)
  refine r_iload_n (i0 := 1) C d_R_handOut_0 rfl rfl ?_
  refine r_istore_n (i0 := 3) C d_R_handOut_1 rfl (by decide) ?_
  refine r_iconst C d_R_handOut_2 (by decide) ?_
  refine r_istore C d_R_handOut_3 (by decide) ?_
  exact AW.lvs [(4, _), (3, _), (0, _), (1, _), (2, _)] ⟨rfl, rfl, rfl, rfl, rfl, trivial⟩ (AW.heq (RD2_zero h (fun s => N s / D) (fun s => h 58 0 s % h 59 0 s)) (AW.dirty (loop _ 0 p (by omega) (by omega) rfl (by show p = p - 0; omega))))

/-! Arrays of references, in constructors. -/
section PARR
variable {x : MX} {w : XW} {rm : Room} {own : String} {cc : ByteArray} {nL : Nat} {ret : Option FieldType} {hx : List (Nat × Nat × Nat × Nat)} {cells slots pc sz : Nat} {Q : State → Prop} {lv : List (Nat × AV)} {st : List AV} {E : EX} {h : AH}
theorem p_anew (C : Cx x w rm own cc nL ret hx) {index t i k ln : Nat} {Cn : String} (hk : kdT t = k + 1) (hty : (tysL w)[k]? = some (w.2.2 k, .object Cn)) (h1 : Cond.classLink own index Cn ∈ GW) (hN : va_AO Cn x.s) (hln : lnT t = ln) (hl32 : (ln : Int) ≤ 2147483647) (hft : ∀ j, ftT t j = 2) (hbt : ln * 4 ≤ 536870912)
    (hi : i < cntT t) (hw : w.1 t i = sz) (hE : E t i = false) (hcs : cells + 1 ≤ rm.cells ∧ slots + ln ≤ rm.slots) (hdg : decode cc pc = .ok (.anewarray index, 3)) (kk : PW x w nL (cells + 1) (slots + ln) Q (pc + 3) lv (vO t i :: st) (eadd E t i) h (sz + 1)) : PW x w nL cells slots Q pc lv (vI (ln : Int) :: st) E h sz := by
  intro hh hb hl hs H ls locs hR hz hv hS
  obtain ⟨p, l, e, R, s, m, args, below, meth, c⟩ := x
  have hRm : R = rm := C.ro
  subst hRm
  subst hw
  subst hln
  have h0 : okI ((lnT t : Nat) : Int) := ⟨by omega, hl32⟩
  have en : (Int32.ofInt (lnT t : Int)).toNatClampNeg = lnT t := by rw [i32_ix h0, Int.toNat_natCast]
  refine W.anew (n := Int32.ofInt (lnT t : Int)) C.ex C.by C.ow (C.ws _ h1) (va_AO.use hN) rfl hdg rfl (by rw [Int32.lt_iff_toInt_lt, i32_toInt h0]; show ¬ ((lnT t : Nat) : Int) < 0; omega) (by rw [en]; exact hbt) hcs.1 (by rw [en]; exact hcs.2) fun cA kA comp f1 f2 f3 f4 => ?_
  rw [en]
  have hcA : cA = w.2.2 k := by
    obtain ⟨_, _, _, _, _, z⟩ := (C.kw.1.2 k _ hty).2
    exact Option.some.inj (f1.symm.trans z)
  subst hcA
  generalize hH1 : H.push ({ cls := w.2.2 k, slots := Array.replicate (lnT t) .null, vm := .none } : Cell) = H1
  have z1 : H1.size = w.1 t i + 1 := by rw [← hH1, Array.size_push, hz]
  have e1 : H1[w.1 t i]? = some (arrV (w.2.2 k) (lnT t) (fun _ => .null)) := by rw [← hH1, ← hz, Array.getElem?_push_size, ← arrV_new]
  have o1 : ∀ q : Nat, q < H.size → H1[q]? = H[q]? := fun q hq => by rw [← hH1, Array.getElem?_push, if_neg (Nat.ne_of_lt hq)]
  have k1 := kk hh (hb.add t i) hl ⟨hi, hs.2⟩ H1 ls locs (hR.add (cellP_ofArr hk ?_) o1) z1 hv ⟨Nat.le_trans hS.1 (by omega), fun q a b => (o1 q (Nat.lt_of_lt_of_le a hS.1)).trans (hS.2.1 q a b), hS.2.2⟩
  · show W p l e R s m args below meth c H1 locs (cells + 1) (slots + lnT t) Q { F0 m pc ls (List.map (cV w) (vI (lnT t : Int) :: st)) with pc := pc + 3, stack := .ref H.size :: List.map (cV w) st }
    rw [hz]
    exact k1
  · rw [e1]
    refine congrArg (fun f => some (arrV (w.2.2 k) (lnT t) f)) (funext fun j => ?_)
    unfold fvP
    rw [hft j, hb t i j hE]
    show Value.null = (if (0 : Int) = 1 then _ else _)
    rw [if_neg (by decide)]
theorem p_aastore (C : Cx x w rm own cc nL ret hx) {t i t' i' k N : Nat} {a : Int} {Cn : String} {T : u_T} (hE : E t i = true) (hE' : E t' i' = true) (hk : kdT t = k + 1) (hty : (tysL w)[k]? = some (w.2.2 k, .object Cn)) (hk' : kdT t' = 0) (hc : uCl[clT t']? = some (Cn, T, N)) (hft : ∀ j, ftT t j = 2) (ha : 0 ≤ a ∧ a < (lnT t : Int)) (hr : rfT t i a.toNat = (t', i')) (hdg : decode cc pc = .ok (.aastore, 1)) (kk : PW x w nL cells slots Q (pc + 1) lv st E (hset h t i a.toNat 1) sz) : PW x w nL cells slots Q pc lv (vO t' i' :: vI a :: vO t i :: st) E h sz := by
  intro hh hb hl hs H ls locs hR hz hv hS
  obtain ⟨p, l, e, R, s, m, args, below, meth, c⟩ := x
  have hcA := cellP_arr hk (hR t i hs.2.2.1 hE)
  obtain ⟨cv, q1, q2, q3, q4⟩ := cellP_obj hk' (hR t' i' hs.1 hE')
  obtain ⟨hS1, hfc, kC, hkC, hkind⟩ := C.kw.1.1 (clT t') _ hc
  obtain ⟨kA, comp, r1, r2, r3, r4⟩ := (C.kw.1.2 k _ hty).2
  have ecomp : cv.cls = comp := by rw [q2]; exact Option.some.inj (hfc.symm.trans r3)
  obtain ⟨kc, hkc⟩ := Vm.classAt_of_findClass r3
  refine W.aast (v := w.1 t' i') (j := Int32.ofInt a) C.ex C.by hcA (fun q z => by cases z) (fun z => by cases z) r1 r2 rfl hkc (by
    rw [arrV_size]
    have z := i32_in hs.2.1 ha.1 ha.2
    exact ⟨fun q => z (Or.inl q), Nat.not_le.mp fun q => z (Or.inr q)⟩) q1 (fun q z => by rw [q3] at z; cases z) (kv := kc) (by rw [ecomp]; exact hkc) (by rw [ecomp]; exact asg_self _ _) rfl rfl hdg fun H1 e1 z oq => ?_
  rw [i32_ix hs.2.1] at e1 ⊢
  exact kk (hset_ok hh (fun q => by rw [hft] at q; cases q) (fun q => by rw [hft] at q; cases q)) (hb.set hE) hl hs.2.2.2 H1 ls _ (hR.setA C.ij hs.2.2.1 hk (v := .ref (w.1 t' i')) (by rw [fvP_2 (hft _) (hset_same _ _ _ _ _), hr]) e1 oq) (by rw [z, hz]) hv (hS.put z oq (Or.inl ⟨t, i, hs.2.2.1, rfl⟩))
end PARR
/-! The rows of what is owed: an array of arrays. -/
section PMNA
variable {x : MX} {w : XW} {rm : Room} {own : String} {cc : ByteArray} {nL : Nat} {ret : Option FieldType} {hx : List (Nat × Nat × Nat × Nat)} {cells slots pc sz : Nat} {Q : State → Prop} {lv : List (Nat × AV)} {st : List AV} {E : EX} {h : AH}
def h24 (h : AH) : AH := hset (hset (hset h 24 0 0 1) 24 0 1 1) 24 0 2 1
def e24 (E : EX) : EX := eadd (eadd (eadd (eadd E 24 0) 25 0) 25 1) 25 2
theorem p_mna (C : Cx x w rm own cc nL ret hx) {index : Nat} (h1 : Cond.classLink own index "[[I" ∈ GW) (hN : aoA x.s) (harr : Cond.arrayClass .int ∈ GW) (hw : w.1 24 0 = sz ∧ w.1 25 0 = sz + 1 ∧ w.1 25 1 = sz + 2 ∧ w.1 25 2 = sz + 3) (hE : E 24 0 = false ∧ E 25 0 = false ∧ E 25 1 = false ∧ E 25 2 = false) (hcs : cells + 4 ≤ rm.cells ∧ slots + 66 ≤ rm.slots) (hdg : decode cc pc = .ok (.multianewarray index 2, 4))
    (kk : PW x w nL (cells + 4) (slots + 66) Q (pc + 4) lv (vO 24 0 :: st) (e24 E) (h24 h) (sz + 4)) : PW x w nL cells slots Q pc lv (vI 21 :: vI 3 :: st) E h sz := by
  intro hh hb hl hs H ls locs hR hz hv hS
  obtain ⟨p, l, e, R, s, m, args, below, meth, c⟩ := x
  have hRm : R = rm := C.ro
  subst hRm
  refine q_mna C.ex C.ow (C.ws _ h1) (aoA.use hN) (C.ws _ harr) hS.1 rfl (by rw [C.by]; exact hdg) rfl hcs.1 hcs.2 fun cA comp F fA fC f1 f2 hrow hold => ?_
  have es : "[" ++ (FieldType.array .int).toString = "[[I" := by decide
  have eu : "[" ++ FieldType.int.toString = "[I" := by decide
  have eA : cA = w.2.2 4 := by
    have z := (C.kw.1.2 4 (w.2.2 4, .array .int) rfl).2
    rw [← es] at fA
    exact Option.some.inj (fA.symm.trans z)
  have eC : comp = w.2.2 0 := by
    have z := (C.kw.1.2 0 (w.2.2 0, .int) rfl).2
    rw [← eu] at fC
    exact Option.some.inj (fC.symm.trans z)
  subst eA
  subst eC
  rw [hz] at f1 f2 hrow
  have hrow : ∀ j : Nat, j < 3 → F[sz + 1 + j]? = some (arrV (w.2.2 0) 21 (fun _ => .int 0)) := fun j hj => by
    rw [hrow j hj, ← arrV_new]
    rfl
  have f2 : F[sz]? = some (arrV (w.2.2 4) 3 (fun j => if j < 3 then Value.ref (sz + 1 + j) else .null)) := f2
  obtain ⟨w0, w1, w2, w3⟩ := hw
  have z0 : ∀ t i j, E t i = false → h24 h t i j = if t = 24 ∧ i = 0 ∧ j < 3 then 1 else 0 := by
    intro t i j q
    unfold h24 hset
    rw [hb t i j q]
    by_cases c1 : t = 24 ∧ i = 0 ∧ j < 3
    · rw [if_pos c1]
      (repeat' split) <;> first | rfl | (exfalso; omega)
    · rw [if_neg c1]
      (repeat' split) <;> first | rfl | (exfalso; omega)
  have cell24 : cellP w (h24 h) 24 0 F := by
    refine cellP_ofArr (k := 4) rfl ?_
    rw [w0, f2]
    refine congrArg (fun f => some (arrV (w.2.2 4) 3 f)) (funext fun j => ?_)
    unfold fvP
    rw [z0 24 0 j hE.1]
    show (if j < 3 then Value.ref (sz + 1 + j) else .null) = (if (if 24 = 24 ∧ 0 = 0 ∧ j < 3 then (1 : Int) else 0) = 1 then .ref (w.1 25 j) else .null)
    by_cases q : j < 3
    · rw [if_pos q, if_pos (show (if 24 = 24 ∧ 0 = 0 ∧ j < 3 then (1 : Int) else 0) = 1 from if_pos ⟨rfl, rfl, q⟩)]
      rcases (show j = 0 ∨ j = 1 ∨ j = 2 by omega) with e | e | e
      · rw [e, w1]
      · rw [e, w2]
      · rw [e, w3]
    · rw [if_neg q, if_neg (show ¬ (if 24 = 24 ∧ 0 = 0 ∧ j < 3 then (1 : Int) else 0) = 1 by rw [if_neg (fun y => q y.2.2)]; decide)]
  have cell25 : ∀ j : Nat, j < 3 → E 25 j = false → w.1 25 j = sz + 1 + j → cellP w (h24 h) 25 j F := fun j hj hEj hwj => by
    refine cellP_ofArr (k := 0) rfl ?_
    rw [hwj, hrow j hj]
    refine congrArg (fun f => some (arrV (w.2.2 0) 21 f)) (funext fun q => ?_)
    unfold fvP
    rw [z0 25 j q hEj, if_neg (by omega)]
    rfl
  have old : ∀ t i, i < cntT t → E t i = true → cellP w (h24 h) t i F := fun t i hi hEt => by
    have c := hR t i hi hEt
    refine cellP_kept c (hold _ (cellP_lt c)) fun j => ?_
    have ne : ¬ (t = 24 ∧ i = 0) := fun q => by rw [q.1, q.2, hE.1] at hEt; cases hEt
    unfold fvP h24 hset
    rw [if_neg (fun q => ne ⟨q.1, q.2.1⟩), if_neg (fun q => ne ⟨q.1, q.2.1⟩), if_neg (fun q => ne ⟨q.1, q.2.1⟩)]
  have PR : PRp w (e24 E) (h24 h) F := by
    intro t i hi hEt
    unfold e24 eadd at hEt
    by_cases q3 : t = 25 ∧ i = 2
    · obtain ⟨rfl, rfl⟩ := q3; exact cell25 2 (by omega) hE.2.2.2 w3
    · rw [if_neg q3] at hEt
      by_cases q2 : t = 25 ∧ i = 1
      · obtain ⟨rfl, rfl⟩ := q2; exact cell25 1 (by omega) hE.2.2.1 w2
      · rw [if_neg q2] at hEt
        by_cases q1 : t = 25 ∧ i = 0
        · obtain ⟨rfl, rfl⟩ := q1; exact cell25 0 (by omega) hE.2.1 w1
        · rw [if_neg q1] at hEt
          by_cases q0 : t = 24 ∧ i = 0
          · obtain ⟨rfl, rfl⟩ := q0; exact cell24
          · rw [if_neg q0] at hEt; exact old t i hi hEt
  have ok2 : okH (h24 h) := hset_ok (hset_ok (hset_ok hh (fun q => by cases q) (fun q => by cases q)) (fun q => by cases q) (fun q => by cases q)) (fun q => by cases q) (fun q => by cases q)
  have zb2 : ZB (e24 E) (h24 h) := fun t i j q => by
    unfold e24 eadd at q
    by_cases q3 : t = 25 ∧ i = 2
    · rw [if_pos q3] at q; cases q
    · rw [if_neg q3] at q
      by_cases q2 : t = 25 ∧ i = 1
      · rw [if_pos q2] at q; cases q
      · rw [if_neg q2] at q
        by_cases q1 : t = 25 ∧ i = 0
        · rw [if_pos q1] at q; cases q
        · rw [if_neg q1] at q
          by_cases q0 : t = 24 ∧ i = 0
          · rw [if_pos q0] at q; cases q
          · rw [if_neg q0] at q
            rw [z0 t i j q, if_neg (fun y => q0 ⟨y.1, y.2.1⟩)]
  have fin := kk ok2 zb2 hl ⟨show 0 < 1 by decide, hs.2.2⟩ F ls locs PR f1 hv ⟨Nat.le_trans hS.1 (by rw [f1, hz]; omega), fun q a b => (hold q (Nat.lt_of_lt_of_le a hS.1)).trans (hS.2.1 q a b), hS.2.2⟩
  rw [hz, ← w0]
  exact fin
end PMNA

/-! Throwing a new exception with a text. -/
abbrev upN : List String := ["java/lang/RuntimeException", "java/lang/Exception"]
theorem HRep.old {w : XW} {h : AH} {H H' : Heap} (hR : HRep w h H) (hk : ∀ (a : Nat) (c : Cell), H[a]? = some c → H'[a]? = some c) : HRep w h H' := by
  intro t i hi
  have hc := hR t i hi
  have hq : ∃ c, H[w.1 t i]? = some c := by
    unfold cellR at hc
    split at hc
    · obtain ⟨cell, q, -⟩ := hc; exact ⟨cell, q⟩
    · exact ⟨_, hc⟩
  obtain ⟨c, hc1⟩ := hq
  exact cellR_kept hc (by rw [hk _ _ hc1, hc1]) fun _ => rfl
def TLk (own : String) (ix is ic k : Nat) (tx : String) : Prop := k < 4 ∧ Cond.classLink own ix (exN k) ∈ GW ∧ Cond.instantiable (exN k) 6 ∈ GW ∧ Cond.initialized (exN k) ∈ GW ∧ (own, is, tx) ∈ strL ∧
  (∀ a ∈ Bundle.ownAtoms own ic (exN k) upN, a ∈ GW ∨ (∃ Y ∈ upT, a = .declares (Bundle.initS Y)) ∨ a = .castable (exN k) (exN k) ∨ a = .laysStatic Bundle.tN "UNASSIGNED_STACK" Bundle.steD ∨ a = .laysStatic Bundle.tN "SUPPRESSED_SENTINEL" Bundle.listD ∨ a = .isRef (.static Bundle.tN "UNASSIGNED_STACK" Bundle.steD) ∨ a = .isRef (.static Bundle.tN "SUPPRESSED_SENTINEL" Bundle.listD)) ∧ Bundle.fit (exN k) = true
section THROW
variable {x : MX} {w : XW} {rm : Room} {own : String} {cc : ByteArray} {nL : Nat} {ret : Option FieldType} {pu : Bool} {mc ms pc : Nat} {lv : List (Nat × AV)} {st : List AV} {h : AH} {Qa : AO → AH → Prop}
theorem r_throw (C : Cx x w rm own cc nL ret []) {ix is ic k : Nat} {tx : String} (L : TLk own ix is ic k tx) (hd0 : decode cc pc = .ok (.new ix, 3)) (hd3 : decode cc (pc + 3) = .ok (.dup, 1)) (hd4 : decode cc (pc + 4) = .ok (.ldc is, 2)) (hd6 : decode cc (pc + 6) = .ok (.invokespecial ic, 3)) (hd9 : decode cc (pc + 9) = .ok (.athrow, 1))
    (hrm : 1 ≤ rm.cells ∧ 6 ≤ rm.slots ∧ 5 < rm.frames ∧ 90 ≤ rm.locals) (hc : 1 ≤ mc ∧ 6 ≤ ms) (hst : nargs st ≤ 4) (hq : Qa (.inr k) h) : AW x w nL true 0 0 (AQ x w pu mc ms Qa) pc lv st h := by
  intro hh hl hs H ls locs hR hv hS
  obtain ⟨rfl, rfl⟩ := hS
  obtain ⟨hk4, hcl, hin, hini, hstr, hat, hfit⟩ := L
  obtain ⟨p, l, e, R, s, m, args, below, meth, c⟩ := x
  have hRm : R = rm := C.ro
  subst hRm
  obtain ⟨q, hq0⟩ := C.kw.2.1 _ hstr
  intro T hT X
  obtain ⟨vm₁, cX, kX, hfX, hkX, -, -, X₁, st1⟩ := X.newCold C.ex C.ow (C.ws _ hcl) (C.ws _ hin) (C.ws _ hini) (g := F0 m pc ls (st.map (cV w))) rfl (by rw [C.by]; exact hd0) (by show 0 + 1 ≤ R.cells; omega) (by show 0 + 6 ≤ R.slots; omega)
  generalize hT1 : (T.setVm vm₁).pushCell { cls := cX, slots := kX.instanceTypes.map defaultValue, vm := .none } = T1 at X₁ st1
  have hcellA : T1.heap[T.heap.size]? = some (freshCell cX kX) := by rw [← hT1]; exact State.heap_pushCell_size _ _
  have fin : W p l e R s m args below meth c T1.heap [] 1 6 (AQ (p, l, e, R, s, m, args, below, meth, c) w pu mc ms Qa) (F0 m (pc + 6) ls (.ref q :: .ref T.heap.size :: .ref T.heap.size :: st.map (cV w))) := by
    intro T2 hT2 X2
    have hlocks : meth.locks = false := C.lk
    obtain ⟨U, hsteps, hrun, hend, hW, hsame, ce, hce, K⟩ := X2.ctorThrowS C.ex C.tr (cls := exN k) (names := upN) (ic := ic) C.ow hfit (by decide +kernel)
      (fun a ha => by
        rcases hat a ha with z | ⟨Y, hY, z⟩ | z | z | z | z | z
        · exact C.ws _ z
        · rw [z]; exact va_Nw.use rfl (C.kw.2.2.2.2.1.2 Y hY)
        · rw [z]; exact va_Nw.use rfl (C.kw.2.2.2.2.1.1 k hk4)
        · rw [z]; exact C.kw.2.2.1.lays _
        · rw [z]; exact C.kw.2.2.2.1.lays _
        · rw [z]; exact C.kw.2.2.1.isr _
        · rw [z]; exact C.kw.2.2.2.1.isr _) (fun z hz => by cases hz) hfX hkX (a := T.heap.size) (by rw [hT2]; exact hcellA) (by rw [hT]; exact Nat.le_refl _) (msg := .ref q) rfl
      (g := F0 m (pc + 6) ls (.ref q :: .ref T.heap.size :: .ref T.heap.size :: st.map (cV w))) rfl (by rw [C.ml]; exact hv.1) rfl rfl (rest := st.map (cV w)) rfl
      (by rw [C.by]; exact hd6) (by rw [C.by]; exact hd9) (by rw [C.tb]; intro z hz; cases hz) (by show 2 + 3 < R.frames; omega)
      (by
        have h5 : ((Value.ref T.heap.size :: st.map (cV w)).map fun v => v.category).sum = 1 + nargs st := by
          rw [← sum_cat w st]; rfl
        rw [h5]
        show 2 * 0 + (1 + nargs st) + (13 * (2 + 1) + 42) ≤ R.locals
        omega)
    have hold : ∀ (a : Nat) (c0 : Cell), s.heap[a]? = some c0 → U.heap[a]? = some c0 := fun a c0 h0 => hsame.old_cell h0
    refine ⟨U, hsteps, .threw T.heap.size, hrun, hend, ⟨.inr k, h, hq, hh, ⟨T.heap.size, rfl, ce, hce, by rw [K.vm]; rfl, by rw [hW.alike.findClass]; exact K.cls⟩, hR.old hold, hsame.2.1, fun a h1 _ => ?_⟩, hW, ⟨[], hsame.mono hc.1 hc.2, fun z hz => by cases hz⟩, fun _ v hv => by cases hv⟩
    obtain ⟨c0, h0⟩ : ∃ c0, s.heap[a]? = some c0 := ⟨_, Array.getElem?_eq_getElem h1⟩
    rw [hold a c0 h0, h0]
  have wk : W p l e R s m args below meth c T1.heap [] 1 6 (AQ (p, l, e, R, s, m, args, below, meth, c) w pu mc ms Qa) (F0 m (pc + 3) ls (.ref T.heap.size :: st.map (cV w))) := by
    refine lv_dup C.ex C.by hd3 rfl ?_
    refine va_ldcS C.ex C.by C.ow hq0 hd4 ?_
    exact fin
  obtain ⟨t, a1, b1⟩ := wk T1 rfl X₁
  exact ⟨t, st1 t a1, b1⟩
end THROW

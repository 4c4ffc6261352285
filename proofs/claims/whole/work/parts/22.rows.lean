abbrev MX : Type := Program × Launch × Env × Room × State × MethodId × Array Value × List Frame × Method × Code
abbrev MX.p (x : MX) : Program := x.1
abbrev MX.l (x : MX) : Launch := x.2.1
abbrev MX.e (x : MX) : Env := x.2.2.1
abbrev MX.R (x : MX) : Room := x.2.2.2.1
abbrev MX.s (x : MX) : State := x.2.2.2.2.1
abbrev MX.m (x : MX) : MethodId := x.2.2.2.2.2.1
abbrev MX.args (x : MX) : Array Value := x.2.2.2.2.2.2.1
abbrev MX.below (x : MX) : List Frame := x.2.2.2.2.2.2.2.1
abbrev MX.meth (x : MX) : Method := x.2.2.2.2.2.2.2.2.1
abbrev MX.c (x : MX) : Code := x.2.2.2.2.2.2.2.2.2
abbrev xW (x : MX) (H : Heap) (locs : List Loc) (cells slots : Nat) (Q : State → Prop) (g : JFrame) : Prop := W x.p x.l x.e x.R x.s x.m x.args x.below x.meth x.c H locs cells slots Q g
abbrev xStand (x : MX) (T : State) (locs : List Loc) (cells slots : Nat) : Prop := Stand x.p x.l x.e x.R x.s x.m x.args x.below x.meth x.c T locs cells slots
def subL (lv lv' : List (Nat × AV)) : Prop := match lv' with
  | [] => True
  | q :: r => lv.lookup q.1 = some q.2 ∧ subL lv r
theorem subL_mem {lv lv' : List (Nat × AV)} (h : subL lv lv') : ∀ q ∈ lv', q ∈ lv := by
  induction lv' with
  | nil => intro q hq; cases hq
  | cons a l ih =>
    intro q hq
    rcases List.mem_cons.mp hq with e | e
    · subst e; exact lk_mem h.1
    · exact ih h.2 q e
/-- what a walk of one invocation has at hand -/
def Cx (x : MX) (w : XW) (rm : Room) (own : String) (cc : ByteArray) (nL : Nat) (ret : Option FieldType) (hs : List (Nat × Nat × Nat × Nat)) : Prop :=
  x.p.tables.exec = Jvm.exec ∧ x.c.code = cc ∧ x.c.maxLocals = nL ∧ x.s.vm.findClass own = some x.m.cls ∧ x.meth.locks = false ∧ x.meth.sig.returnType = ret ∧ x.R = rm ∧ (∀ k ∈ GW, k.before x.args x.s = true) ∧ KW w x.s ∧ adInj w ∧ x.e.platform.stackTraces = false ∧ x.c.exceptionTable.toList = tableOf hs
section CX
variable {x : MX} {w : XW} {rm : Room} {own : String} {cc : ByteArray} {nL : Nat} {ret : Option FieldType} {hx : List (Nat × Nat × Nat × Nat)}
theorem Cx.ex (C : Cx x w rm own cc nL ret hx) : x.p.tables.exec = Jvm.exec := C.1
theorem Cx.by (C : Cx x w rm own cc nL ret hx) : x.c.code = cc := C.2.1
theorem Cx.ml (C : Cx x w rm own cc nL ret hx) : x.c.maxLocals = nL := C.2.2.1
theorem Cx.ow (C : Cx x w rm own cc nL ret hx) : x.s.vm.findClass own = some x.m.cls := C.2.2.2.1
theorem Cx.lk (C : Cx x w rm own cc nL ret hx) : x.meth.locks = false := C.2.2.2.2.1
theorem Cx.rt (C : Cx x w rm own cc nL ret hx) : x.meth.sig.returnType = ret := C.2.2.2.2.2.1
theorem Cx.ro (C : Cx x w rm own cc nL ret hx) : x.R = rm := C.2.2.2.2.2.2.1
theorem Cx.ws (C : Cx x w rm own cc nL ret hx) : ∀ k ∈ GW, k.before x.args x.s = true := C.2.2.2.2.2.2.2.1
theorem Cx.kw (C : Cx x w rm own cc nL ret hx) : KW w x.s := C.2.2.2.2.2.2.2.2.1
theorem Cx.ij (C : Cx x w rm own cc nL ret hx) : adInj w := C.2.2.2.2.2.2.2.2.2.1
theorem Cx.tr (C : Cx x w rm own cc nL ret hx) : x.e.platform.stackTraces = false := C.2.2.2.2.2.2.2.2.2.2.1
theorem Cx.tb (C : Cx x w rm own cc nL ret hx) : x.c.exceptionTable.toList = tableOf hx := C.2.2.2.2.2.2.2.2.2.2.2
end CX
def frS (cl : Bool) (x : MX) (w : XW) (H : Heap) (locs : List Loc) : Prop := if cl then (H = x.s.heap ∧ locs = []) else va_S (inU w x.s.heap.size) x.s.heap H locs
theorem frS.weak {cl : Bool} {x : MX} {w : XW} {H : Heap} {locs : List Loc} (h : frS cl x w H locs) : va_S (inU w x.s.heap.size) x.s.heap H locs := by
  cases cl with
  | false => exact h
  | true =>
    obtain ⟨h1, h2⟩ := h
    subst h1; subst h2
    exact va_S.rf
/-- the machine, at pc with these locals, this stack and this heap, comes to Q (cl: nothing has been written or made yet) -/
def AW (x : MX) (w : XW) (nL : Nat) (cl : Bool) (cells slots : Nat) (Q : State → Prop) (pc : Nat) (lv : List (Nat × AV)) (st : List AV) (h : AH) : Prop :=
  okH h → okL lv → okS st → ∀ (H : Heap) (ls : Array Slot) (locs : List Loc), HRep w h H → lv_has ls nL (lv.map (cP w)) → frS cl x w H locs → xW x H locs cells slots Q (F0 x.m pc ls (st.map (cV w)))
section ROWS
variable {x : MX} {w : XW} {rm : Room} {own : String} {cc : ByteArray} {nL : Nat} {ret : Option FieldType} {hx : List (Nat × Nat × Nat × Nat)} {cl : Bool} {cells slots pc : Nat} {Q : State → Prop} {lv : List (Nat × AV)} {st : List AV} {h : AH}
theorem AW.widen {k n : Nat} (h1 : cells ≤ k) (h2 : slots ≤ n) (kk : AW x w nL cl k n Q pc lv st h) : AW x w nL cl cells slots Q pc lv st h := fun hh hl hs H ls locs hR hv hS => W.widen h1 h2 (kk hh hl hs H ls locs hR hv hS)
/-- the locals that are still needed -/
theorem AW.lvs (lv' : List (Nat × AV)) (hs : subL lv lv') (kk : AW x w nL cl cells slots Q pc lv' st h) : AW x w nL cl cells slots Q pc lv st h := by
  intro hh hl hst H ls locs hR hv hS
  have hm := subL_mem hs
  refine kk hh (okL_of fun q hq => okL_mem hl q (hm q hq)) hst H ls locs hR ⟨hv.1, hv.2.1, fun q hq => ?_⟩ hS
  obtain ⟨q0, h0, rfl⟩ := List.mem_map.mp hq
  exact hv.2.2 _ (List.mem_map.mpr ⟨q0, hm q0 h0, rfl⟩)

theorem r_iconst (C : Cx x w rm own cc nL ret hx) {n : Int} (hdg : decode cc pc = .ok (.iconst n, 1)) (hn : okI n) (kk : AW x w nL cl cells slots Q (pc + 1) lv (vI n :: st) h) : AW x w nL cl cells slots Q pc lv (st) h := by
  intro hh hl hs H ls locs hR hv hS
  obtain ⟨p, l, e, R, s, m, args, below, meth, c⟩ := x
  exact lv_iconst C.ex C.by hdg rfl (kk hh hl ⟨hn, hs⟩ H ls locs hR hv hS)
theorem r_bipush (C : Cx x w rm own cc nL ret hx) {n : Int} (hdg : decode cc pc = .ok (.bipush n, 2)) (hn : okI n) (he : (Int8.ofInt n).toInt32 = Int32.ofInt n) (kk : AW x w nL cl cells slots Q (pc + 2) lv (vI n :: st) h) : AW x w nL cl cells slots Q pc lv (st) h := by
  intro hh hl hs H ls locs hR hv hS
  obtain ⟨p, l, e, R, s, m, args, below, meth, c⟩ := x
  exact lv_bipush C.ex C.by hdg he (kk hh hl ⟨hn, hs⟩ H ls locs hR hv hS)
theorem r_sipush (C : Cx x w rm own cc nL ret hx) {n : Int} (hdg : decode cc pc = .ok (.sipush n, 3)) (hn : okI n) (he : (Int16.ofInt n).toInt32 = Int32.ofInt n) (kk : AW x w nL cl cells slots Q (pc + 3) lv (vI n :: st) h) : AW x w nL cl cells slots Q pc lv (st) h := by
  intro hh hl hs H ls locs hR hv hS
  obtain ⟨p, l, e, R, s, m, args, below, meth, c⟩ := x
  exact lv_sipush C.ex C.by hdg he (kk hh hl ⟨hn, hs⟩ H ls locs hR hv hS)
theorem r_lconst (C : Cx x w rm own cc nL ret hx) {k : Fin 2} (n : Int) (hdg : decode cc pc = .ok (.lconst k, 1)) (hn : okJ n) (he : Int64.ofNat (k : Nat) = Int64.ofInt n) (kk : AW x w nL cl cells slots Q (pc + 1) lv (vL n :: st) h) : AW x w nL cl cells slots Q pc lv (st) h := by
  intro hh hl hs H ls locs hR hv hS
  obtain ⟨p, l, e, R, s, m, args, below, meth, c⟩ := x
  exact lv_lconst C.ex C.by hdg he (kk hh hl ⟨hn, hs⟩ H ls locs hR hv hS)
theorem r_ldc (C : Cx x w rm own cc nL ret hx) {index : Nat} {n : Int} (hdg : decode cc pc = .ok (.ldc index, 2)) (hw : Jvm.Cond.constant own index (Int32.ofInt n) ∈ GW) (hn : okI n) (kk : AW x w nL cl cells slots Q (pc + 2) lv (vI n :: st) h) : AW x w nL cl cells slots Q pc lv (st) h := by
  intro hh hl hs H ls locs hR hv hS
  obtain ⟨p, l, e, R, s, m, args, below, meth, c⟩ := x
  exact lv_ldc C.ex C.by C.ow (C.ws _ hw) hdg (kk hh hl ⟨hn, hs⟩ H ls locs hR hv hS)
theorem r_ldc2 (C : Cx x w rm own cc nL ret hx) {index : Nat} {n : Int} (hdg : decode cc pc = .ok (.ldc2_w index, 3)) (hw : Jvm.Cond.constantLong own index (Int64.ofInt n) ∈ GW) (hn : okJ n) (kk : AW x w nL cl cells slots Q (pc + 3) lv (vL n :: st) h) : AW x w nL cl cells slots Q pc lv (st) h := by
  intro hh hl hs H ls locs hR hv hS
  obtain ⟨p, l, e, R, s, m, args, below, meth, c⟩ := x
  exact lv_ldc2 C.ex C.by C.ow (C.ws _ hw) hdg (kk hh hl ⟨hn, hs⟩ H ls locs hR hv hS)
theorem r_iload_n (C : Cx x w rm own cc nL ret hx) {k : Fin 4} {i0 : Nat} {n : Int} (hdg : decode cc pc = .ok (.iload_n k, 1)) (hi : (k : Nat) = i0) (hk : lv.lookup i0 = some (vI n)) (kk : AW x w nL cl cells slots Q (pc + 1) lv (vI n :: st) h) : AW x w nL cl cells slots Q pc lv (st) h := by
  intro hh hl hs H ls locs hR hv hS
  obtain ⟨p, l, e, R, s, m, args, below, meth, c⟩ := x
  exact lv_iload_n C.ex C.by hdg hi (lk_has hv hk) (kk hh hl ⟨lk_ok hl hk, hs⟩ H ls locs hR hv hS)
theorem r_iload (C : Cx x w rm own cc nL ret hx) {i0 : Nat} {n : Int} (hdg : decode cc pc = .ok (.iload i0, 2)) (hk : lv.lookup i0 = some (vI n)) (kk : AW x w nL cl cells slots Q (pc + 2) lv (vI n :: st) h) : AW x w nL cl cells slots Q pc lv (st) h := by
  intro hh hl hs H ls locs hR hv hS
  obtain ⟨p, l, e, R, s, m, args, below, meth, c⟩ := x
  exact lv_iload C.ex C.by hdg (lk_has hv hk) (kk hh hl ⟨lk_ok hl hk, hs⟩ H ls locs hR hv hS)
theorem r_lload_n (C : Cx x w rm own cc nL ret hx) {k : Fin 4} {i0 : Nat} {n : Int} (hdg : decode cc pc = .ok (.lload_n k, 1)) (hi : (k : Nat) = i0) (hk : lv.lookup i0 = some (vL n)) (kk : AW x w nL cl cells slots Q (pc + 1) lv (vL n :: st) h) : AW x w nL cl cells slots Q pc lv (st) h := by
  intro hh hl hs H ls locs hR hv hS
  obtain ⟨p, l, e, R, s, m, args, below, meth, c⟩ := x
  exact lv_lload_n C.ex C.by hdg hi (lk_has hv hk) (kk hh hl ⟨lk_ok hl hk, hs⟩ H ls locs hR hv hS)
theorem r_lload (C : Cx x w rm own cc nL ret hx) {i0 : Nat} {n : Int} (hdg : decode cc pc = .ok (.lload i0, 2)) (hk : lv.lookup i0 = some (vL n)) (kk : AW x w nL cl cells slots Q (pc + 2) lv (vL n :: st) h) : AW x w nL cl cells slots Q pc lv (st) h := by
  intro hh hl hs H ls locs hR hv hS
  obtain ⟨p, l, e, R, s, m, args, below, meth, c⟩ := x
  exact lv_lload C.ex C.by hdg (lk_has hv hk) (kk hh hl ⟨lk_ok hl hk, hs⟩ H ls locs hR hv hS)
theorem r_aload_n (C : Cx x w rm own cc nL ret hx) {k : Fin 4} {i0 : Nat} {t i : Nat} (hdg : decode cc pc = .ok (.aload_n k, 1)) (hi : (k : Nat) = i0) (hk : lv.lookup i0 = some (vO t i)) (kk : AW x w nL cl cells slots Q (pc + 1) lv (vO t i :: st) h) : AW x w nL cl cells slots Q pc lv (st) h := by
  intro hh hl hs H ls locs hR hv hS
  obtain ⟨p, l, e, R, s, m, args, below, meth, c⟩ := x
  exact lv_aload_n C.ex C.by hdg hi (lk_has hv hk) (kk hh hl ⟨lk_ok hl hk, hs⟩ H ls locs hR hv hS)
theorem r_aload (C : Cx x w rm own cc nL ret hx) {i0 : Nat} {t i : Nat} (hdg : decode cc pc = .ok (.aload i0, 2)) (hk : lv.lookup i0 = some (vO t i)) (kk : AW x w nL cl cells slots Q (pc + 2) lv (vO t i :: st) h) : AW x w nL cl cells slots Q pc lv (st) h := by
  intro hh hl hs H ls locs hR hv hS
  obtain ⟨p, l, e, R, s, m, args, below, meth, c⟩ := x
  exact lv_aload C.ex C.by hdg (lk_has hv hk) (kk hh hl ⟨lk_ok hl hk, hs⟩ H ls locs hR hv hS)
theorem r_aload_nX (C : Cx x w rm own cc nL ret hx) {k : Fin 4} {i0 a : Nat} (hdg : decode cc pc = .ok (.aload_n k, 1)) (hi : (k : Nat) = i0) (hk : lv.lookup i0 = some (vX a)) (kk : AW x w nL cl cells slots Q (pc + 1) lv (vX a :: st) h) : AW x w nL cl cells slots Q pc lv (st) h := by
  intro hh hl hs H ls locs hR hv hS
  obtain ⟨p, l, e, R, s, m, args, below, meth, c⟩ := x
  exact lv_aload_n C.ex C.by hdg hi (lk_has hv hk) (kk hh hl ⟨trivial, hs⟩ H ls locs hR hv hS)
theorem r_aloadX (C : Cx x w rm own cc nL ret hx) {i0 a : Nat} (hdg : decode cc pc = .ok (.aload i0, 2)) (hk : lv.lookup i0 = some (vX a)) (kk : AW x w nL cl cells slots Q (pc + 2) lv (vX a :: st) h) : AW x w nL cl cells slots Q pc lv (st) h := by
  intro hh hl hs H ls locs hR hv hS
  obtain ⟨p, l, e, R, s, m, args, below, meth, c⟩ := x
  exact lv_aload C.ex C.by hdg (lk_has hv hk) (kk hh hl ⟨trivial, hs⟩ H ls locs hR hv hS)
theorem r_istore_n (C : Cx x w rm own cc nL ret hx) {k : Fin 4} {i0 : Nat} {n : Int} (hdg : decode cc pc = .ok (.istore_n k, 1)) (hi : (k : Nat) = i0) (hn : i0 < nL) (kk : AW x w nL cl cells slots Q (pc + 1) (lst lv i0 (vI n)) (st) h) : AW x w nL cl cells slots Q pc lv (vI n :: st) h := by
  intro hh hl hs H ls locs hR hv hS
  obtain ⟨p, l, e, R, s, m, args, below, meth, c⟩ := x
  exact lv_istore_n C.ex C.by hdg hi hv hn (lst_map w lv i0 (vI n)) fun ls1 h1 => kk hh (lst_ok hl hs.1) hs.2 H ls1 locs hR h1 hS
theorem r_istore (C : Cx x w rm own cc nL ret hx) {i0 : Nat} {n : Int} (hdg : decode cc pc = .ok (.istore i0, 2)) (hn : i0 < nL) (kk : AW x w nL cl cells slots Q (pc + 2) (lst lv i0 (vI n)) (st) h) : AW x w nL cl cells slots Q pc lv (vI n :: st) h := by
  intro hh hl hs H ls locs hR hv hS
  obtain ⟨p, l, e, R, s, m, args, below, meth, c⟩ := x
  exact lv_istore C.ex C.by hdg hv hn (lst_map w lv i0 (vI n)) fun ls1 h1 => kk hh (lst_ok hl hs.1) hs.2 H ls1 locs hR h1 hS
theorem r_astore_n (C : Cx x w rm own cc nL ret hx) {k : Fin 4} {i0 : Nat} {t i : Nat} (hdg : decode cc pc = .ok (.astore_n k, 1)) (hi : (k : Nat) = i0) (hn : i0 < nL) (kk : AW x w nL cl cells slots Q (pc + 1) (lst lv i0 (vO t i)) (st) h) : AW x w nL cl cells slots Q pc lv (vO t i :: st) h := by
  intro hh hl hs H ls locs hR hv hS
  obtain ⟨p, l, e, R, s, m, args, below, meth, c⟩ := x
  exact lv_astore_n C.ex C.by hdg hi hv hn (lst_map w lv i0 (vO t i)) fun ls1 h1 => kk hh (lst_ok hl hs.1) hs.2 H ls1 locs hR h1 hS
theorem r_astore (C : Cx x w rm own cc nL ret hx) {i0 : Nat} {t i : Nat} (hdg : decode cc pc = .ok (.astore i0, 2)) (hn : i0 < nL) (kk : AW x w nL cl cells slots Q (pc + 2) (lst lv i0 (vO t i)) (st) h) : AW x w nL cl cells slots Q pc lv (vO t i :: st) h := by
  intro hh hl hs H ls locs hR hv hS
  obtain ⟨p, l, e, R, s, m, args, below, meth, c⟩ := x
  exact lv_astore C.ex C.by hdg hv hn (lst_map w lv i0 (vO t i)) fun ls1 h1 => kk hh (lst_ok hl hs.1) hs.2 H ls1 locs hR h1 hS
theorem r_lstore_n (C : Cx x w rm own cc nL ret hx) {k : Fin 4} {i0 : Nat} {n : Int} (hdg : decode cc pc = .ok (.lstore_n k, 1)) (hi : (k : Nat) = i0) (hn : i0 + 1 < nL) (kk : AW x w nL cl cells slots Q (pc + 1) (lstL lv i0 (vL n)) (st) h) : AW x w nL cl cells slots Q pc lv (vL n :: st) h := by
  intro hh hl hs H ls locs hR hv hS
  obtain ⟨p, l, e, R, s, m, args, below, meth, c⟩ := x
  exact lv_lstore_n C.ex C.by hdg hi hv hn (lstL_map w lv i0 (vL n)) fun ls1 h1 => kk hh (lstL_ok hl hs.1) hs.2 H ls1 locs hR h1 hS
theorem r_lstore (C : Cx x w rm own cc nL ret hx) {i0 : Nat} {n : Int} (hdg : decode cc pc = .ok (.lstore i0, 2)) (hn : i0 + 1 < nL) (kk : AW x w nL cl cells slots Q (pc + 2) (lstL lv i0 (vL n)) (st) h) : AW x w nL cl cells slots Q pc lv (vL n :: st) h := by
  intro hh hl hs H ls locs hR hv hS
  obtain ⟨p, l, e, R, s, m, args, below, meth, c⟩ := x
  exact lv_lstore C.ex C.by hdg hv hn (lstL_map w lv i0 (vL n)) fun ls1 h1 => kk hh (lstL_ok hl hs.1) hs.2 H ls1 locs hR h1 hS
theorem r_astore_nX (C : Cx x w rm own cc nL ret hx) {k : Fin 4} {i0 a : Nat} (hdg : decode cc pc = .ok (.astore_n k, 1)) (hi : (k : Nat) = i0) (hn : i0 < nL) (kk : AW x w nL cl cells slots Q (pc + 1) (lst lv i0 (vX a)) (st) h) : AW x w nL cl cells slots Q pc lv (vX a :: st) h := by
  intro hh hl hs H ls locs hR hv hS
  obtain ⟨p, l, e, R, s, m, args, below, meth, c⟩ := x
  exact lv_astore_n C.ex C.by hdg hi hv hn (lst_map w lv i0 (vX a)) fun ls1 h1 => kk hh (lst_ok hl hs.1) hs.2 H ls1 locs hR h1 hS
theorem r_astoreX (C : Cx x w rm own cc nL ret hx) {i0 a : Nat} (hdg : decode cc pc = .ok (.astore i0, 2)) (hn : i0 < nL) (kk : AW x w nL cl cells slots Q (pc + 2) (lst lv i0 (vX a)) (st) h) : AW x w nL cl cells slots Q pc lv (vX a :: st) h := by
  intro hh hl hs H ls locs hR hv hS
  obtain ⟨p, l, e, R, s, m, args, below, meth, c⟩ := x
  exact lv_astore C.ex C.by hdg hv hn (lst_map w lv i0 (vX a)) fun ls1 h1 => kk hh (lst_ok hl hs.1) hs.2 H ls1 locs hR h1 hS
theorem r_iinc (C : Cx x w rm own cc nL ret hx) {i0 : Nat} {d n : Int} (hdg : decode cc pc = .ok (.iinc i0 d, 3)) (hk : lv.lookup i0 = some (vI n)) (hn : i0 < nL) (hr : okI (n + d)) (kk : AW x w nL cl cells slots Q (pc + 3) (lst lv i0 (vI (n + d))) st h) : AW x w nL cl cells slots Q pc lv st h := by
  intro hh hl hs H ls locs hR hv hS
  obtain ⟨p, l, e, R, s, m, args, below, meth, c⟩ := x
  obtain ⟨k0, hk0⟩ := List.getElem?_of_mem (List.mem_map.mpr ⟨(i0, vI n), lk_mem hk, rfl⟩ : cP w (i0, vI n) ∈ lv.map (cP w))
  exact lv_iinc C.ex C.by hdg hv hk0 (Int32.ofInt_add n d).symm hn (lst_map w lv i0 (vI (n + d))) fun ls1 h1 => kk hh (lst_ok hl hr) hs H ls1 locs hR h1 hS
theorem r_iadd (C : Cx x w rm own cc nL ret hx) {a b : Int} (hdg : decode cc pc = .ok (.iadd, 1)) (hr : okI (a + b)) (kk : AW x w nL cl cells slots Q (pc + 1) lv (vI (a + b) :: st) h) : AW x w nL cl cells slots Q pc lv (vI b :: vI a :: st) h := by
  intro hh hl hs H ls locs hR hv hS
  obtain ⟨p, l, e, R, s, m, args, below, meth, c⟩ := x
  refine lv_iadd C.ex C.by hdg ?_
  rw [← Int32.ofInt_add]
  exact kk hh hl ⟨hr, hs.2.2⟩ H ls locs hR hv hS
theorem r_isub (C : Cx x w rm own cc nL ret hx) {a b : Int} (hdg : decode cc pc = .ok (.isub, 1)) (hr : okI (a - b)) (kk : AW x w nL cl cells slots Q (pc + 1) lv (vI (a - b) :: st) h) : AW x w nL cl cells slots Q pc lv (vI b :: vI a :: st) h := by
  intro hh hl hs H ls locs hR hv hS
  obtain ⟨p, l, e, R, s, m, args, below, meth, c⟩ := x
  refine lv_isub C.ex C.by hdg ?_
  rw [← Int32.ofInt_sub]
  exact kk hh hl ⟨hr, hs.2.2⟩ H ls locs hR hv hS
theorem r_imul (C : Cx x w rm own cc nL ret hx) {a b : Int} (hdg : decode cc pc = .ok (.imul, 1)) (hr : okI (a * b)) (kk : AW x w nL cl cells slots Q (pc + 1) lv (vI (a * b) :: st) h) : AW x w nL cl cells slots Q pc lv (vI b :: vI a :: st) h := by
  intro hh hl hs H ls locs hR hv hS
  obtain ⟨p, l, e, R, s, m, args, below, meth, c⟩ := x
  refine lv_imul C.ex C.by hdg ?_
  rw [← Int32.ofInt_mul]
  exact kk hh hl ⟨hr, hs.2.2⟩ H ls locs hR hv hS
theorem r_ladd (C : Cx x w rm own cc nL ret hx) {a b : Int} (hdg : decode cc pc = .ok (.ladd, 1)) (hr : okJ (a + b)) (kk : AW x w nL cl cells slots Q (pc + 1) lv (vL (a + b) :: st) h) : AW x w nL cl cells slots Q pc lv (vL b :: vL a :: st) h := by
  intro hh hl hs H ls locs hR hv hS
  obtain ⟨p, l, e, R, s, m, args, below, meth, c⟩ := x
  refine lv_ladd C.ex C.by hdg ?_
  rw [← Int64.ofInt_add]
  exact kk hh hl ⟨hr, hs.2.2⟩ H ls locs hR hv hS
theorem r_lsub (C : Cx x w rm own cc nL ret hx) {a b : Int} (hdg : decode cc pc = .ok (.lsub, 1)) (hr : okJ (a - b)) (kk : AW x w nL cl cells slots Q (pc + 1) lv (vL (a - b) :: st) h) : AW x w nL cl cells slots Q pc lv (vL b :: vL a :: st) h := by
  intro hh hl hs H ls locs hR hv hS
  obtain ⟨p, l, e, R, s, m, args, below, meth, c⟩ := x
  refine lv_lsub C.ex C.by hdg ?_
  rw [← Int64.ofInt_sub]
  exact kk hh hl ⟨hr, hs.2.2⟩ H ls locs hR hv hS
theorem r_lmul (C : Cx x w rm own cc nL ret hx) {a b : Int} (hdg : decode cc pc = .ok (.lmul, 1)) (hr : okJ (a * b)) (kk : AW x w nL cl cells slots Q (pc + 1) lv (vL (a * b) :: st) h) : AW x w nL cl cells slots Q pc lv (vL b :: vL a :: st) h := by
  intro hh hl hs H ls locs hR hv hS
  obtain ⟨p, l, e, R, s, m, args, below, meth, c⟩ := x
  refine lv_lmul C.ex C.by hdg ?_
  rw [← Int64.ofInt_mul]
  exact kk hh hl ⟨hr, hs.2.2⟩ H ls locs hR hv hS
theorem r_idiv (C : Cx x w rm own cc nL ret hx) {a b : Int} (hdg : decode cc pc = .ok (.idiv, 1)) (hb0 : b ≠ 0) (hq : okI (a.tdiv b))  (kk : AW x w nL cl cells slots Q (pc + 1) lv (vI (a.tdiv b) :: st) h) : AW x w nL cl cells slots Q pc lv (vI b :: vI a :: st) h := by
  intro hh hl hs H ls locs hR hv hS
  obtain ⟨p, l, e, R, s, m, args, below, meth, c⟩ := x
  refine lv_idiv C.ex C.by hdg (fun q => hb0 ?_) ?_
  · have q1 : Int32.ofInt b = Int32.ofInt 0 := q
    rwa [i32_eq hs.1 ⟨by decide, by decide⟩] at q1
  · rw [i32_div hs.2.1 hs.1 hq]
    exact kk hh hl ⟨hq, hs.2.2⟩ H ls locs hR hv hS
theorem r_irem (C : Cx x w rm own cc nL ret hx) {a b : Int} (hdg : decode cc pc = .ok (.irem, 1)) (hb0 : b ≠ 0) (hq : okI (a.tdiv b)) (hr : okI (a.tmod b)) (kk : AW x w nL cl cells slots Q (pc + 1) lv (vI (a.tmod b) :: st) h) : AW x w nL cl cells slots Q pc lv (vI b :: vI a :: st) h := by
  intro hh hl hs H ls locs hR hv hS
  obtain ⟨p, l, e, R, s, m, args, below, meth, c⟩ := x
  refine lv_irem C.ex C.by hdg (fun q => hb0 ?_) ?_
  · have q1 : Int32.ofInt b = Int32.ofInt 0 := q
    rwa [i32_eq hs.1 ⟨by decide, by decide⟩] at q1
  · rw [i32_rem hs.2.1 hs.1 hq]
    exact kk hh hl ⟨hr, hs.2.2⟩ H ls locs hR hv hS
theorem r_ldiv (C : Cx x w rm own cc nL ret hx) {a b : Int} (hdg : decode cc pc = .ok (.ldiv, 1)) (hb0 : b ≠ 0) (hq : okJ (a.tdiv b))  (kk : AW x w nL cl cells slots Q (pc + 1) lv (vL (a.tdiv b) :: st) h) : AW x w nL cl cells slots Q pc lv (vL b :: vL a :: st) h := by
  intro hh hl hs H ls locs hR hv hS
  obtain ⟨p, l, e, R, s, m, args, below, meth, c⟩ := x
  refine lv_ldiv C.ex C.by hdg (fun q => hb0 ?_) ?_
  · have q1 : Int64.ofInt b = Int64.ofInt 0 := q
    rwa [i64_eq hs.1 ⟨by decide, by decide⟩] at q1
  · rw [i64_div hs.2.1 hs.1 hq]
    exact kk hh hl ⟨hq, hs.2.2⟩ H ls locs hR hv hS
theorem r_lrem (C : Cx x w rm own cc nL ret hx) {a b : Int} (hdg : decode cc pc = .ok (.lrem, 1)) (hb0 : b ≠ 0) (hq : okJ (a.tdiv b)) (hr : okJ (a.tmod b)) (kk : AW x w nL cl cells slots Q (pc + 1) lv (vL (a.tmod b) :: st) h) : AW x w nL cl cells slots Q pc lv (vL b :: vL a :: st) h := by
  intro hh hl hs H ls locs hR hv hS
  obtain ⟨p, l, e, R, s, m, args, below, meth, c⟩ := x
  refine lv_lrem C.ex C.by hdg (fun q => hb0 ?_) ?_
  · have q1 : Int64.ofInt b = Int64.ofInt 0 := q
    rwa [i64_eq hs.1 ⟨by decide, by decide⟩] at q1
  · rw [i64_rem hs.2.1 hs.1 hq]
    exact kk hh hl ⟨hr, hs.2.2⟩ H ls locs hR hv hS
theorem r_i2l (C : Cx x w rm own cc nL ret hx) {a : Int} (hdg : decode cc pc = .ok (.i2l, 1)) (kk : AW x w nL cl cells slots Q (pc + 1) lv (vL a :: st) h) : AW x w nL cl cells slots Q pc lv (vI a :: st) h := by
  intro hh hl hs H ls locs hR hv hS
  obtain ⟨p, l, e, R, s, m, args, below, meth, c⟩ := x
  exact lv_i2l C.ex C.by hdg (i32_i2l hs.1) (kk hh hl ⟨⟨by have := hs.1.1; omega, by have := hs.1.2; omega⟩, hs.2⟩ H ls locs hR hv hS)
theorem r_l2i (C : Cx x w rm own cc nL ret hx) {a : Int} (hdg : decode cc pc = .ok (.l2i, 1)) (hr : okI a) (kk : AW x w nL cl cells slots Q (pc + 1) lv (vI a :: st) h) : AW x w nL cl cells slots Q pc lv (vL a :: st) h := by
  intro hh hl hs H ls locs hR hv hS
  obtain ⟨p, l, e, R, s, m, args, below, meth, c⟩ := x
  exact lv_l2i C.ex C.by hdg (i64_l2i hr) (kk hh hl ⟨hr, hs.2⟩ H ls locs hR hv hS)
theorem r_dup (C : Cx x w rm own cc nL ret hx) {v : AV} (hdg : decode cc pc = .ok (.dup, 1)) (hc : isL v = false) (kk : AW x w nL cl cells slots Q (pc + 1) lv (v :: v :: st) h) : AW x w nL cl cells slots Q pc lv (v :: st) h := by
  intro hh hl hs H ls locs hR hv hS
  obtain ⟨p, l, e, R, s, m, args, below, meth, c⟩ := x
  exact lv_dup C.ex C.by hdg (cV_cat1 w v hc) (kk hh hl ⟨hs.1, hs⟩ H ls locs hR hv hS)
theorem r_pop (C : Cx x w rm own cc nL ret hx) {v : AV} (hdg : decode cc pc = .ok (.pop, 1)) (hc : isL v = false) (kk : AW x w nL cl cells slots Q (pc + 1) lv (st) h) : AW x w nL cl cells slots Q pc lv (v :: st) h := by
  intro hh hl hs H ls locs hR hv hS
  obtain ⟨p, l, e, R, s, m, args, below, meth, c⟩ := x
  exact lv_pop C.ex C.by hdg (cV_cat1 w v hc) (kk hh hl hs.2 H ls locs hR hv hS)
theorem r_dup2 (C : Cx x w rm own cc nL ret hx) {v u : AV} (hdg : decode cc pc = .ok (.dup2, 1)) (hc : isL v = false) (hd : isL u = false) (kk : AW x w nL cl cells slots Q (pc + 1) lv (v :: u :: v :: u :: st) h) : AW x w nL cl cells slots Q pc lv (v :: u :: st) h := by
  intro hh hl hs H ls locs hR hv hS
  obtain ⟨p, l, e, R, s, m, args, below, meth, c⟩ := x
  exact lv_dup2_11 C.ex C.by hdg (cV_cat1 w v hc) (cV_cat1 w u hd) (kk hh hl ⟨hs.1, hs.2.1, hs⟩ H ls locs hR hv hS)
theorem r_dup2L (C : Cx x w rm own cc nL ret hx) {n : Int} (hdg : decode cc pc = .ok (.dup2, 1)) (kk : AW x w nL cl cells slots Q (pc + 1) lv (vL n :: vL n :: st) h) : AW x w nL cl cells slots Q pc lv (vL n :: st) h := by
  intro hh hl hs H ls locs hR hv hS
  obtain ⟨p, l, e, R, s, m, args, below, meth, c⟩ := x
  exact lv_dup2_2 C.ex C.by hdg rfl (kk hh hl ⟨hs.1, hs⟩ H ls locs hR hv hS)
theorem r_dup_x1 (C : Cx x w rm own cc nL ret hx) {v u : AV} (hdg : decode cc pc = .ok (.dup_x1, 1)) (hc : isL v = false) (hd : isL u = false) (kk : AW x w nL cl cells slots Q (pc + 1) lv (v :: u :: v :: st) h) : AW x w nL cl cells slots Q pc lv (v :: u :: st) h := by
  intro hh hl hs H ls locs hR hv hS
  obtain ⟨p, l, e, R, s, m, args, below, meth, c⟩ := x
  exact lv_dup_x1 C.ex C.by hdg (cV_cat1 w v hc) (cV_cat1 w u hd) (kk hh hl ⟨hs.1, hs.2.1, hs.1, hs.2.2⟩ H ls locs hR hv hS)
theorem r_dup_x2 (C : Cx x w rm own cc nL ret hx) {v u t : AV} (hdg : decode cc pc = .ok (.dup_x2, 1)) (hc : isL v = false) (hd : isL u = false) (he : isL t = false) (kk : AW x w nL cl cells slots Q (pc + 1) lv (v :: u :: t :: v :: st) h) : AW x w nL cl cells slots Q pc lv (v :: u :: t :: st) h := by
  intro hh hl hs H ls locs hR hv hS
  obtain ⟨p, l, e, R, s, m, args, below, meth, c⟩ := x
  exact lv_dup_x2 C.ex C.by hdg (cV_cat1 w v hc) (cV_cat1 w u hd) (cV_cat1 w t he) (kk hh hl ⟨hs.1, hs.2.1, hs.2.2.1, hs.1, hs.2.2.2⟩ H ls locs hR hv hS)
theorem r_icmp_eq (C : Cx x w rm own cc nL ret hx) {a b off : Int} {tgt : Nat} (hdg : decode cc pc = .ok (.if_icmp .eq off, 3)) (ht : (pc : Int) + off = (tgt : Int)) (kt : a = b → AW x w nL cl cells slots Q tgt lv st h) (kf : ¬ a = b → AW x w nL cl cells slots Q (pc + 3) lv st h) : AW x w nL cl cells slots Q pc lv (vI b :: vI a :: st) h := by
  intro hh hl hs H ls locs hR hv hS
  obtain ⟨p, l, e, R, s, m, args, below, meth, c⟩ := x
  refine lv_icmp_eq C.ex C.by hdg ht (fun q => kt ?_ hh hl hs.2.2 H ls locs hR hv hS) (fun q => kf ?_ hh hl hs.2.2 H ls locs hR hv hS)
  · rwa [i32_eq hs.2.1 hs.1] at q
  · rwa [i32_eq hs.2.1 hs.1] at q
theorem r_if_eq (C : Cx x w rm own cc nL ret hx) {a off : Int} {tgt : Nat} (hdg : decode cc pc = .ok (.ifCond .eq off, 3)) (ht : (pc : Int) + off = (tgt : Int)) (kt : a = 0 → AW x w nL cl cells slots Q tgt lv st h) (kf : ¬ a = 0 → AW x w nL cl cells slots Q (pc + 3) lv st h) : AW x w nL cl cells slots Q pc lv (vI a :: st) h := by
  intro hh hl hs H ls locs hR hv hS
  obtain ⟨p, l, e, R, s, m, args, below, meth, c⟩ := x
  have z0 : okI 0 := ⟨by decide, by decide⟩
  have z1 : (0 : Int32) = Int32.ofInt 0 := rfl
  refine lv_if_eq C.ex C.by hdg ht (fun q => kt ?_ hh hl hs.2 H ls locs hR hv hS) (fun q => kf ?_ hh hl hs.2 H ls locs hR hv hS)
  · rw [z1] at q
    rwa [i32_eq hs.1 z0] at q
  · rw [z1] at q
    rwa [i32_eq hs.1 z0] at q
theorem r_icmp_ne (C : Cx x w rm own cc nL ret hx) {a b off : Int} {tgt : Nat} (hdg : decode cc pc = .ok (.if_icmp .ne off, 3)) (ht : (pc : Int) + off = (tgt : Int)) (kt : ¬ a = b → AW x w nL cl cells slots Q tgt lv st h) (kf : a = b → AW x w nL cl cells slots Q (pc + 3) lv st h) : AW x w nL cl cells slots Q pc lv (vI b :: vI a :: st) h := by
  intro hh hl hs H ls locs hR hv hS
  obtain ⟨p, l, e, R, s, m, args, below, meth, c⟩ := x
  refine lv_icmp_ne C.ex C.by hdg ht (fun q => kt ?_ hh hl hs.2.2 H ls locs hR hv hS) (fun q => kf ?_ hh hl hs.2.2 H ls locs hR hv hS)
  · rwa [i32_eq hs.2.1 hs.1] at q
  · rwa [i32_eq hs.2.1 hs.1] at q
theorem r_if_ne (C : Cx x w rm own cc nL ret hx) {a off : Int} {tgt : Nat} (hdg : decode cc pc = .ok (.ifCond .ne off, 3)) (ht : (pc : Int) + off = (tgt : Int)) (kt : ¬ a = 0 → AW x w nL cl cells slots Q tgt lv st h) (kf : a = 0 → AW x w nL cl cells slots Q (pc + 3) lv st h) : AW x w nL cl cells slots Q pc lv (vI a :: st) h := by
  intro hh hl hs H ls locs hR hv hS
  obtain ⟨p, l, e, R, s, m, args, below, meth, c⟩ := x
  have z0 : okI 0 := ⟨by decide, by decide⟩
  have z1 : (0 : Int32) = Int32.ofInt 0 := rfl
  refine lv_if_ne C.ex C.by hdg ht (fun q => kt ?_ hh hl hs.2 H ls locs hR hv hS) (fun q => kf ?_ hh hl hs.2 H ls locs hR hv hS)
  · rw [z1] at q
    rwa [i32_eq hs.1 z0] at q
  · rw [z1] at q
    rwa [i32_eq hs.1 z0] at q
theorem r_icmp_lt (C : Cx x w rm own cc nL ret hx) {a b off : Int} {tgt : Nat} (hdg : decode cc pc = .ok (.if_icmp .lt off, 3)) (ht : (pc : Int) + off = (tgt : Int)) (kt : a < b → AW x w nL cl cells slots Q tgt lv st h) (kf : ¬ a < b → AW x w nL cl cells slots Q (pc + 3) lv st h) : AW x w nL cl cells slots Q pc lv (vI b :: vI a :: st) h := by
  intro hh hl hs H ls locs hR hv hS
  obtain ⟨p, l, e, R, s, m, args, below, meth, c⟩ := x
  refine lv_icmp_lt C.ex C.by hdg ht (fun q => kt ?_ hh hl hs.2.2 H ls locs hR hv hS) (fun q => kf ?_ hh hl hs.2.2 H ls locs hR hv hS)
  · rwa [i32_lt hs.2.1 hs.1] at q
  · rwa [i32_lt hs.2.1 hs.1] at q
theorem r_if_lt (C : Cx x w rm own cc nL ret hx) {a off : Int} {tgt : Nat} (hdg : decode cc pc = .ok (.ifCond .lt off, 3)) (ht : (pc : Int) + off = (tgt : Int)) (kt : a < 0 → AW x w nL cl cells slots Q tgt lv st h) (kf : ¬ a < 0 → AW x w nL cl cells slots Q (pc + 3) lv st h) : AW x w nL cl cells slots Q pc lv (vI a :: st) h := by
  intro hh hl hs H ls locs hR hv hS
  obtain ⟨p, l, e, R, s, m, args, below, meth, c⟩ := x
  have z0 : okI 0 := ⟨by decide, by decide⟩
  have z1 : (0 : Int32) = Int32.ofInt 0 := rfl
  refine lv_if_lt C.ex C.by hdg ht (fun q => kt ?_ hh hl hs.2 H ls locs hR hv hS) (fun q => kf ?_ hh hl hs.2 H ls locs hR hv hS)
  · rw [z1] at q
    rwa [i32_lt hs.1 z0] at q
  · rw [z1] at q
    rwa [i32_lt hs.1 z0] at q
theorem r_icmp_ge (C : Cx x w rm own cc nL ret hx) {a b off : Int} {tgt : Nat} (hdg : decode cc pc = .ok (.if_icmp .ge off, 3)) (ht : (pc : Int) + off = (tgt : Int)) (kt : b ≤ a → AW x w nL cl cells slots Q tgt lv st h) (kf : ¬ b ≤ a → AW x w nL cl cells slots Q (pc + 3) lv st h) : AW x w nL cl cells slots Q pc lv (vI b :: vI a :: st) h := by
  intro hh hl hs H ls locs hR hv hS
  obtain ⟨p, l, e, R, s, m, args, below, meth, c⟩ := x
  refine lv_icmp_ge C.ex C.by hdg ht (fun q => kt ?_ hh hl hs.2.2 H ls locs hR hv hS) (fun q => kf ?_ hh hl hs.2.2 H ls locs hR hv hS)
  · rwa [i32_le hs.1 hs.2.1] at q
  · rwa [i32_le hs.1 hs.2.1] at q
theorem r_if_ge (C : Cx x w rm own cc nL ret hx) {a off : Int} {tgt : Nat} (hdg : decode cc pc = .ok (.ifCond .ge off, 3)) (ht : (pc : Int) + off = (tgt : Int)) (kt : 0 ≤ a → AW x w nL cl cells slots Q tgt lv st h) (kf : ¬ 0 ≤ a → AW x w nL cl cells slots Q (pc + 3) lv st h) : AW x w nL cl cells slots Q pc lv (vI a :: st) h := by
  intro hh hl hs H ls locs hR hv hS
  obtain ⟨p, l, e, R, s, m, args, below, meth, c⟩ := x
  have z0 : okI 0 := ⟨by decide, by decide⟩
  have z1 : (0 : Int32) = Int32.ofInt 0 := rfl
  refine lv_if_ge C.ex C.by hdg ht (fun q => kt ?_ hh hl hs.2 H ls locs hR hv hS) (fun q => kf ?_ hh hl hs.2 H ls locs hR hv hS)
  · rw [z1] at q
    rwa [i32_le z0 hs.1] at q
  · rw [z1] at q
    rwa [i32_le z0 hs.1] at q
theorem r_icmp_gt (C : Cx x w rm own cc nL ret hx) {a b off : Int} {tgt : Nat} (hdg : decode cc pc = .ok (.if_icmp .gt off, 3)) (ht : (pc : Int) + off = (tgt : Int)) (kt : b < a → AW x w nL cl cells slots Q tgt lv st h) (kf : ¬ b < a → AW x w nL cl cells slots Q (pc + 3) lv st h) : AW x w nL cl cells slots Q pc lv (vI b :: vI a :: st) h := by
  intro hh hl hs H ls locs hR hv hS
  obtain ⟨p, l, e, R, s, m, args, below, meth, c⟩ := x
  refine lv_icmp_gt C.ex C.by hdg ht (fun q => kt ?_ hh hl hs.2.2 H ls locs hR hv hS) (fun q => kf ?_ hh hl hs.2.2 H ls locs hR hv hS)
  · rwa [i32_lt hs.1 hs.2.1] at q
  · rwa [i32_lt hs.1 hs.2.1] at q
theorem r_if_gt (C : Cx x w rm own cc nL ret hx) {a off : Int} {tgt : Nat} (hdg : decode cc pc = .ok (.ifCond .gt off, 3)) (ht : (pc : Int) + off = (tgt : Int)) (kt : 0 < a → AW x w nL cl cells slots Q tgt lv st h) (kf : ¬ 0 < a → AW x w nL cl cells slots Q (pc + 3) lv st h) : AW x w nL cl cells slots Q pc lv (vI a :: st) h := by
  intro hh hl hs H ls locs hR hv hS
  obtain ⟨p, l, e, R, s, m, args, below, meth, c⟩ := x
  have z0 : okI 0 := ⟨by decide, by decide⟩
  have z1 : (0 : Int32) = Int32.ofInt 0 := rfl
  refine lv_if_gt C.ex C.by hdg ht (fun q => kt ?_ hh hl hs.2 H ls locs hR hv hS) (fun q => kf ?_ hh hl hs.2 H ls locs hR hv hS)
  · rw [z1] at q
    rwa [i32_lt z0 hs.1] at q
  · rw [z1] at q
    rwa [i32_lt z0 hs.1] at q
theorem r_icmp_le (C : Cx x w rm own cc nL ret hx) {a b off : Int} {tgt : Nat} (hdg : decode cc pc = .ok (.if_icmp .le off, 3)) (ht : (pc : Int) + off = (tgt : Int)) (kt : a ≤ b → AW x w nL cl cells slots Q tgt lv st h) (kf : ¬ a ≤ b → AW x w nL cl cells slots Q (pc + 3) lv st h) : AW x w nL cl cells slots Q pc lv (vI b :: vI a :: st) h := by
  intro hh hl hs H ls locs hR hv hS
  obtain ⟨p, l, e, R, s, m, args, below, meth, c⟩ := x
  refine lv_icmp_le C.ex C.by hdg ht (fun q => kt ?_ hh hl hs.2.2 H ls locs hR hv hS) (fun q => kf ?_ hh hl hs.2.2 H ls locs hR hv hS)
  · rwa [i32_le hs.2.1 hs.1] at q
  · rwa [i32_le hs.2.1 hs.1] at q
theorem r_if_le (C : Cx x w rm own cc nL ret hx) {a off : Int} {tgt : Nat} (hdg : decode cc pc = .ok (.ifCond .le off, 3)) (ht : (pc : Int) + off = (tgt : Int)) (kt : a ≤ 0 → AW x w nL cl cells slots Q tgt lv st h) (kf : ¬ a ≤ 0 → AW x w nL cl cells slots Q (pc + 3) lv st h) : AW x w nL cl cells slots Q pc lv (vI a :: st) h := by
  intro hh hl hs H ls locs hR hv hS
  obtain ⟨p, l, e, R, s, m, args, below, meth, c⟩ := x
  have z0 : okI 0 := ⟨by decide, by decide⟩
  have z1 : (0 : Int32) = Int32.ofInt 0 := rfl
  refine lv_if_le C.ex C.by hdg ht (fun q => kt ?_ hh hl hs.2 H ls locs hR hv hS) (fun q => kf ?_ hh hl hs.2 H ls locs hR hv hS)
  · rw [z1] at q
    rwa [i32_le hs.1 z0] at q
  · rw [z1] at q
    rwa [i32_le hs.1 z0] at q
def cmpJ (a b : Int) : Int := if b < a then 1 else if a = b then 0 else -1
theorem cmpJ_s (a b : Int) : (b < a ∧ cmpJ a b = 1) ∨ (a = b ∧ cmpJ a b = 0) ∨ (a < b ∧ cmpJ a b = -1) := by
  unfold cmpJ
  split
  · exact Or.inl ⟨by assumption, rfl⟩
  · split
    · exact Or.inr (Or.inl ⟨by assumption, rfl⟩)
    · exact Or.inr (Or.inr ⟨by omega, rfl⟩)
theorem cmpJ_ok (a b : Int) : okI (cmpJ a b) := by
  have := cmpJ_s a b
  exact ⟨by omega, by omega⟩
theorem lg_cmp_i {a b : Int} (ha : okJ a) (hb : okJ b) : lg_cmp (Int64.ofInt a) (Int64.ofInt b) = Int32.ofInt (cmpJ a b) := by
  unfold lg_cmp cmpJ
  have h1 : (Int64.ofInt a > Int64.ofInt b) = (b < a) := i64_lt hb ha
  have h2 : (Int64.ofInt a = Int64.ofInt b) = (a = b) := i64_eq ha hb
  simp only [h1, h2]
  split
  · rfl
  · split <;> rfl
theorem r_lcmp_eq (C : Cx x w rm own cc nL ret hx) {a b off : Int} {tgt : Nat} (hd1 : decode cc pc = .ok (.lcmp, 1)) (hdg : decode cc (pc + 1) = .ok (.ifCond .eq off, 3)) (ht : ((pc + 1 : Nat) : Int) + off = (tgt : Int)) (kt : a = b → AW x w nL cl cells slots Q tgt lv st h) (kf : ¬ a = b → AW x w nL cl cells slots Q (pc + 1 + 3) lv st h) : AW x w nL cl cells slots Q pc lv (vL b :: vL a :: st) h := by
  intro hh hl hs H ls locs hR hv hS
  refine W.lcmp C.ex C.by hd1 ?_
  rw [lg_cmp_i hs.2.1 hs.1]
  have hc := cmpJ_s a b
  refine r_if_eq (a := cmpJ a b) C hdg ht (fun q => kt ?_) (fun q => kf ?_) hh hl ⟨cmpJ_ok a b, hs.2.2⟩ H ls locs hR hv hS <;> omega
theorem r_lcmp_ne (C : Cx x w rm own cc nL ret hx) {a b off : Int} {tgt : Nat} (hd1 : decode cc pc = .ok (.lcmp, 1)) (hdg : decode cc (pc + 1) = .ok (.ifCond .ne off, 3)) (ht : ((pc + 1 : Nat) : Int) + off = (tgt : Int)) (kt : ¬ a = b → AW x w nL cl cells slots Q tgt lv st h) (kf : a = b → AW x w nL cl cells slots Q (pc + 1 + 3) lv st h) : AW x w nL cl cells slots Q pc lv (vL b :: vL a :: st) h := by
  intro hh hl hs H ls locs hR hv hS
  refine W.lcmp C.ex C.by hd1 ?_
  rw [lg_cmp_i hs.2.1 hs.1]
  have hc := cmpJ_s a b
  refine r_if_ne (a := cmpJ a b) C hdg ht (fun q => kt ?_) (fun q => kf ?_) hh hl ⟨cmpJ_ok a b, hs.2.2⟩ H ls locs hR hv hS <;> omega
theorem r_lcmp_lt (C : Cx x w rm own cc nL ret hx) {a b off : Int} {tgt : Nat} (hd1 : decode cc pc = .ok (.lcmp, 1)) (hdg : decode cc (pc + 1) = .ok (.ifCond .lt off, 3)) (ht : ((pc + 1 : Nat) : Int) + off = (tgt : Int)) (kt : a < b → AW x w nL cl cells slots Q tgt lv st h) (kf : ¬ a < b → AW x w nL cl cells slots Q (pc + 1 + 3) lv st h) : AW x w nL cl cells slots Q pc lv (vL b :: vL a :: st) h := by
  intro hh hl hs H ls locs hR hv hS
  refine W.lcmp C.ex C.by hd1 ?_
  rw [lg_cmp_i hs.2.1 hs.1]
  have hc := cmpJ_s a b
  refine r_if_lt (a := cmpJ a b) C hdg ht (fun q => kt ?_) (fun q => kf ?_) hh hl ⟨cmpJ_ok a b, hs.2.2⟩ H ls locs hR hv hS <;> omega
theorem r_lcmp_ge (C : Cx x w rm own cc nL ret hx) {a b off : Int} {tgt : Nat} (hd1 : decode cc pc = .ok (.lcmp, 1)) (hdg : decode cc (pc + 1) = .ok (.ifCond .ge off, 3)) (ht : ((pc + 1 : Nat) : Int) + off = (tgt : Int)) (kt : b ≤ a → AW x w nL cl cells slots Q tgt lv st h) (kf : ¬ b ≤ a → AW x w nL cl cells slots Q (pc + 1 + 3) lv st h) : AW x w nL cl cells slots Q pc lv (vL b :: vL a :: st) h := by
  intro hh hl hs H ls locs hR hv hS
  refine W.lcmp C.ex C.by hd1 ?_
  rw [lg_cmp_i hs.2.1 hs.1]
  have hc := cmpJ_s a b
  refine r_if_ge (a := cmpJ a b) C hdg ht (fun q => kt ?_) (fun q => kf ?_) hh hl ⟨cmpJ_ok a b, hs.2.2⟩ H ls locs hR hv hS <;> omega
theorem r_lcmp_gt (C : Cx x w rm own cc nL ret hx) {a b off : Int} {tgt : Nat} (hd1 : decode cc pc = .ok (.lcmp, 1)) (hdg : decode cc (pc + 1) = .ok (.ifCond .gt off, 3)) (ht : ((pc + 1 : Nat) : Int) + off = (tgt : Int)) (kt : b < a → AW x w nL cl cells slots Q tgt lv st h) (kf : ¬ b < a → AW x w nL cl cells slots Q (pc + 1 + 3) lv st h) : AW x w nL cl cells slots Q pc lv (vL b :: vL a :: st) h := by
  intro hh hl hs H ls locs hR hv hS
  refine W.lcmp C.ex C.by hd1 ?_
  rw [lg_cmp_i hs.2.1 hs.1]
  have hc := cmpJ_s a b
  refine r_if_gt (a := cmpJ a b) C hdg ht (fun q => kt ?_) (fun q => kf ?_) hh hl ⟨cmpJ_ok a b, hs.2.2⟩ H ls locs hR hv hS <;> omega
theorem r_lcmp_le (C : Cx x w rm own cc nL ret hx) {a b off : Int} {tgt : Nat} (hd1 : decode cc pc = .ok (.lcmp, 1)) (hdg : decode cc (pc + 1) = .ok (.ifCond .le off, 3)) (ht : ((pc + 1 : Nat) : Int) + off = (tgt : Int)) (kt : a ≤ b → AW x w nL cl cells slots Q tgt lv st h) (kf : ¬ a ≤ b → AW x w nL cl cells slots Q (pc + 1 + 3) lv st h) : AW x w nL cl cells slots Q pc lv (vL b :: vL a :: st) h := by
  intro hh hl hs H ls locs hR hv hS
  refine W.lcmp C.ex C.by hd1 ?_
  rw [lg_cmp_i hs.2.1 hs.1]
  have hc := cmpJ_s a b
  refine r_if_le (a := cmpJ a b) C hdg ht (fun q => kt ?_) (fun q => kf ?_) hh hl ⟨cmpJ_ok a b, hs.2.2⟩ H ls locs hR hv hS <;> omega
theorem r_goto (C : Cx x w rm own cc nL ret hx) {off : Int} {tgt : Nat} (hdg : decode cc pc = .ok (.goto off, 3)) (ht : (pc : Int) + off = (tgt : Int)) (kk : AW x w nL cl cells slots Q tgt lv st h) : AW x w nL cl cells slots Q pc lv st h := by
  intro hh hl hs H ls locs hR hv hS
  obtain ⟨p, l, e, R, s, m, args, below, meth, c⟩ := x
  exact lv_goto C.ex C.by hdg ht (kk hh hl hs H ls locs hR hv hS)
theorem r_tableIn (C : Cx x w rm own cc nL ret hx) {dflt lo hi : Int} {offs : Array Int} {len : Nat} {a off : Int} {tgt : Nat} (hdg : decode cc pc = .ok (.tableswitch dflt lo hi offs, len)) (h1 : lo ≤ a) (h2 : a ≤ hi) (ho : offs[(a - lo).toNat]? = some off) (ht : (pc : Int) + off = (tgt : Int)) (kk : AW x w nL cl cells slots Q tgt lv st h) : AW x w nL cl cells slots Q pc lv (vI a :: st) h := by
  intro hh hl hs H ls locs hR hv hS
  obtain ⟨p, l, e, R, s, m, args, below, meth, c⟩ := x
  have e1 : (Int32.ofInt a).toInt = a := i32_toInt hs.1
  exact lv_tableIn C.ex C.by hdg (by rw [e1]; omega) (by rw [e1]; omega) (by rw [e1]; exact ho) ht (kk hh hl hs.2 H ls locs hR hv hS)
theorem r_tableOut (C : Cx x w rm own cc nL ret hx) {dflt lo hi : Int} {offs : Array Int} {len : Nat} {a : Int} {tgt : Nat} (hdg : decode cc pc = .ok (.tableswitch dflt lo hi offs, len)) (h1 : a < lo ∨ hi < a) (ht : (pc : Int) + dflt = (tgt : Int)) (kk : AW x w nL cl cells slots Q tgt lv st h) : AW x w nL cl cells slots Q pc lv (vI a :: st) h := by
  intro hh hl hs H ls locs hR hv hS
  obtain ⟨p, l, e, R, s, m, args, below, meth, c⟩ := x
  have e1 : (Int32.ofInt a).toInt = a := i32_toInt hs.1
  exact lv_tableOut C.ex C.by hdg (by rw [e1]; exact h1) ht (kk hh hl hs.2 H ls locs hR hv hS)
theorem i32_and31 {a : Int} : Int32.ofInt a &&& Int32.ofInt 31 = Int32.ofInt (a % 32) := by
  have h := pk_and (Int32.ofInt a) (m := Int32.ofInt 31) 5 (by decide)
  rw [h]
  show Int32.ofNat _ = _
  rw [← Int32.ofInt_eq_ofNat]
  congr 1
  rw [Int32.toBitVec_ofInt, BitVec.toNat_ofInt]
  omega
theorem r_iand31 (C : Cx x w rm own cc nL ret hx) {a : Int} (hdg : decode cc pc = .ok (.iand, 1)) (kk : AW x w nL cl cells slots Q (pc + 1) lv (vI (a % 32) :: st) h) : AW x w nL cl cells slots Q pc lv (vI 31 :: vI a :: st) h := by
  intro hh hl hs H ls locs hR hv hS
  obtain ⟨p, l, e, R, s, m, args, below, meth, c⟩ := x
  refine lv_iand C.ex C.by hdg ?_
  rw [i32_and31]
  exact kk hh hl ⟨⟨by omega, by omega⟩, hs.2.2⟩ H ls locs hR hv hS
end ROWS

/-! new int[3][21], by the machine's own meaning of the instruction: the outer array, then three inner ones, each stored as it is made. -/
section QMN
variable {e : Env} {d : Bool} {acts : List Action} {E : CtlPost}
def iC (c : ClassId) : Cell := { cls := c, slots := Array.replicate 21 (.int 0), vm := .none }
def oC (c : ClassId) (b i : Nat) : Cell := arrV c 3 (fun j => if j < i then Value.ref (b + 1 + j) else .null)
theorem oC_zero (c : ClassId) (b : Nat) : ({ cls := c, slots := Array.replicate 3 .null, vm := .none } : Cell) = oC c b 0 := by
  rw [arrV_new]
  unfold oC
  refine congrArg (arrV c 3) (funext fun j => ?_)
  rw [if_neg (Nat.not_lt_zero _)]
theorem oC_next (c : ClassId) (b i : Nat) : (oC c b i).setSlot i (.ref (b + 1 + i)) = oC c b (i + 1) := by
  unfold oC
  rw [arrV_store]
  refine congrArg (arrV c 3) (funext fun j => ?_)
  unfold updV
  by_cases q : j = i
  · subst q
    rw [if_pos rfl, if_pos (Nat.lt_succ_self _)]
  · rw [if_neg q]
    show (if j < i then Value.ref (b + 1 + j) else .null) = _
    by_cases z : j < i
    · rw [if_pos z, if_pos (Nat.lt_succ_of_lt z)]
    · rw [if_neg z, if_neg (by omega)]
/-- the state with the outer array and i inner ones -/
def mnS (U : State) (cO cI : ClassId) : Nat → State
  | 0 => U.pushCell (oC cO U.heap.size 0)
  | i + 1 => ((mnS U cO cI i).pushCell (iC cI)).setCell U.heap.size (oC cO U.heap.size (i + 1))
theorem mn_top (U : State) (cO cI : ClassId) (f : JFrame) : ∀ i : Nat, mnS (U.setTop f) cO cI i = (mnS U cO cI i).setTop f
  | 0 => rfl
  | i + 1 => by
    show ((mnS (U.setTop f) cO cI i).pushCell (iC cI)).setCell U.heap.size (oC cO U.heap.size (i + 1)) = _
    rw [mn_top U cO cI f i]
    rfl
theorem mn_vm (U : State) (cO cI : ClassId) : ∀ i : Nat, (mnS U cO cI i).vm = U.vm
  | 0 => rfl
  | i + 1 => mn_vm U cO cI i
theorem mn_fits (U : State) (cO cI : ClassId) : ∀ i : Nat, (mnS U cO cI i).fitsSlot = U.fitsSlot
  | 0 => rfl
  | i + 1 => mn_fits U cO cI i
theorem mn_size (U : State) (cO cI : ClassId) : ∀ i : Nat, (mnS U cO cI i).heap.size = U.heap.size + 1 + i
  | 0 => by
    show (U.heap.push _).size = _
    rw [Array.size_push]
  | i + 1 => by
    show (((mnS U cO cI i).heap.push _).setIfInBounds _ _).size = _
    rw [Array.size_setIfInBounds, Array.size_push, mn_size U cO cI i]
    rfl
theorem mn_used (U : State) (cO cI : ClassId) : ∀ i : Nat, (mnS U cO cI i).slotsUsed = U.slotsUsed + 3 + 21 * i
  | 0 => by
    show U.slotsUsed + (oC cO U.heap.size 0).slots.size = _
    unfold oC
    rw [arrV_size]
  | i + 1 => by
    show (mnS U cO cI i).slotsUsed + (iC cI).slots.size = _
    rw [mn_used U cO cI i]
    unfold iC
    rw [Array.size_replicate]
    omega
theorem mn_out (U : State) (cO cI : ClassId) : ∀ i : Nat, (mnS U cO cI i).heap[U.heap.size]? = some (oC cO U.heap.size i)
  | 0 => by
    show (U.heap.push _)[U.heap.size]? = _
    rw [Array.getElem?_push_size]
  | i + 1 => by
    show (((mnS U cO cI i).heap.push (iC cI)).setIfInBounds U.heap.size _)[U.heap.size]? = _
    rw [Array.getElem?_setIfInBounds, if_pos rfl, if_pos (by rw [Array.size_push, mn_size]; omega)]
theorem mn_other (U : State) (cO cI : ClassId) (i : Nat) {q : Nat} (hq : q ≠ U.heap.size) (hl : q < U.heap.size + 1 + i) : (mnS U cO cI (i + 1)).heap[q]? = (mnS U cO cI i).heap[q]? := by
  show (((mnS U cO cI i).heap.push (iC cI)).setIfInBounds U.heap.size _)[q]? = _
  rw [Array.getElem?_setIfInBounds, if_neg (fun z => hq z.symm), Array.getElem?_push, if_neg (by rw [mn_size]; omega)]
theorem mn_old (U : State) (cO cI : ClassId) {q : Nat} (hq : q < U.heap.size) : ∀ i : Nat, (mnS U cO cI i).heap[q]? = U.heap[q]?
  | 0 => by
    show (U.heap.push _)[q]? = _
    rw [Array.getElem?_push, if_neg (Nat.ne_of_lt hq)]
  | i + 1 => by rw [mn_other U cO cI i (Nat.ne_of_lt hq) (by omega), mn_old U cO cI hq i]
theorem mn_row (U : State) (cO cI : ClassId) : ∀ i j : Nat, j < i → (mnS U cO cI i).heap[U.heap.size + 1 + j]? = some (iC cI)
  | 0, j, h => absurd h (Nat.not_lt_zero _)
  | i + 1, j, h => by
    by_cases z : j = i
    · subst z
      show (((mnS U cO cI j).heap.push (iC cI)).setIfInBounds U.heap.size _)[U.heap.size + 1 + j]? = _
      rw [Array.getElem?_setIfInBounds, if_neg (by omega), Array.getElem?_push, if_pos (by rw [mn_size])]
    · rw [mn_other U cO cI i (by omega) (by omega)]
      exact mn_row U cO cI i j (by omega)
/-- the inner array -/
theorem mk_inner {S : State} {cI comp : ClassId} {k : Class} {Q : Addr → Pre} (hk : S.vm.classes[cI]? = some k) (hkind : k.kind = .array comp .int) (hl : 21 ≤ e.platform.arrayLengthLimit) (hh : 84 ≤ e.platform.maxHeapBytes)
    (hc : S.heap.size < e.platform.maxCells) (hs : S.slotsUsed + 21 ≤ e.platform.maxSlots) (hq : ∀ a, Q S.heap.size d a (S.pushCell (iC cI))) : wp (Op.multianewarray.make cI [Int32.ofInt 21]) Q E e d acts S := by
  have n0 : ¬ (Int32.ofInt 21 < 0) := by decide
  rw [Op.multianewarray.make]
  simp only [wp_bind', _root_.Jvm.W.ite, n0, if_false, wp_pure', _root_.Jvm.W.theClass, hk, Option.some.injEq, exists_eq_left', hkind]
  exact _root_.Jvm.W.newArray_of (howMany := 21) hk hkind (by omega) (by show ¬ 21 * 4 > _; omega) hc hs rfl hq
/-- both -/
theorem mk_outer {S : State} {cO cI comp : ClassId} {kO kI : Class} {Q : Addr → Pre} (hkO : S.vm.classes[cO]? = some kO) (hkindO : kO.kind = .array cI (.array .int)) (hk : S.vm.classes[cI]? = some kI) (hkind : kI.kind = .array comp .int) (hl : 21 ≤ e.platform.arrayLengthLimit) (hh : 84 ≤ e.platform.maxHeapBytes)
    (hc : S.heap.size + 4 ≤ e.platform.maxCells) (hs : S.slotsUsed + 66 ≤ e.platform.maxSlots) (hq : ∀ d' a, Q S.heap.size d' a (mnS S cO cI 3)) : wp (Op.multianewarray.make cO [Int32.ofInt 3, Int32.ofInt 21]) Q E e d acts S := by
  have n0 : ¬ (Int32.ofInt 3 < 0) := by decide
  have n1 : ¬ ((Int32.ofInt 3 == 0) = true) := by decide
  have fit : ∀ j a, S.fitsSlot cO .none j (.ref a) = true := fun j a => by simp [State.fitsSlot, State.slotType?, hkO, hkindO]; rfl
  have stp : ∀ (i : Nat) (d' : Bool) (a' : List Action) (P : Addr → Pre), i < 3 → (∀ aa, P (S.heap.size + 1 + i) d' aa ((mnS S cO cI i).pushCell (iC cI))) → wp (Op.multianewarray.make cI [Int32.ofInt 21]) P E e d' a' (mnS S cO cI i) := by
    intro i d' a' P hi hP
    refine mk_inner (by rw [mn_vm]; exact hk) hkind hl hh (by rw [mn_size]; omega) (by rw [mn_used]; omega) fun a => ?_
    rw [mn_size]
    exact hP a
  have wrt : ∀ (i : Nat) (d' : Bool) (a' : List Action) (P : Unit → Pre), i < 3 → (∀ aa, P () true aa (mnS S cO cI (i + 1))) → wp (Jvm.writeLoc S.heap.size i (.ref (S.heap.size + 1 + i))) P E e d' a' ((mnS S cO cI i).pushCell (iC cI)) := by
    intro i d' a' P hi hP
    rw [_root_.Jvm.W.writeLoc]
    refine ⟨oC cO S.heap.size i, ?_, (fun z => by cases z), ?_, ?_, ?_⟩
    · show ((mnS S cO cI i).heap.push _)[S.heap.size]? = _
      rw [Array.getElem?_push, if_neg (by rw [mn_size]; omega), mn_out]
    · unfold oC
      rw [arrV_size]
      exact hi
    · show (mnS S cO cI i).fitsSlot cO .none i _ = true
      rw [mn_fits]
      exact fit _ _
    · rw [oC_next]
      exact hP _
  rw [Op.multianewarray.make]
  simp only [wp_bind', _root_.Jvm.W.ite, n0, n1, if_false, wp_pure', _root_.Jvm.W.theClass, hkO, Option.some.injEq, exists_eq_left', hkindO]
  refine _root_.Jvm.W.newArray_of (howMany := 3) hkO hkindO (by omega) (by show ¬ 3 * 4 > _; omega) (by omega) (by omega) rfl fun a1 => ?_
  have e3 : (Int32.ofInt 3).toNatClampNeg = 3 := by decide
  rw [oC_zero cO S.heap.size, e3]
  simp only [Std.Legacy.Range.forIn_eq_forIn_range', Bool.false_eq_true, if_false, wp_bind']
  show wp (forIn [0, 1, 2] PUnit.unit _) _ E e _ _ (mnS S cO cI 0)
  simp only [List.forIn_cons, List.forIn_nil, wp_bind', wp_pure']
  refine stp 0 _ _ _ (by omega) fun b1 => ?_
  simp only [wp_bind', wp_pure']
  refine wrt 0 _ _ _ (by omega) fun c1 => ?_
  simp only [wp_bind', wp_pure']
  refine stp 1 _ _ _ (by omega) fun b2 => ?_
  simp only [wp_bind', wp_pure']
  refine wrt 1 _ _ _ (by omega) fun c2 => ?_
  simp only [wp_bind', wp_pure']
  refine stp 2 _ _ _ (by omega) fun b3 => ?_
  simp only [wp_bind', wp_pure']
  refine wrt 2 _ _ _ (by omega) fun c3 => ?_
  simp only [wp_bind', wp_pure']
  exact hq _ _
end QMN
section QMS
variable {p : Program} {l : Launch} {e : Env} {R : Room} {s : State} {m : MethodId} {args : Array Value} {below : List Frame} {meth : Method} {c : Code} {H : Heap} {locs : List Loc} {cells slots : Nat} {Q : State → Prop}
theorem mn_stand {U : State} {cO cI : ClassId} (X : Stand p l e R s m args below meth c U locs cells slots) (hz : s.heap.size ≤ U.heap.size) : ∀ i : Nat, Stand p l e R s m args below meth c (mnS U cO cI i) locs (cells + 1 + i) (slots + 3 + 21 * i)
  | 0 => by
    have h := X.pushed (oC cO U.heap.size 0)
    have z : (oC cO U.heap.size 0).slots.size = 3 := by
      unfold oC
      rw [arrV_size]
    rw [z] at h
    exact h
  | i + 1 => by
    have h := (mn_stand (cO := cO) (cI := cI) X hz i).pushed (iC cI)
    have z : (iC cI).slots.size = 21 := by
      unfold iC
      rw [Array.size_replicate]
    rw [z] at h
    have k := h.stored (a := U.heap.size) (cell := oC cO U.heap.size i) (by
      show ((mnS U cO cI i).heap.push _)[U.heap.size]? = _
      rw [Array.getElem?_push, if_neg (by rw [mn_size]; omega), mn_out]) i (.ref (U.heap.size + 1 + i))
    rw [oC_next] at k
    have k2 := Stand.forget k (fun y hy => by
      rw [List.mem_singleton.mp hy]
      exact hz)
    have e1 : slots + 3 + 21 * (i + 1) = slots + 3 + 21 * i + 21 := by omega
    rw [e1]
    exact k2
theorem q_mna (hexec : p.tables.exec = Jvm.exec) {own : String} {index : Nat} (hown : s.vm.findClass own = some m.cls) (hclink : (Cond.classLink own index "[[I").before args s = true) (hover : (Cond.arrayOver (.array .int)).before args s = true) (harr : (Cond.arrayClass .int).before args s = true) (hsz : s.heap.size ≤ H.size)
    {g : JFrame} (hg : g.method = m) (hdg : decode c.code g.pc = .ok (.multianewarray index 2, 4)) {rest : List Value} (hst : g.stack = .int (Int32.ofInt 21) :: .int (Int32.ofInt 3) :: rest) (hcells : cells + 4 ≤ R.cells) (hslots : slots + 66 ≤ R.slots)
    (kk : ∀ (cO cI : ClassId) (H1 : Heap), s.vm.findClass "[[I" = some cO → s.vm.findClass "[I" = some cI → H1.size = H.size + 4 → H1[H.size]? = some (oC cO H.size 3) → (∀ j : Nat, j < 3 → H1[H.size + 1 + j]? = some (iC cI)) → (∀ q : Nat, q < H.size → H1[q]? = H[q]?) →
      W p l e R s m args below meth c H1 locs (cells + 4) (slots + 66) Q { g with pc := g.pc + 4, stack := .ref H.size :: rest }) : W p l e R s m args below meth c H locs cells slots Q g := by
  intro T hT X
  subst hT
  subst hg
  have hpl : e.platform.magicAccessors = ({} : Platform).magicAccessors := by rw [X.admits.platform]
  have es : "[" ++ (FieldType.array .int).toString = "[[I" := by decide
  have et : (FieldType.array .int).toString = "[I" := by decide
  have eu : "[" ++ FieldType.int.toString = "[I" := by decide
  obtain ⟨cI, cO, kO, f1, -, hkO, hkindO, f2⟩ := arrayOverA_spec hover
  obtain ⟨cI2, kI, compI, f3, hkI, hkindI⟩ := Cond.arrayClass_spec harr
  rw [et] at f1
  rw [es] at f2
  rw [eu] at f3
  cases f1.symm.trans f3
  obtain ⟨cO2, f4, hcl⟩ := Cond.classLink_spec hown hclink e.platform hpl
  cases f2.symm.trans f4
  obtain ⟨hg1, hw1, -⟩ := State.classEntry (e := e) X.warmed hcl
  generalize T.vm.noted g.method.cls index (.cls cO) = vm1 at hg1 hw1
  obtain ⟨kO1, hkO1, eO⟩ := hw1.alike.2.2 _ _ hkO
  obtain ⟨kI1, hkI1, eI⟩ := hw1.alike.2.2 _ _ hkI
  have X3 := mn_stand (cO := cO) (cI := cI) (X.noted hw1) (show s.heap.size ≤ T.heap.size from hsz) 3
  obtain ⟨r1, r2⟩ := X.roomAbove hcells hslots
  obtain ⟨t, a1, b1⟩ := kk cO cI (mnS (T.setVm vm1) cO cI 3).heap f2 f1 (mn_size (T.setVm vm1) cO cI 3) (mn_out (T.setVm vm1) cO cI 3) (fun j hj => mn_row (T.setVm vm1) cO cI 3 j hj) (fun q hq => mn_old (T.setVm vm1) cO cI hq 3) (mnS (T.setVm vm1) cO cI 3) rfl X3
  refine ⟨t, ?_, b1⟩
  have key : ∀ (P : Unit → Pre) (E : CtlPost), (∀ d' a', P () d' a' ((mnS (T.setVm vm1) cO cI 3).setTop { g with stack := .ref T.heap.size :: rest })) → wp (Op.multianewarray.sem index 2) P E e false [] (T.setTop g) := by
    intro P E hP
    rw [Op.multianewarray.sem]
    simp only [wp_bind']
    rw [_root_.Jvm.W.resolveClassAt_links (t := T.setTop g) (State.method?_setTop g X.here.top) hg1]
    rw [wp_bind', _root_.Jvm.W.popN, if_neg (by decide)]
    refine ⟨g, State.topJava?_setTop' g (s := T.setVm vm1) X.here.top, [.int (Int32.ofInt 3), .int (Int32.ofInt 21)], rest, rfl, hst, ?_⟩
    simp only [List.mapM_cons, List.mapM_nil, wp_bind', wp_pure']
    have ez : (((T.setTop g).setVm vm1).setTop { g with stack := rest }) = (T.setVm vm1).setTop { g with stack := rest } := by
      rw [State.setVm_setTop, State.setTop_setTop]
    rw [ez]
    refine mk_outer (S := (T.setVm vm1).setTop { g with stack := rest }) (kO := kO1) (kI := kI1) (comp := compI) hkO1 (by rw [eO]; exact hkindO) hkI1 (by rw [eI]; exact hkindI) (by rw [Launch.admits_arrayLengthLimit X.admits]; decide) (by rw [Launch.admits_maxHeapBytes X.admits]; decide) r1 r2 fun d2 a2 => ?_
    rw [mn_top]
    simp only [_root_.Jvm.W.mark, _root_.Jvm.W.pushRef, wp_bind']
    refine ⟨_, State.topJava?_setTop' _ X3.here.top, ?_⟩
    rw [State.setTop_setTop]
    exact hP _ _
  refine Steps.instr (c := c) (by simpa using X.here) ?_
  rw [hdg]
  show wpRun (p.tables.exec (.multianewarray index 2)) _ _ e (T.setTop g)
  rw [hexec]
  refine key _ _ fun d' a' => ?_
  intro acts
  simp only [afterInstr, State.modifyTopJava_setTop]
  exact a1
end QMS

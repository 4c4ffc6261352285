/-! Constructors: contracts and calls. -/
def nestL : List (String × Nat × MethodName × String) := [(R_H, 18, y_U_init, R_H), (R_H, 25, y_M_init, R_H), (R_H, 32, y_P_init, R_H), (R_H, 39, y_S_init, R_H), (R_H, 46, y_A_init, R_H)]
def QP (w : XW) (E : EX) (h : AH) (sz : Nat) (s : State) (o : Outcome) (t : State) : Prop := o = .returned none ∧ okH h ∧ ZB E h ∧ PRp w E h t.heap ∧ t.heap.size = sz ∧ va_F (inU w s.heap.size) s t
def PQ (x : MX) (w : XW) (mc ms : Nat) (E : EX) (h : AH) (sz : Nat) : State → Prop := fun t => ∃ o, t.status = .running ∧ Ended t x.below o ∧ QP w E h sz x.s o t ∧ FE false w x.s o t mc ms
def aoA (U : State) : Prop := (Cond.arrayOver (.array .int)).before #[] U = true
theorem aoA.of {A : Array Value} {U : State} (h : (Cond.arrayOver (.array .int)).before A U = true) : aoA U := h
theorem aoA.use {A : Array Value} {U : State} (h : aoA U) : (Cond.arrayOver (.array .int)).before A U = true := h
theorem aoA.moved {u U : State} (hvm : u.vm.Alike U.vm) (h : aoA u) : aoA U := by
  obtain ⟨comp, c, k, h1, h2, h3, h4, h5⟩ := arrayOverA_spec h
  obtain ⟨k', hk', he⟩ := hvm.2.2 _ _ h3
  have hi : (U.vm.classes.findIdx? fun (x : Class) => match x.kind with | .array component _ => component == comp | _ => false) = some c := by
    rw [hvm.findIdx?_eq _ (fun _ => rfl)]
    exact h2
  have hkind : k'.kind = .array comp (.array .int) := by rw [he]; exact h4
  have f1 : U.vm.findClass (FieldType.array .int).toString = some comp := by rw [hvm.findClass]; exact h1
  have f2 : U.vm.findClass ("[" ++ (FieldType.array .int).toString) = some c := by rw [hvm.findClass]; exact h5
  unfold aoA Cond.before Cond.holds
  simp only [Cond.value]
  rw [f1, Option.bind_some]
  refine (congrArg (fun o : Option Nat => (o.bind (fun c => (U.vm.classes[c]?).map fun (k : Class) => match k.kind with | .array _ ty => decide (ty = FieldType.array .int) && decide (U.vm.findClass ("[" ++ (FieldType.array .int).toString) = some c) | _ => false) == some true)) hi).trans ?_
  simp [hk', hkind, f2]
/-- words beside the tables' that constructors ask -/
def KN (U : State) : Prop := (∀ q ∈ nestL, va_Nw (.methodLinkNest q.1 q.2.1 q.2.2.1 q.2.2.2) U) ∧ va_AO R_F U ∧ aoA U
theorem KN.warm {s U : State} (hW : s.WarmedH U.vm) (k : KN s) : KN U := ⟨fun q hq => va_Nw.warmM hW (k.1 q hq), va_AO.moved hW.alike k.2.1, aoA.moved hW.alike k.2.2⟩
def PM (l : Launch) (y : MethodName) (ws : List Cond) (rm : Room) (w : XW) (as : List AV) (E : EX) (h : AH) (sz : Nat) (E' : EX) (h' : AH) (sz' : Nat) : Prop :=
  okH h → ZB E h → okS as → adInj w → MetFree l y (headSpec ws rm) (fun a U => a = (as.map (cV w)).toArray ∧ (PRp w E h U.heap ∧ U.heap.size = sz) ∧ KW w U ∧ KN U) (fun _ _ _ _ _ => True) (fun _ st o t => QP w E' h' sz' st o t ∧ FE false w st o t rm.cells rm.slots)
theorem PM.of {l : Launch} (hl : l.stackTraces = false) {y : MethodName} {rm : Room} {w : XW} {as : List AV} {E E' : EX} {h h' : AH} {sz sz' : Nat} {cc : ByteArray} {nL : Nat} {ret : Option FieldType} {hs : List (Nat × Nat × Nat × Nat)}
    (hy : plainFor y = true) (hn : nargs as ≤ nL) (body : ∀ x : MX, x.l.stackTraces = false → Cx x w rm y.cls cc nL ret hs → (x.meth.name = y.name) → KN x.s → PW x w nL 0 0 (PQ x w rm.cells rm.slots E' h' sz') 0 (aargs 0 as) [] E h sz) : PM l y (wsM y cc nL ret hs) rm w as E h sz E' h' sz' := by
  intro hh hb has hij
  refine MetFree.of_bodySF (code := cc) (maxLocals := nL) (ret := ret) hy ?_ ?_
  · intro args s m hp hnm
    obtain ⟨meth, c, h1, h2, h3, h4, h5, h6, -, -⟩ := codeW_spec hnm (atoms_spec (ws := wsM y cc nL ret hs) hp _ List.mem_cons_self)
    exact ⟨meth, c, h1, h2, h3, h4, h5, h6⟩
  · intro p e s m args below meth c s₁ B hml hP _
    obtain ⟨rfl, ⟨hR, hz⟩, hK, hN⟩ := hP
    have hts := atoms_spec (ws := wsM y cc nL ret hs) B.pre
    have hh0 : s₁.heap = s.heap := by rw [B.state]; rfl
    obtain ⟨meth', c', h1, h2, h3, h4, h5, h6, h7, h8⟩ := codeW_spec B.named (hts _ List.mem_cons_self)
    have hcc : c' = c := by
      have h9 := (Stand.of_body B).code
      cases h1.symm.trans B.method
      exact Option.some.inj (h2.symm.trans h9)
    subst hcc
    have X0 := Stand.of_body B
    have htr : e.platform.stackTraces = false := by rw [X0.admits.platform]; exact hl
    have C : Cx (p, l, e, rm, s, m, (as.map (cV w)).toArray, below, meth, c') w rm y.cls cc nL ret hs :=
      ⟨B.exec, B.bytes, hml, findClass_of_methodNamed B.named, B.notSynchronized, B.returns, rfl, fun k hk => hts k (List.mem_cons_of_mem _ hk), hK, hij, htr, h7⟩
    have hlv := lv_entry (as.map (cV w)) (n := nL) (by rw [nargs_len]; exact hn)
    rw [← aargs_map] at hlv
    have k := body _ hl C (name_of_methodNamed B.named B.method).1 hN hh hb (aargs_ok has 0) trivial s.heap _ [] hR hz hlv va_S.rf
    rw [lg_entry_eq]
    obtain ⟨t, a1, o, b1, b2, b3, b4⟩ := k s₁ hh0 X0
    exact ⟨t, o, a1, b1, b2, b3, b4⟩
section PCALLS
variable {x : MX} {w : XW} {rm : Room} {own : String} {cc : ByteArray} {nL : Nat} {ret : Option FieldType} {hx : List (Nat × Nat × Nat × Nat)} {cells slots pc sz sz' mc ms : Nat} {Q : State → Prop} {lv : List (Nat × AV)} {st : List AV} {E E' : EX} {h h' : AH}
theorem p_vret (C : Cx x w rm own cc nL none hx) (hdg : decode cc pc = .ok (.return_, 1)) (hc : cells ≤ mc ∧ slots ≤ ms) : PW x w nL cells slots (PQ x w mc ms E h sz) pc lv [] E h sz := by
  intro hh hb hl hs H ls locs hR hz hv hS
  have hlocks : x.meth.locks = false := C.lk
  refine xW.mono (W.vret (Qc := fun _ _ o t => o = .returned none ∧ t.heap = H) (free := fun b => ∃ l ∈ locs, l.base = b) C.ex C.by C.rt (fun t ht _ => ⟨rfl, ht⟩) (fun q hq => ⟨q, hq, rfl⟩) hdg hlocks) fun t ht => ?_
  obtain ⟨o, h1, h2, ⟨rfl, hH⟩, L, ⟨-, hW, hsame⟩, hL⟩ := ht
  refine ⟨_, h1, h2, ⟨rfl, hh, hb, by rw [hH]; exact hR, by rw [hH]; exact hz, hS.F hH⟩, hW, ⟨L, hsame.mono hc.1 hc.2, fun q hq => ?_⟩, fun q => by cases q⟩
  obtain ⟨l, h3, h4⟩ := hL q hq
  rw [← h4]
  exact hS.2.2 l h3
variable {y : MethodName} {cY : ByteArray} {nY : Nat} {index : Nat} {rmY : Room}
/-- the words of a constructor that is called -/
def ILk (own : String) (index : Nat) (y : MethodName) (cY : ByteArray) (nY : Nat) : Prop := y.name = "<init>" ∧ (Cond.methodLink own index y ∈ GW ∨ ∃ host, (own, index, y, host) ∈ nestL) ∧ Cond.instanceMethod y ∈ GW ∧ Cond.code y cY nY none ∈ GW ∧ Cond.initialized y.cls ∈ GW ∧ (y.cls ≠ "java/lang/invoke/MethodHandle" ∧ y.cls ≠ "java/lang/invoke/VarHandle") ∧ (parseMethodDescriptor y.desc).map (fun d => d.parameters.length) = some 0
theorem inv_I (C : Cx x w rm own cc nL ret hx) (hN : KN x.s) (L : ILk own index y cY nY) {T : State} {locs : List Loc} (X : xStand x T locs cells slots) {b : Addr} {g : JFrame} (hg : g.method = x.m) {rest : List Value} (hstack : g.stack = .ref b :: rest) (hdg : decode cc g.pc = .ok (.invokespecial index, 3)) : Inv x y T locs cells slots g [.ref b] rest := by
  obtain ⟨p, l, e, R, s, m, args, below, meth, c⟩ := x
  obtain ⟨hy1, hlk, hinst, hcode, hini, hy, hlen⟩ := L
  subst hg
  have hpl : e.platform.magicAccessors = ({} : Platform).magicAccessors := by rw [X.admits.platform]
  have hlen' : ∀ sig, parseMethodDescriptor y.desc = some sig → ([] : List Value).length = sig.parameters.length := fun sig hs => by
    rw [hs] at hlen
    exact (Option.some.inj hlen).symm
  rcases hlk with hl | ⟨host, hl⟩
  · obtain ⟨mk, methM, cM, kP, vm₁, hnamed, hmethM, hcodeM, -, hlocalsM, -, hkP, -, hW₁, hstep₁⟩ := Steps.initColdArgs (e := e) X.here C.ex X.warmed hpl C.ow hy1 hy (C.ws _ hl) (C.ws _ hinst) (C.ws _ hcode) (f := g) rfl (argsL := []) hlen' hstack (by rw [C.by]; exact hdg)
    have X₁ := X.noted hW₁
    exact ⟨vm₁, mk, X₁, X₁.named hnamed, fun target h => hstep₁ _ fun acts => by rw [doInvoke_state]; exact h⟩
  · obtain ⟨mk, methM, cM, kP, vm₁, hnamed, hmethM, hcodeM, -, hlocalsM, -, hkP, -, hW₁, hstep₁⟩ := Steps.initColdArgsNest (e := e) X.here C.ex X.warmed hpl C.ow hy1 hy (va_Nw.use (A := args) rfl (hN.1 _ hl)) (C.ws _ hinst) (C.ws _ hcode) (f := g) rfl (argsL := []) hlen' hstack (by rw [C.by]; exact hdg)
    have X₁ := X.noted hW₁
    exact ⟨vm₁, mk, X₁, X₁.named hnamed, fun target h => hstep₁ _ fun acts => by rw [doInvoke_state]; exact h⟩
theorem p_run (C : Cx x w rm own cc nL ret hx) (hN : KN x.s) {retY : Option FieldType} (hcw : Cond.code y cY nY retY ∈ GW) (hini : Cond.initialized y.cls ∈ GW) {as : List AV} (hM : PM x.l y (wsM y cY nY retY []) rmY w as E h sz E' h' sz') (has : okS as) {ig : Instr} (hdg : decode cc pc = .ok (ig, 3))
    (hrm : rmY.frames + 1 ≤ rm.frames ∧ 8 + (nY + 11) + rmY.locals ≤ rm.locals ∧ cells + rmY.cells ≤ rm.cells ∧ slots + rmY.slots ≤ rm.slots) (hst : nargs st ≤ 8) {st0 : List AV}
    (hinv : ∀ (T : State) (locs : List Loc) (ls : Array Slot), xStand x T locs cells slots → ls.size = nL → Inv x y T locs cells slots (F0 x.m pc ls (st0.map (cV w))) (as.map (cV w)) (st.map (cV w))) (hs0 : okS st0 → okS st)
    (kk : PW x w nL (cells + rmY.cells) (slots + rmY.slots) Q (pc + 3) lv st E' h' sz') : PW x w nL cells slots Q pc lv st0 E h sz := by
  intro hh hb hl hs H ls locs hR hz hv hS T hT X
  subst hT
  obtain ⟨vm₁, mk, X₁, hn, hstep⟩ := hinv T locs ls X hv.1
  have hpay : ∀ k ∈ GW, ∀ (a' : Array Value) (U : State), x.s.WarmedH U.vm → k.before a' U = true := fun k hk a' U hW => word_at hW (GWgood k hk) (C.ws k hk)
  have hcode1 : (codeW y cY nY retY []).before (as.map (cV w)).toArray (T.setVm vm₁) = true := hpay _ hcw _ _ X₁.warmed
  obtain ⟨methY, cY', hmY, hcY, -, hlY, -, -, -, -⟩ := codeW_spec hn hcode1
  have hRm : x.R = rm := C.ro
  obtain ⟨o, t, ⟨⟨ho, hok', hb', hR', hz', hF⟩, hWt, ⟨L', hsb, hL'⟩, -⟩, hgo⟩ := x_back (g := { F0 x.m pc ls (st0.map (cV w)) with stack := st.map (cV w) }) (len := 3) (Wd := 8) (maxL := nY) (hM hh hb has C.ij)
    (by rw [hRm]; exact hrm.1) (by rw [hRm]; exact hrm.2.1) X₁ rfl (by rw [C.ml]; exact hv.1) (ig := ig) (by rw [C.by]; exact hdg) (by show 2 * 0 + ((st.map (cV w)).map fun v => v.category).sum ≤ 8; rw [sum_cat]; omega) hn
    (atoms_intro fun k hk => by
      rcases List.mem_cons.mp hk with e | e
      · rw [e]; exact hcode1
      · exact hpay k e _ _ X₁.warmed) hmY hcY hlY (hpay _ hini _ _ X₁.warmed) (by rw [hRm]; exact hrm.2.2.1) (by rw [hRm]; exact hrm.2.2.2)
    ⟨rfl, ⟨hR, hz⟩, KW.at (U := (T.setVm vm₁).calling { F0 x.m pc ls (st0.map (cV w)) with stack := st.map (cV w) } mk (as.map (cV w)).toArray) C.kw X₁.warmed hS, KN.warm (U := (T.setVm vm₁).calling { F0 x.m pc ls (st0.map (cV w)) with stack := st.map (cV w) } mk (as.map (cV w)).toArray) X₁.warmed hN⟩
  have hWt' : (T.setVm vm₁).WarmedH t.vm := hWt
  have hF' : va_F (inU w T.heap.size) T t := hF
  have hs1 : va_S (inU w x.s.heap.size) x.s.heap t.heap (locs ++ L') := by
    obtain ⟨f1, f2⟩ := hF'
    obtain ⟨g1, g2, g3⟩ := hS
    refine ⟨Nat.le_trans g1 f1, fun q h1 h2 => ?_, fun q hq => ?_⟩
    · rw [f2 q (Nat.lt_of_lt_of_le h1 g1) fun z => h2 (by
        rcases z with z | z
        · exact Or.inl z
        · exact Or.inr (by omega)), g2 q h1 h2]
    · rcases List.mem_append.mp hq with z | z
      · exact g3 q z
      · rcases hL' q z with z | z
        · exact Or.inl z
        · exact Or.inr (Nat.le_trans g1 z)
  obtain ⟨X2, g1, -⟩ := hgo L' rmY.cells rmY.slots hWt' hsb
  obtain ⟨t2, a2, b2⟩ := kk hok' hb' hl (hs0 hs) t.heap ls (locs ++ L') hR' hz' hv hs1 (xB (T.setVm vm₁) t) rfl X2
  exact ⟨t2, hstep _ ((g1 none ho).trans a2), b2⟩
/-- a constructor without arguments -/
theorem p_init (C : Cx x w rm own cc nL ret hx) (hN : KN x.s) (L : ILk own index y cY nY) {t i : Nat} (hM : PM x.l y (wsM y cY nY none []) rmY w [vO t i] E h sz E' h' sz') (hi : i < cntT t) (hdg : decode cc pc = .ok (.invokespecial index, 3))
    (hrm : rmY.frames + 1 ≤ rm.frames ∧ 8 + (nY + 11) + rmY.locals ≤ rm.locals ∧ cells + rmY.cells ≤ rm.cells ∧ slots + rmY.slots ≤ rm.slots) (hst : nargs st ≤ 8) (kk : PW x w nL (cells + rmY.cells) (slots + rmY.slots) Q (pc + 3) lv st E' h' sz') : PW x w nL cells slots Q pc lv (vO t i :: st) E h sz :=
  p_run C hN L.2.2.2.1 L.2.2.2.2.1 hM ⟨hi, trivial⟩ hdg hrm hst (fun T locs ls X _ => inv_I C hN L X rfl rfl hdg) (fun z => z.2) kk
/-- a static method -/
theorem p_callS (C : Cx x w rm own cc nL ret hx) (hN : KN x.s) {n : Nat} (L : CLk own index y cY nY none [] n) (hi : Cond.static y ∈ GW) {as : List AV} (hM : PM x.l y (wsM y cY nY none []) rmY w as E h sz E' h' sz') (has : okS as) (hn : as.length = n) (hdg : decode cc pc = .ok (.invokestatic index, 3))
    (hrm : rmY.frames + 1 ≤ rm.frames ∧ 8 + (nY + 11) + rmY.locals ≤ rm.locals ∧ cells + rmY.cells ≤ rm.cells ∧ slots + rmY.slots ≤ rm.slots) (hst : nargs st ≤ 8) (kk : PW x w nL (cells + rmY.cells) (slots + rmY.slots) Q (pc + 3) lv st E' h' sz') : PW x w nL cells slots Q pc lv (as.reverse ++ st) E h sz :=
  p_run C hN L.2.1 L.2.2.1 hM has hdg hrm hst (fun T locs ls X _ => inv_S C L hi X rfl (by rw [List.length_map]; exact hn) (by show (as.reverse ++ st).map (cV w) = _; rw [List.map_append, List.map_reverse]) hdg) (fun z => (okS_app z).2) kk
end PCALLS

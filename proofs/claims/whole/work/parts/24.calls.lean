/-! Contracts, calls, ends. -/
abbrev AO : Type := Option AV ⊕ Nat
def excR (k a : Nat) (t : State) : Prop := ∃ cell : Cell, t.heap[a]? = some cell ∧ cell.vm.isStatics = false ∧ t.vm.findClass (exN k) = some cell.cls
def outR (w : XW) (t : State) (ao : AO) (o : Outcome) : Prop := match ao with
  | .inl none => o = .returned none
  | .inl (some v) => o = .returned (some (cV w v)) ∧ okV v
  | .inr k => ∃ a, o = .threw a ∧ excR k a t
def QA (w : XW) (Qa : AO → AH → Prop) (s : State) (o : Outcome) (t : State) : Prop := ∃ ao h', Qa ao h' ∧ okH h' ∧ outR w t ao o ∧ HRep w h' t.heap ∧ va_F (inU w s.heap.size) s t
def FE (pu : Bool) (w : XW) (s : State) (o : Outcome) (t : State) (mc ms : Nat) : Prop := s.WarmedH t.vm ∧ (∃ L, s.sameButNew ({ t with vm := s.vm } : State) L mc ms ∧ ∀ q ∈ L, inU w s.heap.size q.base) ∧ (pu = true → ∀ v, o = .returned v → t.heap = s.heap ∧ s.sameButNew ({ t with vm := s.vm } : State) [] 0 0)
def AQ (x : MX) (w : XW) (pu : Bool) (mc ms : Nat) (Qa : AO → AH → Prop) : State → Prop := fun t => ∃ o, t.status = .running ∧ Ended t x.below o ∧ QA w Qa x.s o t ∧ FE pu w x.s o t mc ms
/-- a method's contract, at these arguments and this heap -/
def AM (l : Launch) (y : MethodName) (ws : List Cond) (pu : Bool) (rm : Room) (w : XW) (as : List AV) (h : AH) (Qa : AO → AH → Prop) : Prop :=
  okH h → okS as → adInj w → MetFree l y (headSpec ws rm) (fun a U => a = (as.map (cV w)).toArray ∧ HRep w h U.heap ∧ KW w U) (fun _ _ _ _ _ => True) (fun _ st o t => QA w Qa st o t ∧ FE pu w st o t rm.cells rm.slots)
def wsM (y : MethodName) (cc : ByteArray) (nL : Nat) (ret : Option FieldType) (hs : List (Nat × Nat × Nat × Nat)) : List Cond := codeW y cc nL ret hs :: GW
theorem codeW_spec {y : MethodName} {cc : ByteArray} {nL : Nat} {ret : Option FieldType} {hs : List (Nat × Nat × Nat × Nat)} {args : Array Value} {s : State} {m : MethodId} (hn : s.methodNamed? y = some m) (h : (codeW y cc nL ret hs).before args s = true) :
    ∃ meth c, s.vm.method? m = some meth ∧ meth.code = some c ∧ c.code = cc ∧ c.maxLocals = nL ∧ meth.sig.returnType = ret ∧ meth.locks = false ∧ c.exceptionTable.toList = tableOf hs ∧ parseMethodDescriptor y.desc = some meth.sig := by
  cases hs with
  | nil =>
    obtain ⟨meth, c, h1, h2, h3, h4, h5, h6, h7, h8⟩ := Cond.code_spec hn h
    refine ⟨meth, c, h1, h2, h3, h4, h5, h6, ?_, h8⟩
    have h0 : c.exceptionTable.size = 0 := by simpa [Array.isEmpty] using h7
    exact List.eq_nil_of_length_eq_zero (by simpa using h0)
  | cons a b =>
    obtain ⟨m', meth, c, hn', h1, h2, h3, h4, h7, h5, h6, h8⟩ := Cond.codeWith_spec h
    cases hn.symm.trans hn'
    exact ⟨meth, c, h1, h2, h3, h4, h5, h6, by rw [← h7, table_eq], h8⟩
theorem aargs_map (w : XW) (as : List AV) : ∀ k, (aargs k as).map (cP w) = lv_args k (as.map (cV w)) := by
  induction as with
  | nil => intro k; rfl
  | cons v as ih =>
    intro k
    show cP w (k, v) :: (aargs _ as).map (cP w) = (k, cV w v) :: lv_args _ _
    rw [ih]
    have e : (if isL v = true then k + 2 else k + 1) = (if (cV w v).category = 2 then k + 2 else k + 1) := by rcases v with n | n | o | a <;> rfl
    rw [e]
    rfl
def nargs (as : List AV) : Nat := match as with
  | [] => 0
  | v :: as => (if isL v then 2 else 1) + nargs as
theorem nargs_len (w : XW) (as : List AV) : (lg_sl (as.map (cV w))).length = nargs as := by
  induction as with
  | nil => rfl
  | cons v as ih =>
    show (lg_sl (cV w v :: as.map (cV w))).length = _
    have e : lg_sl (cV w v :: as.map (cV w)) = (if (cV w v).category = 2 then [Slot.val (cV w v), Slot.second] else [Slot.val (cV w v)]) ++ lg_sl (as.map (cV w)) := rfl
    rw [e, List.length_append, ih]
    rcases v with n | n | o | a <;> rfl
theorem sum_cat (w : XW) (st : List AV) : ((st.map (cV w)).map fun v => v.category).sum = nargs st := by
  induction st with
  | nil => rfl
  | cons v st ih =>
    show (cV w v).category + ((st.map (cV w)).map fun v => v.category).sum = _
    rw [ih]
    rcases v with n | n | o | a <;> rfl
theorem AM.of {l : Launch} (hl : l.stackTraces = false) {y : MethodName} {pu : Bool} {rm : Room} {w : XW} {as : List AV} {h : AH} {Qa : AO → AH → Prop} {cc : ByteArray} {nL : Nat} {ret : Option FieldType} {hs : List (Nat × Nat × Nat × Nat)}
    (hy : plainFor y = true) (hn : nargs as ≤ nL) (body : ∀ x : MX, x.l.stackTraces = false → Cx x w rm y.cls cc nL ret hs → (x.meth.name = y.name) → AW x w nL true 0 0 (AQ x w pu rm.cells rm.slots Qa) 0 (aargs 0 as) [] h) : AM l y (wsM y cc nL ret hs) pu rm w as h Qa := by
  intro hh has hij
  refine MetFree.of_bodySF (code := cc) (maxLocals := nL) (ret := ret) hy ?_ ?_
  · intro args s m hp hnm
    obtain ⟨meth, c, h1, h2, h3, h4, h5, h6, -, -⟩ := codeW_spec hnm (atoms_spec (ws := wsM y cc nL ret hs) hp _ List.mem_cons_self)
    exact ⟨meth, c, h1, h2, h3, h4, h5, h6⟩
  · intro p e s m args below meth c s₁ B hml hP _
    obtain ⟨rfl, hR, hK⟩ := hP
    have hts := atoms_spec (ws := wsM y cc nL ret hs) B.pre
    have hh0 : s₁.heap = s.heap := by rw [B.state]; rfl
    obtain ⟨meth', c', h1, h2, h3, h4, h5, h6, h7, h8⟩ := codeW_spec B.named (hts _ List.mem_cons_self)
    have hcc : c' = c := by
      have h9 := (Stand.of_body B).code
      cases h1.symm.trans B.method
      exact Option.some.inj (h2.symm.trans h9)
    subst hcc
    have X0 := Stand.of_body B
    have htr : e.platform.stackTraces = false := by rw [X0.admits.platform]; exact hl
    have C : Cx (p, l, e, rm, s, m, (as.map (cV w)).toArray, below, meth, c') w rm y.cls cc nL ret hs :=
      ⟨B.exec, B.bytes, hml, findClass_of_methodNamed B.named, B.notSynchronized, B.returns, rfl, fun k hk => hts k (List.mem_cons_of_mem _ hk), hK, hij, htr, h7⟩
    have hlv := lv_entry (as.map (cV w)) (n := nL) (by rw [nargs_len]; exact hn)
    rw [← aargs_map] at hlv
    have k := body _ hl C (name_of_methodNamed B.named B.method).1 hh (aargs_ok has 0) trivial s.heap _ [] hR hlv ⟨rfl, rfl⟩
    rw [lg_entry_eq]
    obtain ⟨t, a1, o, b1, b2, b3, b4⟩ := k s₁ hh0 X0
    exact ⟨t, o, a1, b1, b2, b3, b4⟩
section ENDS
variable {x : MX} {w : XW} {rm : Room} {own : String} {cc : ByteArray} {nL : Nat} {ret : Option FieldType} {hx : List (Nat × Nat × Nat × Nat)} {cl pu : Bool} {cells slots mc ms pc : Nat} {Q : State → Prop} {lv : List (Nat × AV)} {st : List AV} {h : AH} {Qa : AO → AH → Prop}
theorem x_mq {o0 : Outcome} {ao : AO} {H : Heap} {locs : List Loc} (hq : Qa ao h) (hh : okH h) (ho : ∀ t, outR w t ao o0) (hR : HRep w h H) (hS : frS cl x w H locs) (hc : cells ≤ mc ∧ slots ≤ ms) (hpu : pu = true → cl = true ∧ cells = 0 ∧ slots = 0) {t : State}
    (hm : MQ x.below (fun _ _ o t => o = o0 ∧ t.heap = H) x.args x.s cells slots (fun b => ∃ l ∈ locs, l.base = b) t) : AQ x w pu mc ms Qa t := by
  obtain ⟨o, h1, h2, ⟨rfl, hH⟩, L, ⟨-, hW, hsame⟩, hL⟩ := hm
  refine ⟨o, h1, h2, ⟨ao, h, hq, hh, ho t, by rw [hH]; exact hR, hS.weak.F hH⟩, hW, ⟨L, hsame.mono hc.1 hc.2, fun q hq => ?_⟩, fun hp v _ => ?_⟩
  · obtain ⟨l, h3, h4⟩ := hL q hq
    rw [← h4]
    exact hS.weak.2.2 l h3
  · obtain ⟨e1, e2, e3⟩ := hpu hp
    subst e1; subst e2; subst e3
    obtain ⟨e4, e5⟩ := hS
    subst e5
    have hL0 : L = [] := List.eq_nil_iff_forall_not_mem.mpr fun q hq => by
      obtain ⟨l, h3, -⟩ := hL q hq
      cases h3
    subst hL0
    exact ⟨by rw [hH, e4], hsame⟩
theorem xW.mono {H : Heap} {locs : List Loc} {Q1 Q2 : State → Prop} {g : JFrame} (k : xW x H locs cells slots Q1 g) (f : ∀ t, Q1 t → Q2 t) : xW x H locs cells slots Q2 g := fun T hT X => by
  obtain ⟨t, a, b⟩ := k T hT X
  exact ⟨t, a, f t b⟩
theorem r_iret (C : Cx x w rm own cc nL (some .int) hx) {n : Int} (hdg : decode cc pc = .ok (.ireturn, 1)) (hq : okI n → Qa (.inl (some (vI n))) h) (hc : cells ≤ mc ∧ slots ≤ ms) (hpu : pu = true → cl = true ∧ cells = 0 ∧ slots = 0) : AW x w nL cl cells slots (AQ x w pu mc ms Qa) pc lv [vI n] h := by
  intro hh hl hs H ls locs hR hv hS
  have hlocks : x.meth.locks = false := C.lk
  exact xW.mono (W.iret (Qc := fun _ _ o t => o = .returned (some (.int (Int32.ofInt n))) ∧ t.heap = H) (free := fun b => ∃ l ∈ locs, l.base = b) C.ex C.by C.rt (fun t ht _ => ⟨rfl, ht⟩) (fun q hq => ⟨q, hq, rfl⟩) hdg hlocks) fun t ht => x_mq (ao := .inl (some (vI n))) (hq hs.1) hh (fun _ => ⟨rfl, hs.1⟩) hR hS hc hpu ht
theorem r_zret (C : Cx x w rm own cc nL (some .boolean) hx) {n : Int} (hdg : decode cc pc = .ok (.ireturn, 1)) (hz : n = 0 ∨ n = 1) (hq : Qa (.inl (some (vI n))) h) (hc : cells ≤ mc ∧ slots ≤ ms) (hpu : pu = true → cl = true ∧ cells = 0 ∧ slots = 0) : AW x w nL cl cells slots (AQ x w pu mc ms Qa) pc lv [vI n] h := by
  intro hh hl hs H ls locs hR hv hS
  have hlocks : x.meth.locks = false := C.lk
  have hnz : narrow .boolean (.int (Int32.ofInt n)) = .int (Int32.ofInt n) := by rcases hz with rfl | rfl <;> rfl
  exact xW.mono (W.zret (Qc := fun _ _ o t => o = .returned (some (.int (Int32.ofInt n))) ∧ t.heap = H) (free := fun b => ∃ l ∈ locs, l.base = b) C.ex C.by C.rt hnz (fun t ht _ => ⟨rfl, ht⟩) (fun q hq => ⟨q, hq, rfl⟩) hdg hlocks) fun t ht => x_mq (ao := .inl (some (vI n))) hq hh (fun _ => ⟨rfl, hs.1⟩) hR hS hc hpu ht
theorem r_lret (C : Cx x w rm own cc nL (some .long) hx) {n : Int} (hdg : decode cc pc = .ok (.lreturn, 1)) (hq : okJ n → Qa (.inl (some (vL n))) h) (hc : cells ≤ mc ∧ slots ≤ ms) (hpu : pu = true → cl = true ∧ cells = 0 ∧ slots = 0) : AW x w nL cl cells slots (AQ x w pu mc ms Qa) pc lv [vL n] h := by
  intro hh hl hs H ls locs hR hv hS
  have hlocks : x.meth.locks = false := C.lk
  exact xW.mono (W.lret (Qc := fun _ _ o t => o = .returned (some (.long (Int64.ofInt n))) ∧ t.heap = H) (free := fun b => ∃ l ∈ locs, l.base = b) C.ex C.by C.rt (fun t ht _ => ⟨rfl, ht⟩) (fun q hq => ⟨q, hq, rfl⟩) hdg hlocks) fun t ht => x_mq (ao := .inl (some (vL n))) (hq hs.1) hh (fun _ => ⟨rfl, hs.1⟩) hR hS hc hpu ht
theorem r_vret (C : Cx x w rm own cc nL none hx) (hdg : decode cc pc = .ok (.return_, 1)) (hq : Qa (.inl none) h) (hc : cells ≤ mc ∧ slots ≤ ms) (hpu : pu = true → cl = true ∧ cells = 0 ∧ slots = 0) : AW x w nL cl cells slots (AQ x w pu mc ms Qa) pc lv [] h := by
  intro hh hl hs H ls locs hR hv hS
  have hlocks : x.meth.locks = false := C.lk
  exact xW.mono (W.vret (Qc := fun _ _ o t => o = .returned none ∧ t.heap = H) (free := fun b => ∃ l ∈ locs, l.base = b) C.ex C.by C.rt (fun t ht _ => ⟨rfl, ht⟩) (fun q hq => ⟨q, hq, rfl⟩) hdg hlocks) fun t ht => x_mq (ao := .inl none) hq hh (fun _ => rfl) hR hS hc hpu ht
end ENDS
/-! Calls. -/
def xB (U t : State) : State := ({ U with heap := t.heap, slotsUsed := t.slotsUsed } : State).setVm t.vm
theorem x_back {l : Launch} {R : Room} {p : Program} {e : Env} {below : List Frame} {s : State} {sargs : Array Value} {y : MethodName} {len Wd maxL : Nat} {S : Spec} {P : Array Value → State → Prop} {Qm : Array Value → State → Outcome → State → Prop}
    (hM : MetFree l y S P (fun _ _ _ _ _ => True) Qm) (hframes : S.room.frames + 1 ≤ R.frames) (hlocals : Wd + (maxL + 11) + S.room.locals ≤ R.locals)
    {m : MethodId} {meth : Method} {c : Code} {U : State} {Ls : List Loc} {c0 s0 : Nat} (X : Stand p l e R s m sargs below meth c U Ls c0 s0) {g : JFrame} (hg : g.method = m) (hsize : g.locals.size = c.maxLocals) {ig : Instr} (hdg : decode c.code g.pc = .ok (ig, len))
    (hW : 2 * g.monitorRoom + (g.stack.map fun v => v.category).sum ≤ Wd) {mk : MethodId} (hn : U.methodNamed? y = some mk) {a : Array Value} (h1 : S.pre.before a U = true)
    {methY : Method} {cY : Code} (hmY : U.vm.method? mk = some methY) (hcY : methY.code = some cY) (hlY : cY.maxLocals = maxL) (h3 : (Cond.initialized y.cls).before a U = true) (h4 : c0 + S.room.cells ≤ R.cells) (h5 : s0 + S.room.slots ≤ R.slots) (hP : P a (U.calling g mk a)) :
    ∃ (o : Outcome) (t : State), Qm a (U.calling g mk a) o t ∧ ∀ (L : List Loc) (k n : Nat), U.WarmedH t.vm → (U.calling g mk a).sameButNew ({ t with vm := (U.calling g mk a).vm } : State) L k n →
      Stand p l e R s m sargs below meth c (xB U t) (Ls ++ L) (c0 + k) (s0 + n) ∧
      (∀ v, o = .returned v → Steps p.tables e below (doInvoke e (U.setTop g) [] mk a).1 ((xB U t).setTop { g with pc := g.pc + len, stack := v.toList ++ g.stack })) ∧
      (∀ z, o = .threw z → Steps p.tables e below (doInvoke e (U.setTop g) [] mk a).1 (((xB U t).setTop g).pushFrame (.throwing z))) := by
  obtain ⟨kY, hkY, -⟩ := className_of_methodNamed hn
  have hinitY : kY.init = .initialized := Cond.initialized_spec (findClass_of_methodNamed hn) hkY h3
  have h : At U g.method c below := by rw [hg]; exact X.here
  have happ : S.appliesLoose y e.platform (U.calling g mk a) = true :=
    Spec.appliesLoose_calling (g := g) h hdg hn hkY hinitY
      (X.room_calling (g := g) (R' := S.room) hsize hmY hcY hframes (by rw [hlY]; omega) h4 h5) h1
  obtain ⟨mid, hmid⟩ := h.above
  have hfr : (U.setTop g).frames = (.java g :: mid) ++ below := by rw [State.frames_setTop' g h.top, hmid]; rfl
  obtain ⟨o, t, hsteps, -, hend, hq⟩ := Steps.callFree hM p X.admits X.cas X.clock (acts := []) hfr happ hP trivial
  refine ⟨o, t, hq, fun L k n hW' hsb => ?_⟩
  obtain ⟨e2, q2, q3, q4, q5, q6⟩ := id hsb
  rw [State.frames_setTop' g h.top] at hend
  obtain ⟨g₀, hg0⟩ := Option.isSome_iff_exists.mp h.top
  obtain ⟨r, hr⟩ := State.topJava?_eq_some.mp hg0
  have e3 : t = ({ (U.calling g mk a).setFrames t.frames with heap := t.heap, slotsUsed := t.slotsUsed } : State).setVm t.vm := by
    have : t = ({ t with vm := (U.calling g mk a).vm } : State).setVm t.vm := rfl
    rw [e2] at this
    exact this
  have hr' : (xB U t).frames = .java g₀ :: r := hr
  have hsame : U.sameButNew ({ U with heap := t.heap, slotsUsed := t.slotsUsed } : State) L k n := by
    refine ⟨?_, q2, q3, q4, q5, q6⟩
    obtain ⟨th, ht, -⟩ := State.frames_cons hr
    show ({ U with heap := t.heap, slotsUsed := t.slotsUsed } : State) = { U.setFrames U.frames with heap := t.heap, slotsUsed := t.slotsUsed }
    rw [State.setFrames_self ht]
  refine ⟨⟨X.admits, X.cas, X.clock, X.frames, X.room, X.hears, X.method, X.code, (X.here.setHeapUsed t.heap t.slotsUsed).setVm hW'.alike, X.tail, State.WarmedH.trans X.warmed hW', X.limits, X.bytes, X.same.trans (hsame.setVm s.vm)⟩, fun v hv => ?_, fun z hz => ?_⟩
  · subst hv
    obtain ⟨c₂, i₂, len₂, hc₂, hd₂, hf₂⟩ := hend
    have hcc : c₂ = c := by
      have h1 : t.code? g.method = U.code? g.method := by
        rw [State.code?_eq, State.code?_eq, hW'.alike.method?]
      exact Option.some.inj (hc₂.symm.trans (h1.trans h.code))
    subst hcc
    have hlen : len₂ = len := by rw [hdg] at hd₂; cases hd₂; rfl
    subst hlen
    have hs₂ : t = (xB U t).setTop { g with pc := g.pc + len₂, stack := v.toList ++ g.stack } := by
      refine e3.trans ?_
      rw [hf₂, State.calling_eq h.top, State.setFrames_setFrames, State.setTop_of_frames _ hr', hr]
      rfl
    rw [← hs₂]
    exact hsteps
  · subst hz
    have hf₂ : t.frames = .throwing z :: .java g :: U.frames.tail := hend
    have hs₂ : t = ((xB U t).setTop g).pushFrame (.throwing z) := by
      refine e3.trans ?_
      rw [hf₂, State.calling_eq h.top, State.setFrames_setFrames, State.pushFrame, State.frames_setTop _ hr', State.setTop_of_frames _ hr', State.setFrames_setFrames, hr]
      rfl
    rw [← hs₂]
    exact hsteps
/-- an invoking instruction goes to the method y -/
def Inv (x : MX) (y : MethodName) (T : State) (locs : List Loc) (cells slots : Nat) (g : JFrame) (a rest : List Value) : Prop :=
  ∃ (vm₁ : Vm) (mk : MethodId), xStand x (T.setVm vm₁) locs cells slots ∧ (T.setVm vm₁).methodNamed? y = some mk ∧ ∀ target, Steps x.p.tables x.e x.below (doInvoke x.e ((T.setVm vm₁).setTop { g with stack := rest }) [] mk a.toArray).1 target → Steps x.p.tables x.e x.below (T.setTop g) target
section CALLS
variable {x : MX} {w : XW} {rm : Room} {own : String} {cc : ByteArray} {nL : Nat} {ret : Option FieldType} {hx : List (Nat × Nat × Nat × Nat)} {cl : Bool} {cells slots pc : Nat} {Q : State → Prop} {lv : List (Nat × AV)} {st : List AV} {h : AH}
variable {y : MethodName} {cY : ByteArray} {nY : Nat} {retY : Option FieldType} {hY : List (Nat × Nat × Nat × Nat)} {index n : Nat}
theorem CLk.len (L : CLk own index y cY nY retY hY n) : ∀ sig, parseMethodDescriptor y.desc = some sig → n = sig.parameters.length := by
  intro sig hsig
  have h2 := L.2.2.2.2.2
  rw [hsig] at h2
  exact (Option.some.inj h2).symm
theorem CLk.sig (L : CLk own index y cY nY retY hY n) (C : Cx x w rm own cc nL ret hx) {mk : MethodId} (hn : x.s.methodNamed? y = some mk) {methM : Method} (hm : x.s.vm.method? mk = some methM) : parseMethodDescriptor y.desc = some methM.sig := by
  obtain ⟨meth, c, h1, -, -, -, -, -, -, h8⟩ := codeW_spec hn (C.ws _ L.2.1)
  cases hm.symm.trans h1
  exact h8
theorem inv_V (C : Cx x w rm own cc nL ret hx) (L : CLk own index y cY nY retY hY n) (hi : Cond.instanceMethod y ∈ GW) (hsl : Cond.selects y.cls y y ∈ GW) {T : State} {locs : List Loc} (X : xStand x T locs cells slots) {b : Addr} {cellB : Cell} (hcell : T.heap[b]? = some cellB) (hobj : cellB.vm.isStatics = false) (hcls : x.s.vm.findClass y.cls = some cellB.cls)
    {g : JFrame} (hg : g.method = x.m) {argsL rest : List Value} (hlen : argsL.length = n) (hstack : g.stack = argsL.reverse ++ .ref b :: rest) (hdg : decode cc g.pc = .ok (.invokevirtual index, 3)) : Inv x y T locs cells slots g (.ref b :: argsL) rest := by
  obtain ⟨p, l, e, R, s, m, args, below, meth, c⟩ := x
  obtain ⟨mk, methM, hnamed, hmethM, hstM, habM⟩ := Cond.instanceMethod_spec (C.ws _ hi)
  have hsigM := L.sig C hnamed hmethM
  have hy : y.cls ≠ "java/lang/invoke/MethodHandle" ∧ y.cls ≠ "java/lang/invoke/VarHandle" := ⟨L.2.2.2.1, L.2.2.2.2.1⟩
  obtain ⟨c2, r2, m2, q1, q2, q3, q4, kP, hkP, hkPi⟩ := Cond.selects_spec (C.ws _ hsl)
  cases hcls.symm.trans q1
  cases (State.methodFound?_of_named hnamed hy).symm.trans q2
  cases hnamed.symm.trans q3
  have hselP : selectMethod e.platform s.vm cellB.cls mk = .method mk := by rw [Launch.admits_selectMethod X.admits]; exact q4
  obtain ⟨vm₁, X₁, hstep₁⟩ := X.invokevirtual C.ex C.ow (C.ws _ L.1) hnamed hmethM hstM hkP hkPi hy (a := b) (cell := cellB) hcell
    (fun z h => by rw [h] at hobj; cases hobj) hselP hmethM habM hkP hkPi (g := g) hg (argsL := argsL) (rest := rest) (hlen.trans (L.len _ hsigM)) hstack (by rw [C.by]; exact hdg)
  exact ⟨vm₁, mk, X₁, X₁.named hnamed, fun target h => hstep₁ _ fun acts => by rw [doInvoke_state]; exact h⟩
theorem inv_S (C : Cx x w rm own cc nL ret hx) (L : CLk own index y cY nY retY hY n) (hi : Cond.static y ∈ GW) {T : State} {locs : List Loc} (X : xStand x T locs cells slots)
    {g : JFrame} (hg : g.method = x.m) {argsL rest : List Value} (hlen : argsL.length = n) (hstack : g.stack = argsL.reverse ++ rest) (hdg : decode cc g.pc = .ok (.invokestatic index, 3)) : Inv x y T locs cells slots g argsL rest := by
  obtain ⟨p, l, e, R, s, m, args, below, meth, c⟩ := x
  have hy : y.cls ≠ "java/lang/invoke/MethodHandle" ∧ y.cls ≠ "java/lang/invoke/VarHandle" := ⟨L.2.2.2.1, L.2.2.2.2.1⟩
  obtain ⟨kk, hkk, hcode⟩ : ∃ mk, s.methodNamed? y = some mk ∧ True := by
    have hcw := C.ws _ L.2.1
    cases hY with
    | nil => obtain ⟨mk, h⟩ := Cond.code_named hcw; exact ⟨mk, h, trivial⟩
    | cons a b => obtain ⟨mk, -, -, h, -⟩ := Cond.codeWith_spec hcw; exact ⟨mk, h, trivial⟩
  obtain ⟨methM, cM, hmethM, -, -, -, -, -, -, hsigM⟩ := codeW_spec hkk (C.ws _ L.2.1)
  have hstatic : methM.isStatic = true := Cond.static_spec hkk hmethM (C.ws _ hi)
  obtain ⟨kP, hkP, -⟩ := className_of_methodNamed hkk
  have hinitP : kP.init = .initialized := Cond.initialized_spec (findClass_of_methodNamed hkk) hkP (C.ws _ L.2.2.1)
  obtain ⟨vm₁, X₁, hstep₁⟩ := X.invokestatic C.ex C.ow (C.ws _ L.1) hkk hmethM hstatic hkP hinitP hy (g := g) hg (argsL := argsL) (rest := rest) (hlen.trans (L.len _ hsigM)) hstack (by rw [C.by]; exact hdg)
  exact ⟨vm₁, kk, X₁, X₁.named hkk, fun target h => hstep₁ _ fun acts => by rw [doInvoke_state]; exact h⟩
/-- an exception on its way out of the frame at pc -/
def AT (x : MX) (w : XW) (nL : Nat) (cells slots : Nat) (Q : State → Prop) (pc : Nat) (lv : List (Nat × AV)) (h : AH) (k : Nat) : Prop :=
  okH h → okL lv → ∀ (T : State) (ls : Array Slot) (locs : List Loc) (a : Nat) (rest : List Value), HRep w h T.heap → lv_has ls nL (lv.map (cP w)) → va_S (inU w x.s.heap.size) x.s.heap T.heap locs → xStand x T locs cells slots → excR k a T → ∃ t, Steps x.p.tables x.e x.below ((T.setTop (F0 x.m pc ls rest)).pushFrame (.throwing a)) t ∧ Q t
theorem a_call (C : Cx x w rm own cc nL ret hx) (L : CLk own index y cY nY retY hY n) {pu : Bool} {rmY : Room} {as : List AV} {Qy : AO → AH → Prop} (hM : AM x.l y (wsM y cY nY retY hY) pu rmY w as h Qy) (has : okS as) {len : Nat} {ig : Instr} (hdg : decode cc pc = .ok (ig, len))
    (hrm : rmY.frames + 1 ≤ rm.frames ∧ 8 + (nY + 11) + rmY.locals ≤ rm.locals ∧ cells + rmY.cells ≤ rm.cells ∧ slots + rmY.slots ≤ rm.slots) (hst : ((st.map (cV w)).map fun v => v.category).sum ≤ 8)
    {st0 : List AV} (hinv : ∀ (T : State) (locs : List Loc) (ls : Array Slot), HRep w h T.heap → xStand x T locs cells slots → ls.size = nL → Inv x y T locs cells slots (F0 x.m pc ls (st0.map (cV w))) (as.map (cV w)) (st.map (cV w)))
    (k1 : ∀ v h', Qy (.inl v) h' → AW x w nL (cl && pu) (if pu then cells else cells + rmY.cells) (if pu then slots else slots + rmY.slots) Q (pc + len) lv (v.toList ++ st) h')
    (k2 : ∀ k h', Qy (.inr k) h' → AT x w nL (cells + rmY.cells) (slots + rmY.slots) Q pc lv h' k) (hs0 : okS st) (hh : okH h) (hl : okL lv) {H : Heap} {ls : Array Slot} {locs : List Loc} (hR : HRep w h H) (hv : lv_has ls nL (lv.map (cP w))) (hS : frS cl x w H locs) : xW x H locs cells slots Q (F0 x.m pc ls (st0.map (cV w))) := by
  intro T hT X
  subst hT
  obtain ⟨vm₁, mk, X₁, hn, hstep⟩ := hinv T locs ls hR X hv.1
  have hcw := C.ws _ L.2.1
  have hpay : ∀ k ∈ GW, ∀ (a' : Array Value) (U : State), x.s.WarmedH U.vm → k.before a' U = true := fun k hk a' U hW => word_at hW (GWgood k hk) (C.ws k hk)
  have hcode1 : (codeW y cY nY retY hY).before (as.map (cV w)).toArray (T.setVm vm₁) = true := hpay _ L.2.1 _ _ X₁.warmed
  obtain ⟨methY, cY', hmY, hcY, -, hlY, -, -, -, -⟩ := codeW_spec hn hcode1
  have hRm : x.R = rm := C.ro
  obtain ⟨o, t, ⟨⟨ao, h', hqa, hok', ho, hR', hF⟩, hWt, ⟨L', hsb, hL'⟩, hpu⟩, hgo⟩ := x_back (g := { F0 x.m pc ls (st0.map (cV w)) with stack := st.map (cV w) }) (len := len) (Wd := 8) (maxL := nY) (hM hh has C.ij)
    (by rw [hRm]; exact hrm.1) (by rw [hRm]; exact hrm.2.1) X₁ rfl (by rw [C.ml]; exact hv.1) (ig := ig) (by rw [C.by]; exact hdg) (by simpa using hst) hn
    (atoms_intro fun k hk => by
      rcases List.mem_cons.mp hk with e | e
      · rw [e]; exact hcode1
      · exact hpay k e _ _ X₁.warmed) hmY hcY hlY (hpay _ L.2.2.1 _ _ X₁.warmed) (by rw [hRm]; exact hrm.2.2.1) (by rw [hRm]; exact hrm.2.2.2)
    ⟨rfl, hR, KW.at (U := (T.setVm vm₁).calling { F0 x.m pc ls (st0.map (cV w)) with stack := st.map (cV w) } mk (as.map (cV w)).toArray) C.kw X₁.warmed hS.weak⟩
  have hWt' : (T.setVm vm₁).WarmedH t.vm := hWt
  have hF' : va_F (inU w T.heap.size) T t := hF
  have hs1 : va_S (inU w x.s.heap.size) x.s.heap t.heap (locs ++ L') := by
    obtain ⟨f1, f2⟩ := hF'
    obtain ⟨g1, g2, g3⟩ := hS.weak
    refine ⟨Nat.le_trans g1 f1, fun q h1 h2 => ?_, fun q hq => ?_⟩
    · rw [f2 q (Nat.lt_of_lt_of_le h1 g1) fun z => h2 (by
        rcases z with z | z
        · exact Or.inl z
        · exact Or.inr (by omega)), g2 q h1 h2]
    · rcases List.mem_append.mp hq with z | z
      · exact g3 q z
      · rcases hL' q z with z | z
        · exact Or.inl z
        · exact Or.inr (Nat.le_trans g1 z)
  match ao, o, ho with
  | .inl v, o, ho =>
    obtain ⟨v', hv', ho'⟩ : ∃ v' : Option Value, o = .returned v' ∧ (v'.toList = (v.toList).map (cV w)) ∧ okS v.toList := by
      cases v with
      | none => exact ⟨none, ho, rfl, trivial⟩
      | some v => exact ⟨some (cV w v), ho.1, rfl, ho.2, trivial⟩
    have hmid : ∀ (locs2 : List Loc) (c2 s2 : Nat) (cl2 : Bool), xStand x (xB (T.setVm vm₁) t) locs2 c2 s2 → frS cl2 x w t.heap locs2 → AW x w nL cl2 c2 s2 Q (pc + len) lv (v.toList ++ st) h' → Steps x.p.tables x.e x.below (doInvoke x.e ((T.setVm vm₁).setTop { F0 x.m pc ls (st0.map (cV w)) with stack := st.map (cV w) }) [] mk (as.map (cV w)).toArray).1 ((xB (T.setVm vm₁) t).setTop { F0 x.m pc ls (st0.map (cV w)) with pc := pc + len, stack := v'.toList ++ st.map (cV w) }) → ∃ t, Steps x.p.tables x.e x.below (T.setTop (F0 x.m pc ls (st0.map (cV w)))) t ∧ Q t := by
      intro locs2 c2 s2 cl2 X2 hS2 hA hst2
      have hk := hA hok' hl (okS_of fun u hu => by
        rcases List.mem_append.mp hu with z | z
        · exact okS_mem ho'.2 u z
        · exact okS_mem hs0 u z) t.heap ls locs2 hR' hv hS2
      obtain ⟨t2, a2, b2⟩ := hk (xB (T.setVm vm₁) t) rfl X2
      refine ⟨t2, hstep _ (hst2.trans ?_), b2⟩
      rw [List.map_append, ← ho'.1] at a2
      exact a2
    cases pu with
    | false =>
      obtain ⟨X2, g1, -⟩ := hgo L' rmY.cells rmY.slots hWt' hsb
      refine hmid _ _ _ _ X2 ?_ (k1 v h' hqa) (g1 v' hv')
      rw [Bool.and_false]
      exact hs1
    | true =>
      obtain ⟨z1, z2⟩ := hpu rfl v' hv'
      obtain ⟨X2, g1, -⟩ := hgo [] 0 0 hWt' z2
      refine hmid _ _ _ cl X2 ?_ (by have := k1 v h' hqa; rwa [Bool.and_true] at this) (g1 v' hv')
      have z3 : t.heap = T.heap := z1
      rw [z3, List.append_nil]
      exact hS
  | .inr k, o, ho =>
    obtain ⟨a, rfl, hexc⟩ := ho
    obtain ⟨X2, -, g2⟩ := hgo L' rmY.cells rmY.slots hWt' hsb
    obtain ⟨t2, a2, b2⟩ := k2 k h' hqa hok' hl (xB (T.setVm vm₁) t) ls (locs ++ L') a (st.map (cV w)) hR' hv hs1 X2 hexc
    exact ⟨t2, hstep _ ((g2 a rfl).trans a2), b2⟩
end CALLS
section CALLROWS
variable {x : MX} {w : XW} {rm : Room} {own : String} {cc : ByteArray} {nL : Nat} {ret : Option FieldType} {hx : List (Nat × Nat × Nat × Nat)} {cl : Bool} {cells slots pc : Nat} {Q : State → Prop} {lv : List (Nat × AV)} {st : List AV} {h : AH}
variable {y : MethodName} {cY : ByteArray} {nY : Nat} {retY : Option FieldType} {hY : List (Nat × Nat × Nat × Nat)} {index n : Nat} {pu : Bool} {rmY : Room} {as : List AV} {Qy : AO → AH → Prop} {st0 : List AV}
theorem r_callS (C : Cx x w rm own cc nL ret hx) (L : CLk own index y cY nY retY hY n) (hi : Cond.static y ∈ GW) (hM : AM x.l y (wsM y cY nY retY hY) pu rmY w as h Qy) (hn : as.length = n) (hst0 : as.reverse ++ st = st0) (hdg : decode cc pc = .ok (.invokestatic index, 3))
    (hrm : rmY.frames + 1 ≤ rm.frames ∧ 8 + (nY + 11) + rmY.locals ≤ rm.locals ∧ cells + rmY.cells ≤ rm.cells ∧ slots + rmY.slots ≤ rm.slots) (hst : nargs st ≤ 8)
    (k1 : ∀ v h', Qy (.inl v) h' → AW x w nL (cl && pu) (if pu then cells else cells + rmY.cells) (if pu then slots else slots + rmY.slots) Q (pc + 3) lv (v.toList ++ st) h')
    (k2 : ∀ k h', Qy (.inr k) h' → AT x w nL (cells + rmY.cells) (slots + rmY.slots) Q pc lv h' k) : AW x w nL cl cells slots Q pc lv st0 h := by
  intro hh hl hs H ls locs hR hv hS
  subst hst0
  have ha := okS_app hs
  refine a_call C L hM (okS_rev ha.1) hdg hrm (by rw [sum_cat]; exact hst) (fun T locs ls hR X hsz => ?_) k1 k2 ha.2 hh hl hR hv hS
  exact inv_S C L hi X rfl (by rw [List.length_map]; exact hn) (by show (as.reverse ++ st).map (cV w) = _; rw [List.map_append, List.map_reverse]) hdg
theorem r_callV (C : Cx x w rm own cc nL ret hx) (L : CLk own index y cY nY retY hY n) (hi : Cond.instanceMethod y ∈ GW ∧ Cond.selects y.cls y y ∈ GW) {t i : Nat} (hk : kdT t = 0) {T0 : u_T} {N0 : Nat} (hcl : uCl[clT t]? = some (y.cls, T0, N0)) (hM : AM x.l y (wsM y cY nY retY hY) pu rmY w (vO t i :: as) h Qy) (hn : as.length = n) (hst0 : as.reverse ++ vO t i :: st = st0) (hdg : decode cc pc = .ok (.invokevirtual index, 3))
    (hrm : rmY.frames + 1 ≤ rm.frames ∧ 8 + (nY + 11) + rmY.locals ≤ rm.locals ∧ cells + rmY.cells ≤ rm.cells ∧ slots + rmY.slots ≤ rm.slots) (hst : nargs st ≤ 8)
    (k1 : ∀ v h', Qy (.inl v) h' → AW x w nL (cl && pu) (if pu then cells else cells + rmY.cells) (if pu then slots else slots + rmY.slots) Q (pc + 3) lv (v.toList ++ st) h')
    (k2 : ∀ k h', Qy (.inr k) h' → AT x w nL (cells + rmY.cells) (slots + rmY.slots) Q pc lv h' k) : AW x w nL cl cells slots Q pc lv st0 h := by
  intro hh hl hs H ls locs hR hv hS
  subst hst0
  have ha := okS_app hs
  refine a_call C L hM ⟨ha.2.1, okS_rev ha.1⟩ hdg hrm (by rw [sum_cat]; exact hst) (fun T locs ls hR X hsz => ?_) k1 k2 ha.2.2 hh hl hR hv hS
  obtain ⟨cell, q1, q2, q3, q4⟩ := cellR_obj hk (hR t i ha.2.1)
  obtain ⟨hS1, hfc, -⟩ := C.kw.1.1 (clT t) _ hcl
  exact inv_V C L hi.1 hi.2 X q1 (by rw [q3]; rfl) (by rw [q2]; exact hfc) rfl (by rw [List.length_map]; exact hn) (by show (as.reverse ++ vO t i :: st).map (cV w) = _; rw [List.map_append, List.map_reverse]; rfl) hdg
theorem t_out (C : Cx x w rm own cc nL ret []) {mc ms k : Nat} {Qa : AO → AH → Prop} (hq : Qa (.inr k) h) (hc : cells ≤ mc ∧ slots ≤ ms) : AT x w nL cells slots (AQ x w pu mc ms Qa) pc lv h k := by
  intro hh hl T ls locs a rest hR hv hS X he
  obtain ⟨h1, h2, h3, h4, h5⟩ := X.leaveThrown a (g := F0 x.m pc ls rest) rfl rfl rfl (by rw [C.tb]; intro z hz; cases hz) C.lk
  exact ⟨_, h1, .threw a, h2, h3, ⟨.inr k, h, hq, hh, ⟨a, rfl, he⟩, hR, hS.F rfl⟩, h4, ⟨locs, h5.mono hc.1 hc.2, hS.2.2⟩, fun _ v hv => by cases hv⟩
end CALLROWS

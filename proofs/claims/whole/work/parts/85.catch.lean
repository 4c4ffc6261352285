/-! Catching: the search may resolve the classes of the clauses. -/
theorem go_transfer {e : Env} {d : Bool} {acts : List Action} {s : State} {f : JFrame} {a : Addr} {Q : Handler → Pre} {E : CtlPost} {x : ExceptionTableEntry} {t : List ExceptionTableEntry} {c : ClassId} {vm' : Vm} (hx : covers x f.pc = true) (h0 : x.catchType ≠ 0)
    (hg : (Jvm.resolveClass f.method.cls x.catchType).Gives e.toSetting s.vm (.ok c) vm') (hr : vm'.classReady f.method.cls x.catchType c) (hsz : vm'.classes.size ≤ s.vm.classes.size) :
    wp (findHandler.go f a (x :: t)) Q E e d acts s ↔ wp (findHandler.go f a (x :: t)) Q E e d acts (s.setVm vm') := by
  simp only [covers] at hx
  obtain ⟨ha, ht⟩ := hg.op (op := VmOp.resolveClass f.method.cls x.catchType) rfl
  obtain ⟨k, hkd, hres⟩ := hr
  have hm := resolveClass_memo e hkd hres
  simp [findHandler.go, hx, h0, ha, ht, hsz, hm, VmOp.dirties, VmOp.acts]
  exact Iff.rfl
def pickH (k : Nat) (hs : List (ExceptionTableEntry × Nat)) : Option Nat := match hs with
  | [] => none
  | q :: t => if q.2 = k then some q.1.handlerPc else pickH k t
theorem asg_self (vm : Vm) (c : ClassId) : vm.assignable c c = true := by
  show vm.assignableAux (255 + 1) c c = true
  rw [Vm.assignableAux]
  simp
theorem go_find {e : Env} {s0 : State} {f : JFrame} {a : Addr} {k : Nat} {cell : Cell} (hobj : cell.vm.isStatics = false) (hcls : s0.vm.findClass (exN k) = some cell.cls)
    (hnc : ∀ j, j < 4 → j ≠ k → va_Nc (exN k) (exN j) s0) :
    ∀ (hs : List (ExceptionTableEntry × Nat)) (s : State) (pc : Nat), s0.WarmedH s.vm → s.heap[a]? = some cell → (∀ q ∈ hs, covers q.1 f.pc = true ∧ q.1.catchType ≠ 0 ∧ q.2 < 4 ∧ ∃ c, s0.vm.findClass (exN q.2) = some c ∧ s0.vm.ClassLinks e.platform f.method.cls q.1.catchType c) → pickH k hs = some pc →
    ∃ vm', s0.WarmedH vm' ∧ ∀ (Q : Handler → Pre) (E : CtlPost) (d : Bool) (acts : List Action), wp (findHandler.go f a (hs.map (fun q => q.1))) Q E e d acts s ↔ Q (.found pc) d acts (s.setVm vm') := by
  intro hs
  induction hs with
  | nil => intro s pc _ _ _ h; cases h
  | cons q t ih =>
    intro s pc hW hc hall hp
    obtain ⟨h1, h2, h3, c, h4, h5⟩ := hall q List.mem_cons_self
    obtain ⟨hg, hW1, hr⟩ := State.classEntry (e := e) hW h5
    have hsz : (s.vm.noted f.method.cls q.1.catchType (.cls c)).classes.size ≤ s.vm.classes.size := Nat.le_of_eq (Vm.size_noted ..)
    generalize s.vm.noted f.method.cls q.1.catchType (.cls c) = vm1 at hg hW1 hr hsz
    have hheap : (s.setVm vm1).heap[a]? = some cell := hc
    have hkc : ∃ k', (s.setVm vm1).vm.classes[cell.cls]? = some k' := Vm.classAt_of_findClass (name := exN k) (by show vm1.findClass _ = _; rw [hW1.alike.findClass]; exact hcls)
    have hcc : ∃ k', (s.setVm vm1).vm.classes[c]? = some k' := Vm.classAt_of_findClass (name := exN q.2) (by show vm1.findClass _ = _; rw [hW1.alike.findClass]; exact h4)
    have step := fun (Q : Handler → Pre) (E : CtlPost) (d : Bool) (acts : List Action) => (go_transfer (e := e) (d := d) (acts := acts) (a := a) (Q := Q) (E := E) (t := t.map (fun q => q.1)) h1 h2 hg hr hsz).trans (W.findHandler_go_class (s := s.setVm vm1) (e := e) (d := d) (acts := acts) (Q := Q) (E := E) (t := t.map (fun q => q.1)) h1 h2 hr hheap (VmData.ne_statics_of hobj) hkc hcc)
    unfold pickH at hp
    by_cases hj : q.2 = k
    · rw [if_pos hj] at hp
      cases hp
      have ec : c = cell.cls := by
        rw [hj] at h4
        exact Option.some.inj (h4.symm.trans hcls)
      refine ⟨vm1, hW1, fun Q E d acts => (step Q E d acts).trans (iff_of_eq (if_pos ?_))⟩
      rw [ec]
      exact asg_self _ _
    · rw [if_neg hj] at hp
      obtain ⟨vm2, hW2, hf⟩ := ih (s.setVm vm1) pc hW1 hc (fun z hz => hall z (List.mem_cons_of_mem _ hz)) hp
      refine ⟨vm2, hW2, fun Q E d acts => (step Q E d acts).trans ((iff_of_eq (if_neg ?_)).trans (hf Q E d acts))⟩
      obtain ⟨c1, t1, e1, e2, e3⟩ := hnc q.2 h3 hj
      cases e1.symm.trans hcls
      cases e2.symm.trans h4
      show ¬ vm1.assignable _ _ = true
      rw [hW1.alike.assignable, e3]
      decide
theorem stepThrowing_catchTo {e : Env} {s s' : State} {a : Addr} {f : JFrame} {r : List Frame} {pc : Nat} (hfind : ∀ (Q : Handler → Pre) (E : CtlPost) (d : Bool) (acts : List Action), wp (findHandler f a) Q E e d acts s ↔ Q (.found pc) d acts s') :
    (stepThrowing e s a (.java f :: r)).Is (s'.setFrames (.java { f with pc := pc, stack := [.ref a] } :: r)) [] := by
  simp only [stepThrowing, searchFrame, vmDo]
  generalize hr : Sem.go _ e false [] s = res
  obtain ⟨as, rfl, ha⟩ := Sem.eq_ok_of hr (a := Handler.found pc) (s' := s') (acts' := []) (by simp [hfind _ _ _ _])
  exact ⟨rfl, ha⟩
theorem caughtTo {tb : Tables} {e : Env} {T target : State} {g : JFrame} {c : Code} {below : List Frame} {a : Addr} (h : At T g.method c below) {pc : Nat} {vm' : Vm}
    (hfind : ∀ (Q : Handler → Pre) (E : CtlPost) (d : Bool) (acts : List Action), wp (findHandler g a) Q E e d acts ((T.setTop g).pushFrame (.throwing a)) ↔ Q (.found pc) d acts (((T.setTop g).pushFrame (.throwing a)).setVm vm'))
    (hrest : Steps tb e below ((T.setVm vm').setTop { g with pc := pc, stack := [.ref a] }) target) : Steps tb e below ((T.setTop g).pushFrame (.throwing a)) target := by
  obtain ⟨hgo, hw⟩ := h.throwing a
  refine Steps.head hgo hw ?_
  rw [stepThread_throwing (frames_entered h.top _), (stepThrowing_catchTo hfind).1]
  obtain ⟨g₀, hg⟩ := Option.isSome_iff_exists.mp h.top
  obtain ⟨r, hr⟩ := State.topJava?_eq_some.mp hg
  have hr' : (T.setVm vm').frames = .java g₀ :: r := hr
  rw [State.setTop_of_frames _ hr'] at hrest
  rw [State.pushFrame, State.setTop_of_frames _ hr, State.setFrames_setFrames]
  have e1 : ∀ A : List Frame, (T.setFrames A).setVm vm' = (T.setVm vm').setFrames A := fun A => rfl
  rw [e1, State.setFrames_setFrames, hr]
  exact hrest
def CTok (own : String) (pc : Nat) (ct : List (ExceptionTableEntry × Nat)) : Prop := match ct with
  | [] => True
  | q :: t => (covers q.1 pc = true ∧ q.1.catchType ≠ 0 ∧ q.2 < 4 ∧ Cond.classLink own q.1.catchType (exN q.2) ∈ GW) ∧ CTok own pc t
theorem CTok.mem {own : String} {pc : Nat} {ct : List (ExceptionTableEntry × Nat)} (h : CTok own pc ct) : ∀ q ∈ ct, covers q.1 pc = true ∧ q.1.catchType ≠ 0 ∧ q.2 < 4 ∧ Cond.classLink own q.1.catchType (exN q.2) ∈ GW := by
  induction ct with
  | nil => intro q hq; cases hq
  | cons a t ih =>
    intro q hq
    rcases List.mem_cons.mp hq with e | e
    · subst e; exact h.1
    · exact ih h.2 q e
section CATCH
variable {x : MX} {w : XW} {rm : Room} {own : String} {cc : ByteArray} {nL : Nat} {ret : Option FieldType} {hx : List (Nat × Nat × Nat × Nat)} {cl pu : Bool} {cells slots pc : Nat} {Q : State → Prop} {lv : List (Nat × AV)} {st : List AV} {h : AH}
variable {y : MethodName} {cY : ByteArray} {nY : Nat} {retY : Option FieldType} {hY : List (Nat × Nat × Nat × Nat)} {index n : Nat} {rmY : Room} {as : List AV} {st0 : List AV}
theorem t_catch (C : Cx x w rm own cc nL ret hx) {k hp : Nat} (hk : k < 4) {ct : List (ExceptionTableEntry × Nat)} (htab : tableOf hx = ct.map (fun q => q.1)) (hct : CTok own pc ct) (hpick : pickH k ct = some hp) (K : ∀ a, AW x w nL false cells slots Q hp lv [vX a] h) : AT x w nL cells slots Q pc lv h k := by
  intro hh hl T ls locs a rest hR hv hS X he
  obtain ⟨p, l, e, R, s, m, args, below, meth, c⟩ := x
  obtain ⟨cell, h1, h2, h3⟩ := he
  have hpl : e.platform.magicAccessors = ({} : Platform).magicAccessors := by rw [X.admits.platform]
  have hW : s.WarmedH T.vm := X.warmed
  have hcls : s.vm.findClass (exN k) = some cell.cls := by rw [← hW.alike.findClass]; exact h3
  have hm : m = (F0 m pc ls rest).method := rfl
  obtain ⟨vm', hW', hf⟩ := go_find (e := e) (s0 := s) (f := F0 m pc ls rest) (a := a) (k := k) h2 hcls (fun j hj hne => C.kw.2.2.2.2.2 k j hk hj (Ne.symm hne)) ct ((T.setTop (F0 m pc ls rest)).pushFrame (.throwing a)) hp
    (by rw [Stand.throwing_vm]; exact hW) (by rw [Stand.throwing_heap]; exact h1)
    (fun q hq => by
      obtain ⟨c1, c2, c3, c4⟩ := hct.mem q hq
      obtain ⟨cc', c5, c6⟩ := Cond.classLink_spec C.ow (C.ws _ c4) e.platform hpl
      exact ⟨c1, c2, c3, cc', c5, c6⟩) hpick
  have X' := X.noted hW'
  obtain ⟨t, a1, b1⟩ := K a hh hl ⟨trivial, trivial⟩ T.heap ls locs hR hv hS (T.setVm vm') rfl X'
  refine ⟨t, caughtTo (c := c) X.here (fun Q E d acts => ?_) a1, b1⟩
  refine (W.findHandler_eq (meth := meth) (code := c) (by rw [Stand.throwing_vm]; exact X.method') X.code).trans ?_
  have htb : c.exceptionTable.toList = tableOf hx := C.tb
  rw [htb, htab]
  exact hf Q E d acts
/-- a call of a method that may throw, under handlers -/
theorem r_callVc (C : Cx x w rm own cc nL ret hx) (L : CLk own index y cY nY retY hY n) (hi : Cond.instanceMethod y ∈ GW ∧ Cond.selects y.cls y y ∈ GW) {t i : Nat} (hk : kdT t = 0) {T0 : u_T} {N0 : Nat} (hcl : uCl[clT t]? = some (y.cls, T0, N0)) {e : Option Nat} {v : Option AV} {P : AH → Prop} (hM : AM x.l y (wsM y cY nY retY hY) pu rmY w (vO t i :: as) h (Out e v h P)) (hn : as.length = n) (hst0 : as.reverse ++ vO t i :: st = st0) (hdg : decode cc pc = .ok (.invokevirtual index, 3))
    (hrm : rmY.frames + 1 ≤ rm.frames ∧ 8 + (nY + 11) + rmY.locals ≤ rm.locals ∧ cells + rmY.cells ≤ rm.cells ∧ slots + rmY.slots ≤ rm.slots) (hst : nargs st ≤ 8) {ct : List (ExceptionTableEntry × Nat)} (htab : tableOf hx = ct.map (fun q => q.1)) (hct : CTok own pc ct)
    (kt : ∀ k, e = some k → k < 4 ∧ ∃ hp, pickH k ct = some hp ∧ ∀ a, AW x w nL false (cells + rmY.cells) (slots + rmY.slots) Q hp lv [vX a] h)
    (kr : e = none → ∀ h', P h' → AW x w nL false (if pu then cells else cells + rmY.cells) (if pu then slots else slots + rmY.slots) Q (pc + 3) lv (v.toList ++ st) h') : AW x w nL cl cells slots Q pc lv st0 h := by
  refine r_callV C L hi hk hcl hM hn hst0 hdg hrm hst (fun v' h' q => ?_) (fun k h' q => ?_)
  · rcases q with ⟨k, -, q, -⟩ | ⟨e1, e2, e3⟩
    · cases q
    · cases e2
      exact AW.dirty (kr e1 h' e3)
  · rcases q with ⟨k', e1, q, e3⟩ | ⟨-, q, -⟩
    · cases q; subst e3
      obtain ⟨k4, hp, hpk, K⟩ := kt _ e1
      exact t_catch C k4 htab hct hpk K
    · cases q
end CATCH
/-- how a helper of the law ends: cd of the exception's number, or 0 -/
def LO (e : Option Nat) (cd : Nat → Int) (h : AH) (P : AH → Prop) : AO → AH → Prop := fun o h' => (∃ k, e = some k ∧ o = .inl (some (vI (cd k))) ∧ h' = h) ∨ (e = none ∧ o = .inl (some (vI 0)) ∧ P h')
theorem LO.thr {e : Option Nat} {cd : Nat → Int} {h : AH} {P : AH → Prop} {k : Nat} {v : Int} (he : e = some k) (hv : v = cd k) : LO e cd h P (.inl (some (vI v))) h := Or.inl ⟨k, he, by rw [hv], rfl⟩
theorem LO.ret {e : Option Nat} {cd : Nat → Int} {h h' : AH} {P : AH → Prop} (he : e = none) (hp : P h') : LO e cd h P (.inl (some (vI 0))) h' := Or.inr ⟨he, rfl, hp⟩

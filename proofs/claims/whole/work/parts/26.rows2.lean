/-! Calls of methods that always return. -/
def rmV (lev c : Nat) : Room := { frames := 5 + lev, cells := c, slots := 8 * c, locals := 90 + 45 * lev }
def RetP (v : Option AV) (P : AH → Prop) : AO → AH → Prop := fun o h' => o = .inl v ∧ P h'
section CALL2
variable {x : MX} {w : XW} {rm : Room} {own : String} {cc : ByteArray} {nL : Nat} {ret : Option FieldType} {hx : List (Nat × Nat × Nat × Nat)} {cl : Bool} {cells slots pc : Nat} {Q : State → Prop} {lv : List (Nat × AV)} {st : List AV} {h h0 : AH}
variable {y : MethodName} {cY : ByteArray} {nY : Nat} {retY : Option FieldType} {hY : List (Nat × Nat × Nat × Nat)} {index n : Nat} {rmY : Room} {as : List AV} {st0 : List AV} {v : AV} {P : AH → Prop}
/-- a pure static method with an answer -/
theorem r_callSp (C : Cx x w rm own cc nL ret hx) (L : CLk own index y cY nY retY hY n) (hi : Cond.static y ∈ GW) (hM : AM x.l y (wsM y cY nY retY hY) true rmY w as h (Ret (some v) h)) (hn : as.length = n) (hst0 : as.reverse ++ st = st0) (hdg : decode cc pc = .ok (.invokestatic index, 3))
    (hrm : rmY.frames + 1 ≤ rm.frames ∧ 8 + (nY + 11) + rmY.locals ≤ rm.locals ∧ cells + rmY.cells ≤ rm.cells ∧ slots + rmY.slots ≤ rm.slots) (hst : nargs st ≤ 8)
    (k1 : AW x w nL cl cells slots Q (pc + 3) lv (v :: st) h) : AW x w nL cl cells slots Q pc lv st0 h := by
  refine r_callS C L hi hM hn hst0 hdg hrm hst (fun v' h' q => ?_) (fun k h' q => ?_)
  · obtain ⟨e1, e2⟩ := q
    cases e1; subst e2
    rw [Bool.and_true]
    exact k1
  · cases q.1
theorem r_callVp (C : Cx x w rm own cc nL ret hx) (L : CLk own index y cY nY retY hY n) (hi : Cond.instanceMethod y ∈ GW ∧ Cond.selects y.cls y y ∈ GW) {t i : Nat} (hk : kdT t = 0) {T0 : u_T} {N0 : Nat} (hcl : uCl[clT t]? = some (y.cls, T0, N0)) (hM : AM x.l y (wsM y cY nY retY hY) true rmY w (vO t i :: as) h (Ret (some v) h)) (hn : as.length = n) (hst0 : as.reverse ++ vO t i :: st = st0) (hdg : decode cc pc = .ok (.invokevirtual index, 3))
    (hrm : rmY.frames + 1 ≤ rm.frames ∧ 8 + (nY + 11) + rmY.locals ≤ rm.locals ∧ cells + rmY.cells ≤ rm.cells ∧ slots + rmY.slots ≤ rm.slots) (hst : nargs st ≤ 8)
    (k1 : AW x w nL cl cells slots Q (pc + 3) lv (v :: st) h) : AW x w nL cl cells slots Q pc lv st0 h := by
  refine r_callV C L hi hk hcl hM hn hst0 hdg hrm hst (fun v' h' q => ?_) (fun k h' q => ?_)
  · obtain ⟨e1, e2⟩ := q
    cases e1; subst e2
    rw [Bool.and_true]
    exact k1
  · cases q.1
/-- methods that write: their answer is v; of the heap behind them P holds -/
theorem r_callSw (C : Cx x w rm own cc nL ret hx) (L : CLk own index y cY nY retY hY n) (hi : Cond.static y ∈ GW) {v : Option AV} (hM : AM x.l y (wsM y cY nY retY hY) false rmY w as h (RetP v P)) (hn : as.length = n) (hst0 : as.reverse ++ st = st0) (hdg : decode cc pc = .ok (.invokestatic index, 3))
    (hrm : rmY.frames + 1 ≤ rm.frames ∧ 8 + (nY + 11) + rmY.locals ≤ rm.locals ∧ rmY.cells = 0 ∧ rmY.slots = 0) (hr2 : cells ≤ rm.cells ∧ slots ≤ rm.slots) (hst : nargs st ≤ 8)
    (k1 : ∀ h', P h' → AW x w nL false cells slots Q (pc + 3) lv (v.toList ++ st) h') : AW x w nL cl cells slots Q pc lv st0 h := by
  refine r_callS C L hi hM hn hst0 hdg ⟨hrm.1, hrm.2.1, by rw [hrm.2.2.1]; exact hr2.1, by rw [hrm.2.2.2]; exact hr2.2⟩ hst (fun v' h' q => ?_) (fun k h' q => ?_)
  · obtain ⟨e1, e2⟩ := q
    cases e1
    rw [Bool.and_false, hrm.2.2.1, hrm.2.2.2]
    exact k1 h' e2
  · cases q.1
theorem r_callVw (C : Cx x w rm own cc nL ret hx) (L : CLk own index y cY nY retY hY n) (hi : Cond.instanceMethod y ∈ GW ∧ Cond.selects y.cls y y ∈ GW) {t i : Nat} (hk : kdT t = 0) {T0 : u_T} {N0 : Nat} (hcl : uCl[clT t]? = some (y.cls, T0, N0)) {v : Option AV} (hM : AM x.l y (wsM y cY nY retY hY) false rmY w (vO t i :: as) h (RetP v P)) (hn : as.length = n) (hst0 : as.reverse ++ vO t i :: st = st0) (hdg : decode cc pc = .ok (.invokevirtual index, 3))
    (hrm : rmY.frames + 1 ≤ rm.frames ∧ 8 + (nY + 11) + rmY.locals ≤ rm.locals ∧ rmY.cells = 0 ∧ rmY.slots = 0) (hr2 : cells ≤ rm.cells ∧ slots ≤ rm.slots) (hst : nargs st ≤ 8)
    (k1 : ∀ h', P h' → AW x w nL false cells slots Q (pc + 3) lv (v.toList ++ st) h') : AW x w nL cl cells slots Q pc lv st0 h := by
  refine r_callV C L hi hk hcl hM hn hst0 hdg ⟨hrm.1, hrm.2.1, by rw [hrm.2.2.1]; exact hr2.1, by rw [hrm.2.2.2]; exact hr2.2⟩ hst (fun v' h' q => ?_) (fun k h' q => ?_)
  · obtain ⟨e1, e2⟩ := q
    cases e1
    rw [Bool.and_false, hrm.2.2.1, hrm.2.2.2]
    exact k1 h' e2
  · cases q.1
end CALL2

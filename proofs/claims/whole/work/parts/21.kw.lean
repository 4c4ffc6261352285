/-! What a method may count on beside the words: classes and their slots, array classes, text constants, Throwable's two statics, what is a subclass of what. -/
def tysL (w : XW) : List (ClassId × FieldType) := [(w.2.2 0, .int), (w.2.2 1, .long), (w.2.2 2, .boolean), (w.2.2 3, .object "HeatShares$Flat"), (w.2.2 4, .array .int)]
def uni (w : XW) (q : Nat) : Prop := ∃ t i, i < cntT t ∧ w.1 t i = q
def exN (k : Nat) : String := match k with
  | 0 => "java/lang/IllegalArgumentException"
  | 1 => "java/lang/IndexOutOfBoundsException"
  | 2 => "java/lang/IllegalStateException"
  | _ => "java/lang/UnsupportedOperationException"
/-- a static that holds a reference, in a cell that is no object of the universe -/
def SZ (w : XW) (C n d : String) (U : State) : Prop := ∃ (c : ClassId) (k : Class) (i : Nat) (f : Field) (a : Nat) (cell : Cell) (v : Value), U.vm.findClass C = some c ∧ U.fieldFound? C n d = some (c, k, i, f) ∧ f.isStatic = true ∧ k.statics = some a ∧ k.staticTypes[f.slot]? = some f.type ∧ U.heap[a]? = some cell ∧ cell.vm.isStatics = true ∧ cell.cls = c ∧ f.slot < cell.slots.size ∧ cell.slots[f.slot]? = some v ∧ v.isRef = true ∧ ¬ uni w a
theorem SZ.lays {w : XW} {C n d : String} {U : State} (h : SZ w C n d U) (A : Array Value) : (Cond.laysStatic C n d).before A U = true := by
  obtain ⟨c, k, i, f, a, cell, v, h1, h2, h3, h4, h5, h6, h7, h8, h9, -⟩ := h
  simp [Cond.before, Cond.holds, Cond.value, h1, h2, h3, h4, h5, h6, h7, h8, h9]
theorem SZ.isr {w : XW} {C n d : String} {U : State} (h : SZ w C n d U) (A : Array Value) : (Cond.isRef (.static C n d)).before A U = true := by
  obtain ⟨c, k, i, f, a, cell, v, h1, h2, h3, h4, h5, h6, h7, h8, h9, h10, h11, -⟩ := h
  have hv : (Term.static C n d).eval A U none [] U = some v := by
    simp [Term.eval, State.fieldNamed?, h2, h3, h4, h6, h7, h10]
  cases v <;> simp [Value.isRef] at h11 <;> simp [Cond.before, Cond.holds, Cond.value, hv]
theorem SZ.at {w : XW} {C n d : String} {s U : State} (h : SZ w C n d s) (hvm : s.vm.Alike U.vm) (hk : ∀ a : Nat, a < s.heap.size → ¬ uni w a → U.heap[a]? = s.heap[a]?) : SZ w C n d U := by
  obtain ⟨c, k, i, f, a, cell, v, h1, h2, h3, h4, h5, h6, h7, h8, h9, h10, h11, h12⟩ := h
  obtain ⟨k', hi', he⟩ := State.fieldFound?_setVm hvm h2
  exact ⟨c, k', i, f, a, cell, v, by rw [hvm.findClass]; exact h1, hi', h3, by rw [he]; exact h4, by rw [he]; exact h5, by rw [hk a (Array.getElem?_eq_some_iff.mp h6).1 h12]; exact h6, h7, h8, h9, h10, h11, h12⟩
abbrev upT : List String := ["java/lang/RuntimeException", "java/lang/Exception", "java/lang/Throwable"]
def KW (w : XW) (U : State) : Prop := va_K w.2.1 uCl (tysL w) U ∧ (∀ q ∈ strL, ∃ a, vk_R q.1 q.2.1 q.2.2 a U) ∧ SZ w Bundle.tN "UNASSIGNED_STACK" Bundle.steD U ∧ SZ w Bundle.tN "SUPPRESSED_SENTINEL" Bundle.listD U ∧ ((∀ k, k < 4 → va_Nw (.castable (exN k) (exN k)) U) ∧ ∀ Y ∈ upT, va_Nw (.declares (Bundle.initS Y)) U) ∧ (∀ j k, j < 4 → k < 4 → j ≠ k → va_Nc (exN j) (exN k) U)
theorem va_Nc_moved {C T : String} {u U : State} (hvm : u.vm.Alike U.vm) (h : va_Nc C T u) : va_Nc C T U := by
  obtain ⟨c, t, h1, h2, h3⟩ := h
  exact ⟨c, t, by rw [hvm.findClass]; exact h1, by rw [hvm.findClass]; exact h2, by rw [hvm.assignable]; exact h3⟩
theorem KW.at {w : XW} {s U : State} {locs : List Loc} (h : KW w s) (hW : s.WarmedH U.vm) (hS : va_S (inU w s.heap.size) s.heap U.heap locs) : KW w U := by
  have hk : ∀ a : Nat, a < s.heap.size → ¬ uni w a → U.heap[a]? = s.heap[a]? := fun a h1 h2 => hS.2.1 a h1 fun z => by
    rcases z with z | z
    · exact h2 z
    · omega
  exact ⟨va_K.moved hW.alike h.1, fun q hq => by
    obtain ⟨a, ha⟩ := h.2.1 q hq
    exact ⟨a, ha.warm hW⟩, h.2.2.1.at hW.alike hk, h.2.2.2.1.at hW.alike hk, ⟨fun k h1 => va_Nw.warmC hW (h.2.2.2.2.1.1 k h1), fun Y hY => va_Nw.warmD hW (h.2.2.2.2.1.2 Y hY)⟩, fun j k h1 h2 h3 => va_Nc_moved hW.alike (h.2.2.2.2.2 j k h1 h2 h3)⟩

/-! What a method may count on beside the words: classes and their slots, array classes, text constants, Throwable's two statics, what is no subclass of what. -/
def tysL (w : XW) : List (ClassId × FieldType) := [(w.2.2 0, .int), (w.2.2 1, .long), (w.2.2 2, .boolean), (w.2.2 3, .object "HeatShares$Flat"), (w.2.2 4, .array .int)]
def uni (w : XW) (q : Nat) : Prop := ∃ t i, i < cntT t ∧ w.1 t i = q
def exN (k : Nat) : String := match k with
  | 0 => "java/lang/IllegalArgumentException"
  | 1 => "java/lang/IndexOutOfBoundsException"
  | 2 => "java/lang/IllegalStateException"
  | _ => "java/lang/UnsupportedOperationException"
def KW (w : XW) (U : State) : Prop := va_K w.2.1 uCl (tysL w) U ∧ (∀ q ∈ strL, ∃ a, vk_R q.1 q.2.1 q.2.2 a U) ∧ va_Zq Bundle.tN "UNASSIGNED_STACK" Bundle.steD (uni w) U U.heap ∧ va_Zq Bundle.tN "SUPPRESSED_SENTINEL" Bundle.listD (uni w) U U.heap ∧ (∀ j k, j < 4 → k < 4 → j ≠ k → va_Nc (exN j) (exN k) U)
theorem va_Nc_moved {C T : String} {u U : State} (hvm : u.vm.Alike U.vm) (h : va_Nc C T u) : va_Nc C T U := by
  obtain ⟨c, t, h1, h2, h3⟩ := h
  exact ⟨c, t, by rw [hvm.findClass]; exact h1, by rw [hvm.findClass]; exact h2, by rw [hvm.assignable]; exact h3⟩
theorem KW.at {w : XW} {s U : State} {locs : List Loc} (h : KW w s) (hW : s.WarmedH U.vm) (hS : va_S (inU w s.heap.size) s.heap U.heap locs) : KW w U := by
  have hk : ∀ a : Nat, a < s.heap.size → ¬ uni w a → U.heap[a]? = s.heap[a]? := fun a h1 h2 => hS.2.1 a h1 fun z => by
    rcases z with z | z
    · exact h2 z
    · omega
  exact ⟨va_K.moved hW.alike h.1, fun q hq => by
    obtain ⟨a, ha⟩ := h.2.1 q hq
    exact ⟨a, ha.warm hW⟩, (h.2.2.1.kept hk).moved hW.alike, (h.2.2.2.1.kept hk).moved hW.alike, fun j k h1 h2 h3 => va_Nc_moved hW.alike (h.2.2.2.2 j k h1 h2 h3)⟩

/-! What a link says. -/
/-- a field's link: the class own names by index the field j of the objects of tag t -/
def FLk (own : String) (index t j : Nat) : Prop := ∃ (C : String) (T : u_T) (N : Nat), uCl[clT t]? = some (C, T, N) ∧ kdT t = 0 ∧ nfT t = N ∧ j < N ∧ (∀ k ∈ u_ws C T N, k ∈ GW) ∧ (T j).1 = C ∧ Cond.fieldLink own index C (T j).2.1 (T j).2.2.1 ∈ GW
/-- it may be written, and is of type ty -/
def PLk (own : String) (index t j : Nat) (ty : FieldType) : Prop := ∃ (C : String) (T : u_T) (N : Nat) (ty0 : Nat → FieldType), uCl[clT t]? = some (C, T, N) ∧ kdT t = 0 ∧ nfT t = N ∧ j < N ∧ (∀ k ∈ u_ws C T N, k ∈ GW) ∧ (T j).1 = C ∧ Cond.fieldLink own index C (T j).2.1 (T j).2.2.1 ∈ GW ∧
  (∀ k, k < N → parseFieldDescriptor (T k).2.2.1 = some (ty0 k)) ∧ (∀ a, a < N → ∀ b, b < N → a ≠ b → (T a).2.1 ≠ (T b).2.1) ∧ (T j).2.2.2 = false ∧ ty0 j = ty
def codeW (y : MethodName) (cc : ByteArray) (nL : Nat) (ret : Option FieldType) (hs : List (Nat × Nat × Nat × Nat)) : Cond := match hs with
  | [] => .code y cc nL ret
  | _ :: _ => .codeWith y cc nL ret hs
/-- the words of a callee -/
def CLk (own : String) (index : Nat) (y : MethodName) (cY : ByteArray) (nY : Nat) (retY : Option FieldType) (hY : List (Nat × Nat × Nat × Nat)) (n : Nat) : Prop :=
  Cond.methodLink own index y ∈ GW ∧ codeW y cY nY retY hY ∈ GW ∧ Cond.initialized y.cls ∈ GW ∧ y.cls ≠ "java/lang/invoke/MethodHandle" ∧ y.cls ≠ "java/lang/invoke/VarHandle" ∧ (parseMethodDescriptor y.desc).map (fun d => d.parameters.length) = some n

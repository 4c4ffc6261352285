/-! The law's start: the words, the world, the first objects. -/
/-! THE CLAIM OUT OF ONE WALK OF THE LAW'S BODY. Your part is whole_start (and what it stands on); all else here is the same for every law, but numbers. -/
def R_law : String := "HeatSharesLaw"
def lw_P (b : Addr) (xs : List Int32) (args : Array Value) (s : State) : Prop := args = #[.ref b] ∧ s.IntsAt b xs ∧ xs.length ≤ 2048 ∧ (Jvm.Cond.and given_1 narrow_1).before args s = true
def lw_Q (_ : Array Value) (s : State) (o : Outcome) (t : State) : Prop := o = .returned (some (.int 1)) ∧ Framed s o t [] 601024 7293034
def lw_Z (below : List Frame) (a : Array Value) (s : State) : State → Prop := fun t => ∃ o, t.status = .running ∧ Ended t below o ∧ lw_Q a s o t
/-- the law's own end, with 1 on the stack, nothing written that was there before, its room as the claim has it -/
theorem lw_ret {p : Program} {l : Launch} {e : Env} {s : State} {m : MethodId} {below : List Frame} {meth : Method} {c : Code} {b : Nat} (hx : p.tables.exec = Jvm.exec) (hb : c.code = code) (hr : meth.sig.returnType = ret) (hlocks : meth.locks = false) {pc : Nat} {H : Heap} {ls : Array Slot} (hdg : decode code pc = .ok (.ireturn, 1)) : W p l e room_1 s m #[Value.ref b] below meth c H [] 601024 7293034 (lw_Z below #[Value.ref b] s) (F0 m pc ls [.int 1]) := by
  intro T hT X
  obtain ⟨fs, hret, hrun, hended, hW, hframe⟩ := X.leave (v := some (.int 1)) (hlocks := hlocks) (fun h => by rw [hr] at h; cases h)
  have hmeth' : T.vm.method? m = some meth := X.method'
  refine ⟨T.setFrames fs, ?_, .returned (some (.int 1)), hrun, hended, rfl, ⟨_, rfl⟩, hW, hframe⟩
  jvm_step X.here [X.here.top, hx, hb, hdg, hmeth', hr, ret, narrow_b1]
  (try refine ⟨rfl, ?_⟩); (try refine ⟨rfl, ?_⟩)
  first | (intro acts; rw [hret _ acts rfl rfl rfl]) | rw [hret _ _ rfl rfl rfl]
  exact Steps.refl _
/-- what holds at the law's entry: the machine, the code, the tables' words (any of lw_tbl by 'hts w (by decide +kernel)'), the script of L ints xs at the cell b, what the Statement gives of the start (any of its parts by flat_of_before) -/
def lw_At (p : Program) (s : State) (m : MethodId) (meth : Method) (c : Code) (b L : Nat) (xs : Nat → Int32) : Prop :=
  p.tables.exec = Jvm.exec ∧ c.code = code ∧ meth.sig.returnType = ret ∧ c.maxLocals = 7 ∧ s.vm.findClass R_law = some m.cls ∧ (∀ w ∈ lw_tbl, w.before #[Value.ref b] s = true) ∧ va_X b L xs s s.heap ∧ b < s.heap.size ∧ meth.locks = false ∧ (Jvm.Cond.and given_1 narrow_1).before #[Value.ref b] s = true ∧ c.exceptionTable.toList = []

theorem SZ_of {w : XW} {s : State} {args : Array Value} {C n d : String} (hl : (Cond.laysStatic C n d).before args s = true) (hr : (Cond.isRef (.static C n d)).before args s = true) (hU : ∀ a, a < s.heap.size → ¬ uni w a) : SZ w C n d s := by
  obtain ⟨c, k, i, f, a, cell, hc, hi, hst, ha, hcell, hs, hcls, hlt, hty⟩ := Cond.laysStatic_spec hl
  cases hv : (Term.static C n d).eval args s none [] s with
  | none => simp [Cond.before, Cond.holds, Cond.value, hv] at hr
  | some v =>
    obtain ⟨-, a', cell', ha', hcell', -, hslot⟩ := Term.static_spec hi hv
    cases ha.symm.trans ha'
    cases hcell.symm.trans hcell'
    refine ⟨c, k, i, f, a, cell, v, hc, hi, hst, ha, hty, hcell, hs, hcls, hlt, hslot, ?_, hU a (Array.getElem?_eq_some_iff.mp hcell).1⟩
    cases v <;> simp [Cond.before, Cond.holds, Cond.value, hv] at hr <;> rfl
theorem GW_of {s : State} {args : Array Value} (hts : ∀ k ∈ lw_tbl, k.before args s = true) : ∀ k ∈ GW, k.before args s = true := fun k hk => hts k (List.mem_filter.mp hk).1
theorem world_ex {s : State} {args : Array Value} (hts : ∀ k ∈ lw_tbl, k.before args s = true) : ∃ w : XW, wB w s.heap.size ∧ va_K w.2.1 uCl (tysL w) s := by
  have hg := GW_of hts
  obtain ⟨c0, i0, k0⟩ := u_known hg in_H (hg _ (show Cond.instantiable R_H 13 ∈ GW from gwT 20 (by decide +kernel) (by decide +kernel)))
  obtain ⟨c1, i1, k1⟩ := u_known hg in_O (hg _ (show Cond.instantiable R_O 2 ∈ GW from gwT 28 (by decide +kernel) (by decide +kernel)))
  obtain ⟨c2, i2, k2⟩ := u_known hg in_F (hg _ (show Cond.instantiable R_F 7 ∈ GW from gwT 35 (by decide +kernel) (by decide +kernel)))
  obtain ⟨c3, i3, k3⟩ := u_known hg in_U (hg _ (show Cond.instantiable R_U 4 ∈ GW from gwT 94 (by decide +kernel) (by decide +kernel)))
  obtain ⟨c4, i4, k4⟩ := u_known hg in_M (hg _ (show Cond.instantiable R_M 8 ∈ GW from gwT 115 (by decide +kernel) (by decide +kernel)))
  obtain ⟨c5, i5, k5⟩ := u_known hg in_P (hg _ (show Cond.instantiable R_P 5 ∈ GW from gwT 149 (by decide +kernel) (by decide +kernel)))
  obtain ⟨c6, i6, k6⟩ := u_known hg in_S (hg _ (show Cond.instantiable R_S 5 ∈ GW from gwT 177 (by decide +kernel) (by decide +kernel)))
  obtain ⟨c7, i7, k7⟩ := u_known hg in_A (hg _ (show Cond.instantiable R_A 5 ∈ GW from gwT 200 (by decide +kernel) (by decide +kernel)))
  obtain ⟨c8, i8, k8⟩ := u_known hg in_R (hg _ (show Cond.instantiable R_R 38 ∈ GW from gwT 784 (by decide +kernel) (by decide +kernel)))
  obtain ⟨a0, q0, p0, x0, y0, z0⟩ := Cond.arrayClass_spec (hg _ ac_int)
  obtain ⟨a1, q1, p1, x1, y1, z1⟩ := Cond.arrayClass_spec (hg _ ac_long)
  obtain ⟨a2, q2, p2, x2, y2, z2⟩ := Cond.arrayClass_spec (hg _ ac_bool)
  obtain ⟨p3, a3, q3, u3, v3, y3, z3, x3⟩ := Cond.arrayOver_spec (hts (Cond.arrayOver (.object "HeatShares$Flat")) (List.mem_append_right _ (List.mem_of_getElem? (i := 34) (by decide +kernel))))
  obtain ⟨p4, a4, q4, u4, v4, y4, z4, x4⟩ := arrayOverA_spec (hts (Cond.arrayOver (.array .int)) (List.mem_append_right _ (List.mem_of_getElem? (i := 206) (by decide +kernel))))
  refine ⟨(fun t i => s.heap.size + off t i, (fun c => match c with | 0 => c0 | 1 => c1 | 2 => c2 | 3 => c3 | 4 => c4 | 5 => c5 | 6 => c6 | 7 => c7 | 8 => c8 | _ => 0, fun c => match c with | 0 => i0 | 1 => i1 | 2 => i2 | 3 => i3 | 4 => i4 | 5 => i5 | 6 => i6 | 7 => i7 | 8 => i8 | _ => fun _ => 0), fun k => match k with | 0 => a0 | 1 => a1 | 2 => a2 | 3 => a3 | _ => a4), fun t i _ => rfl, fun c q hc => ?_, fun k q hk => ?_⟩
  · match c, hc with
    | 0, hc => cases hc; exact k0
    | 1, hc => cases hc; exact k1
    | 2, hc => cases hc; exact k2
    | 3, hc => cases hc; exact k3
    | 4, hc => cases hc; exact k4
    | 5, hc => cases hc; exact k5
    | 6, hc => cases hc; exact k6
    | 7, hc => cases hc; exact k7
    | 8, hc => cases hc; exact k8
    | n + 9, hc => simp [uCl] at hc
  · match k, hk with
    | 0, hk => cases hk; exact ⟨fun n z => ⟨fun k h => (by cases h), q0, y0, p0, z0⟩, x0⟩
    | 1, hk => cases hk; exact ⟨fun n z => ⟨fun k h => (by cases h), q1, y1, p1, z1⟩, x1⟩
    | 2, hk => cases hk; exact ⟨fun n z => ⟨fun k h => (by cases h), q2, y2, p2, z2⟩, x2⟩
    | 3, hk => cases hk; exact ⟨fun n z => ⟨fun k h => (by cases h), q3, y3, p3, z3⟩, q3, p3, y3, z3, u3, x3⟩
    | 4, hk => cases hk; exact ⟨fun n z => ⟨fun k h => (by cases h), q4, y4, p4, z4⟩, x4⟩
    | n + 5, hk => simp [tysL] at hk
set_option maxRecDepth 100000 in
theorem str_in : ∀ q ∈ strL, q.1 = R_H ∧ Cond.stringRef q.1 q.2.1 q.2.2 ∈ tables_1 := by decide +kernel
theorem KW_of {s : State} {args : Array Value} {w : XW} (hts : ∀ k ∈ lw_tbl, k.before args s = true) (hgv : (Jvm.Cond.and given_1 narrow_1).before args s = true) (hw : wB w s.heap.size) (hK : va_K w.2.1 uCl (tysL w) s) : KW w s := by
  have hU : ∀ a, a < s.heap.size → ¬ uni w a := fun a ha z => by
    obtain ⟨t, i, hi, e⟩ := z
    rw [hw t i hi] at e
    omega
  have hs := flat_of_before _ hgv
  refine ⟨hK, fun q hq => ?_, SZ_of (hts (Cond.laysStatic Bundle.tN "UNASSIGNED_STACK" Bundle.steD) (List.mem_append_right _ (List.mem_of_getElem? (i := 485) (by decide +kernel)))) (hs (Cond.isRef (.static Bundle.tN "UNASSIGNED_STACK" Bundle.steD)) (by decide +kernel)) hU, SZ_of (hts (Cond.laysStatic Bundle.tN "SUPPRESSED_SENTINEL" Bundle.listD) (List.mem_append_right _ (List.mem_of_getElem? (i := 487) (by decide +kernel)))) (hs (Cond.isRef (.static Bundle.tN "SUPPRESSED_SENTINEL" Bundle.listD)) (by decide +kernel)) hU, ⟨fun k hk => ?_, fun Y hY => ?_⟩, fun j k hj hk hne => ?_⟩
  · obtain ⟨e, hm⟩ := str_in q hq
    have hc : s.vm.findClass q.1 = some (w.2.1.1 0) := by rw [e]; exact (hK.1 0 _ rfl).2.1
    have hw1 := hts _ (List.mem_append_right _ hm)
    obtain ⟨k, cf, i, a, -, -, -, -, -, he⟩ := Cond.stringRef_spec hc hw1
    exact ⟨a, vk_R.of (A := args) hw1 he⟩
  · rcases (show k = 0 ∨ k = 1 ∨ k = 2 ∨ k = 3 by omega) with rfl | rfl | rfl | rfl
    · exact va_Nw.of rfl (hts (Cond.castable (exN 0) (exN 0)) (List.mem_append_right _ (List.mem_of_getElem? (i := 460) (by decide +kernel))))
    · exact va_Nw.of rfl (hts (Cond.castable (exN 1) (exN 1)) (List.mem_append_right _ (List.mem_of_getElem? (i := 561) (by decide +kernel))))
    · exact va_Nw.of rfl (hts (Cond.castable (exN 2) (exN 2)) (List.mem_append_right _ (List.mem_of_getElem? (i := 592) (by decide +kernel))))
    · exact va_Nw.of rfl (hts (Cond.castable (exN 3) (exN 3)) (List.mem_append_right _ (List.mem_of_getElem? (i := 529) (by decide +kernel))))
  · have hY2 : Y = "java/lang/RuntimeException" ∨ Y = "java/lang/Exception" ∨ Y = "java/lang/Throwable" := by simpa [upT] using hY
    rcases hY2 with rfl | rfl | rfl
    · exact va_Nw.of rfl (hts (Cond.declares (Bundle.initS "java/lang/RuntimeException")) (List.mem_append_right _ (List.mem_of_getElem? (i := 462) (by decide +kernel))))
    · exact va_Nw.of rfl (hts (Cond.declares (Bundle.initS "java/lang/Exception")) (List.mem_append_right _ (List.mem_of_getElem? (i := 464) (by decide +kernel))))
    · exact va_Nw.of rfl (hts (Cond.declares (Bundle.initS "java/lang/Throwable")) (List.mem_append_right _ (List.mem_of_getElem? (i := 466) (by decide +kernel))))
  · rcases (show j = 0 ∨ j = 1 ∨ j = 2 ∨ j = 3 by omega) with rfl | rfl | rfl | rfl <;> rcases (show k = 0 ∨ k = 1 ∨ k = 2 ∨ k = 3 by omega) with rfl | rfl | rfl | rfl <;> first | (exfalso; omega) | exact va_Nc.of (hs _ (by decide +kernel))
theorem KN_of {s : State} {args : Array Value} (hts : ∀ k ∈ lw_tbl, k.before args s = true) : KN s := by
  refine ⟨fun q hq => ?_, va_AO.of (hts (Cond.arrayOver (.object "HeatShares$Flat")) (List.mem_append_right _ (List.mem_of_getElem? (i := 34) (by decide +kernel)))), aoA.of (hts (Cond.arrayOver (.array .int)) (List.mem_append_right _ (List.mem_of_getElem? (i := 206) (by decide +kernel))))⟩
  have hq2 : q = (R_H, 18, y_U_init, R_H) ∨ q = (R_H, 25, y_M_init, R_H) ∨ q = (R_H, 32, y_P_init, R_H) ∨ q = (R_H, 39, y_S_init, R_H) ∨ q = (R_H, 46, y_A_init, R_H) := by simpa [nestL] using hq
  rcases hq2 with rfl | rfl | rfl | rfl | rfl
  · exact va_Nw.of rfl (hts (Cond.methodLinkNest R_H 18 y_U_init R_H) (List.mem_append_right _ (List.mem_of_getElem? (i := 95) (by decide +kernel))))
  · exact va_Nw.of rfl (hts (Cond.methodLinkNest R_H 25 y_M_init R_H) (List.mem_append_right _ (List.mem_of_getElem? (i := 116) (by decide +kernel))))
  · exact va_Nw.of rfl (hts (Cond.methodLinkNest R_H 32 y_P_init R_H) (List.mem_append_right _ (List.mem_of_getElem? (i := 150) (by decide +kernel))))
  · exact va_Nw.of rfl (hts (Cond.methodLinkNest R_H 39 y_S_init R_H) (List.mem_append_right _ (List.mem_of_getElem? (i := 178) (by decide +kernel))))
  · exact va_Nw.of rfl (hts (Cond.methodLinkNest R_H 46 y_A_init R_H) (List.mem_append_right _ (List.mem_of_getElem? (i := 201) (by decide +kernel))))
theorem cnt_hi : ∀ t : Nat, 71 ≤ t → cntT t = 0 := by
  intro t h
  unfold cntT
  split <;> first | (exfalso; omega) | rfl
def invO (n : Nat) : Nat × Nat := if n < 3 then (n + 1, 0) else if n < 21 then (4 + (n - 3) % 3, (n - 3) / 3) else if n < 39 then (n - 14, 0) else if n < 42 then (25, n - 39) else if n < 47 then (n - 16, 0) else if n < 69 then (n - 7, 0) else (70, 0)
theorem inv_off : ∀ t : Nat, t < 71 → ∀ i : Nat, i < cntT t → invO (off t i) = (t, i) := by decide +kernel
theorem wB_inj {w : XW} {b : Nat} (hw : wB w b) : adInj w := by
  intro t i t' i' hi hi' e
  have h1 : t < 71 := by
    by_cases c : t < 71
    · exact c
    · rw [cnt_hi t (by omega)] at hi; omega
  have h2 : t' < 71 := by
    by_cases c : t' < 71
    · exact c
    · rw [cnt_hi t' (by omega)] at hi'; omega
  rw [hw t i hi, hw t' i' hi'] at e
  have e2 : off t i = off t' i' := by omega
  have z := inv_off t h1 i hi
  rw [e2, inv_off t' h2 i' hi'] at z
  exact ⟨(congrArg Prod.fst z).symm, (congrArg Prod.snd z).symm⟩
/-- when all is made, the one form of the heap is the other -/
theorem fvP_x {w : XW} {h : AH} {t i j : Nat} (e0 : ¬ ftT t j = 0) (e1 : ¬ ftT t j = 1) (h1 : h t i j = 1) : fvP w h t i j = .ref (w.1 (rfT t i j).1 (rfT t i j).2) := by
  unfold fvP
  split
  · rename_i q; exact absurd q e0
  · rename_i q; exact absurd q e1
  · rw [if_pos h1]
theorem fv_x {h : AH} {t i j : Nat} (e0 : ¬ ftT t j = 0) (e1 : ¬ ftT t j = 1) : fv h t i j = vO (rfT t i j).1 (rfT t i j).2 := by
  unfold fv
  split
  · rename_i q; exact absurd q e0
  · rename_i q; exact absurd q e1
  · rfl
def lenT (t : Nat) : Nat := if kdT t = 0 then nfT t else lnT t
theorem full_rep {w : XW} {E : EX} {h : AH} {H : Heap} (hR : PRp w E h H) (hE : ∀ t i, i < cntT t → E t i = true) (hr : ∀ t i, i < cntT t → ∀ j, j < lenT t → ¬ ftT t j = 0 → ¬ ftT t j = 1 → h t i j = 1) : HRep w h H := by
  intro t i hi
  have c := hR t i hi (hE t i hi)
  have ev : ∀ j, j < lenT t → fvP w h t i j = cV w (fv h t i j) := by
    intro j hj
    by_cases e0 : ftT t j = 0
    · rw [fvP_0 e0, fv_0 e0]; rfl
    · by_cases e1 : ftT t j = 1
      · rw [fvP_1 e1, fv_1 e1]; rfl
      · rw [fvP_x e0 e1 (hr t i hi j hj e0 e1), fv_x e0 e1]; rfl
  unfold lenT at ev
  unfold cellP at c
  unfold cellR
  split at c
  · rename_i e
    rw [e]
    rw [if_pos e] at ev
    exact c.to fun j hj => ev j hj
  · rename_i k e
    rw [e]
    rw [if_neg (by omega)] at ev
    show H[w.1 t i]? = _
    rw [c]
    unfold arrV
    exact congrArg (fun f => some ({ cls := w.2.2 k, slots := Array.ofFn (n := lnT t) f, vm := .none } : Cell)) (funext fun j => ev j.val j.isLt)
def E0 : EX := fun _ _ => false
def Ef : EX := eadd (eK_R (eadd (eK_H (eadd E0 1 0)) 40 0)) 70 0
def hf0 : AH := hK_R (hK_H (fun _ _ _ => 0))
theorem Ef_all : ∀ t i, i < cntT t → Ef t i = true := by
  intro t i hi
  have h1 : t < 71 := by
    by_cases c : t < 71
    · exact c
    · rw [cnt_hi t (by omega)] at hi; omega
  have z : ∀ t : Nat, t < 71 → ∀ i : Nat, i < cntT t → Ef t i = true := by decide +kernel
  exact z t h1 i hi
def okR (t i j : Nat) : Bool := decide (ftT t j = 0) || decide (ftT t j = 1) || decide (hf0 t i j = 1)
theorem hf_ref : ∀ t i, i < cntT t → ∀ j, j < lenT t → ¬ ftT t j = 0 → ¬ ftT t j = 1 → hf0 t i j = 1 := by
  intro t i hi j hj e0 e1
  have h1 : t < 71 := by
    by_cases c : t < 71
    · exact c
    · rw [cnt_hi t (by omega)] at hi; omega
  have z : ∀ t : Nat, t < 71 → ∀ i : Nat, i < cntT t → ∀ j : Nat, j < lenT t → okR t i j = true := by decide +kernel
  have y := z t h1 i hi j hj
  unfold okR at y
  simp [e0, e1] at y
  exact y
theorem RL_start : RL hf0 := by
  unfold RL
  refine ⟨?_, ?_, ?_, ?_, ?_⟩
  · unfold IC FIc FIv FUv nC cAr cFc cKn cRd
    exact ⟨by decide +kernel, by decide +kernel, by decide +kernel, by decide +kernel, by decide +kernel, by decide +kernel, fun f t hf ht => (by decide +kernel : ∀ f : Nat, f < 6 → ∀ t : Nat, t < 12 → (hf0 6 f t = -2 ∨ (-1 ≤ hf0 6 f t ∧ hf0 6 f t < hf0 23 0 4))) f hf t ht, by decide +kernel, by decide +kernel, by decide +kernel, by decide +kernel, by decide +kernel, by decide +kernel, by decide +kernel, by decide +kernel⟩
  · have n0 : nC hf0 = 0 := by decide +kernel
    unfold RA
    rw [n0]
    exact ⟨by decide +kernel, fun f hf => absurd hf (Nat.not_lt_zero f), fun f t hf => absurd hf (Nat.not_lt_zero f), fun f t hf => absurd hf (Nat.not_lt_zero f), fun f _ h6 => (by decide +kernel : ∀ f : Nat, f < 6 → hf0 4 f 3 = -1 ∧ hf0 4 f 4 = -1) f h6, fun f t _ h6 ht => (by decide +kernel : ∀ f : Nat, f < 6 → ∀ t : Nat, t < 13 → hf0 5 f t = -1) f h6 t ht, fun f t _ h6 ht => (by decide +kernel : ∀ f : Nat, f < 6 → ∀ t : Nat, t < 12 → hf0 6 f t = -2) f h6 t ht⟩
  · unfold RB
    exact ⟨by decide +kernel, by decide +kernel, funext fun k => rfl, funext fun k => rfl, by decide +kernel, by decide +kernel, by decide +kernel, by decide +kernel, by decide +kernel, funext fun k => rfl⟩
  · unfold RP
    exact ⟨funext fun k => rfl, by decide +kernel, by decide +kernel, by decide +kernel, by decide +kernel, by decide +kernel, fun i j hi hj => (by decide +kernel : ∀ i : Nat, i < 3 → ∀ j : Nat, j < 21 → 0 ≤ hf0 25 i j ∧ hf0 25 i j ≤ 20000000) i hi j hj, by decide +kernel, by decide +kernel⟩
  · exact ⟨by decide +kernel, by decide +kernel, fun z => absurd (show (0 : Int) = 1 from z) (by decide)⟩
theorem Stand_more {p : Program} {l : Launch} {e : Env} {R : Room} {s : State} {m : MethodId} {args : Array Value} {below : List Frame} {meth : Method} {c : Code} {T : State} {locs : List Loc} {cells slots c2 s2 : Nat} (X : Stand p l e R s m args below meth c T locs cells slots) (h1 : cells ≤ c2) (h2 : slots ≤ s2) : Stand p l e R s m args below meth c T locs c2 s2 :=
  ⟨X.admits, X.cas, X.clock, X.frames, X.room, X.hears, X.method, X.code, X.here, X.tail, X.warmed, X.limits, X.bytes, X.same.mono h1 h2⟩
section LOOP
variable {p : Program} {l : Launch} {e : Env} {s : State} {m : MethodId} {below : List Frame} {meth : Method} {c : Code} {w : XW} {b L : Nat} {xs : Nat → Int}
theorem law_end (C : Cx (p, l, e, room_1, s, m, #[Value.ref b], below, meth, c) w room_1 R_L code 7 (some .boolean) []) (hw : wB w s.heap.size) {cells slots : Nat} (hc : cells ≤ 601024 ∧ slots ≤ 7293034) {lv : List (Nat × AV)} {h : AH} {pc : Nat} (hdg : decode code pc = .ok (.ireturn, 1)) : AW (p, l, e, room_1, s, m, #[Value.ref b], below, meth, c) w 7 false cells slots (lw_Z below #[Value.ref b] s) pc lv [vI 1] h := by
  intro hh hl hs H ls locs hR hv hS T hT X
  have hlocks : meth.locks = false := C.lk
  have X2 := Stand_more (Stand.forget (locs := []) X (fun q hq => by
    rcases hS.2.2 q hq with ⟨t, i, hi, z⟩ | z
    · rw [hw t i hi] at z
      show s.heap.size ≤ q.base
      omega
    · exact z)) hc.1 hc.2
  exact lw_ret C.ex C.by C.rt hlocks hdg T hT X2
set_option maxHeartbeats 1000000 in
theorem law_loop (hx : l.stackTraces = false) (C : Cx (p, l, e, room_1, s, m, #[Value.ref b], below, meth, c) w room_1 R_L code 7 (some .boolean) []) (hw : wB w s.heap.size) (S : scrOK (p, l, e, room_1, s, m, #[Value.ref b], below, meth, c) w b L xs) : ∀ (mm : Nat) (i : Int) (h : AH) (cells slots : Nat), 0 ≤ i → i ≤ 2052 → (2052 - i).toNat = mm → cells ≤ 100 + i.toNat → slots ≤ 2000 + 8 * i.toNat → RL h → AW (p, l, e, room_1, s, m, #[Value.ref b], below, meth, c) w 7 false cells slots (lw_Z below #[Value.ref b] s) 23 [(4, vI i), (3, vO 70 0), (2, vO 40 0), (1, vO 1 0), (0, vX b)] [] h := by
  intro mm
  induction mm using Nat.strongRecOn with
  | _ mm ih =>
  intro i h cells slots hi0 hi1 hm hcs hss R
  have hL := S.2.2.2.2
  have nxt : i + 3 < (L : Int) → ∀ (h2 : AH) (c2 s2 : Nat), RL h2 → c2 ≤ cells + 1 → s2 ≤ slots + 8 → AW (p, l, e, room_1, s, m, #[Value.ref b], below, meth, c) w 7 false c2 s2 (lw_Z below #[Value.ref b] s) 1137 [(4, vI i), (3, vO 70 0), (2, vO 40 0), (1, vO 1 0), (0, vX b)] [] h2 := by
    intro hq h2 c2 s2 R2 hc2 hs2
    refine r_iinc C d_L_law_1137 rfl (by decide) (by omega) ?_
    refine r_goto (tgt := 23) C d_L_law_1140 (by decide) ?_
    exact AW.lvs [(4, _), (3, _), (2, _), (1, _), (0, _)] ⟨rfl, rfl, rfl, rfl, rfl, trivial⟩ (ih (mm - 4) (by omega) (i + 4) h2 c2 s2 (by omega) (by omega) (by omega) (by omega) (by omega) R2)
  have cs : i + 3 < (L : Int) → AW (p, l, e, room_1, s, m, #[Value.ref b], below, meth, c) w 7 false cells slots (lw_Z below #[Value.ref b] s) 39 [(4, vI i), (3, vO 70 0), (2, vO 40 0), (1, vO 1 0), (0, vX b)] [vI (xs i.toNat % 32)] h := by
    intro hq
    have hc : cells + 1 ≤ 601024 ∧ slots + 8 ≤ 7293034 := ⟨by omega, by omega⟩
    have k0 := Int.emod_nonneg (xs i.toNat) (show (32 : Int) ≠ 0 by decide)
    have k1 := Int.emod_lt_of_pos (xs i.toNat) (show (0 : Int) < 32 by decide)
    generalize xs i.toNat % 32 = kk at k0 k1 ⊢
    rcases (show kk = 0 ∨ kk = 1 ∨ kk = 2 ∨ kk = 3 ∨ kk = 4 ∨ kk = 5 ∨ kk = 6 ∨ kk = 7 ∨ kk = 8 ∨ kk = 9 ∨ kk = 10 ∨ kk = 11 ∨ kk = 12 ∨ kk = 13 ∨ kk = 14 ∨ kk = 15 ∨ kk = 16 ∨ kk = 17 ∨ kk = 18 ∨ kk = 19 ∨ 20 ≤ kk by omega) with rfl | rfl | rfl | rfl | rfl | rfl | rfl | rfl | rfl | rfl | rfl | rfl | rfl | rfl | rfl | rfl | rfl | rfl | rfl | rfl | hk
    · exact r_tableIn (tgt := 132) (off := 93) C d_L_law_39 (by decide) (by decide) (by decide) (by decide) (law_flat hx C S ⟨hi0, hq⟩ hc R (nxt hq))
    · exact r_tableIn (tgt := 212) (off := 173) C d_L_law_39 (by decide) (by decide) (by decide) (by decide) (law_reading hx C S ⟨hi0, hq⟩ hc R (nxt hq))
    · exact r_tableIn (tgt := 272) (off := 233) C d_L_law_39 (by decide) (by decide) (by decide) (by decide) (law_enter hx C S ⟨hi0, hq⟩ hc R (nxt hq))
    · exact r_tableIn (tgt := 340) (off := 301) C d_L_law_39 (by decide) (by decide) (by decide) (by decide) (law_leave hx C S ⟨hi0, hq⟩ hc R (nxt hq))
    · exact r_tableIn (tgt := 388) (off := 349) C d_L_law_39 (by decide) (by decide) (by decide) (by decide) (law_deliver hx C S ⟨hi0, hq⟩ hc R (nxt hq))
    · exact r_tableIn (tgt := 436) (off := 397) C d_L_law_39 (by decide) (by decide) (by decide) (by decide) (law_endStock hx C S ⟨hi0, hq⟩ hc R (nxt hq))
    · exact r_tableIn (tgt := 472) (off := 433) C d_L_law_39 (by decide) (by decide) (by decide) (by decide) (law_sideCosts hx C S ⟨hi0, hq⟩ hc R (nxt hq))
    · exact r_tableIn (tgt := 508) (off := 469) C d_L_law_39 (by decide) (by decide) (by decide) (by decide) (law_water hx C S ⟨hi0, hq⟩ hc R (nxt hq))
    · exact r_tableIn (tgt := 556) (off := 517) C d_L_law_39 (by decide) (by decide) (by decide) (by decide) (law_permille hx C S ⟨hi0, hq⟩ hc R (nxt hq))
    · exact r_tableIn (tgt := 592) (off := 553) C d_L_law_39 (by decide) (by decide) (by decide) (by decide) (law_degrees hx C S ⟨hi0, hq⟩ hc R (nxt hq))
    · exact r_tableIn (tgt := 640) (off := 601) C d_L_law_39 (by decide) (by decide) (by decide) (by decide) (law_prepay hx C S ⟨hi0, hq⟩ hc R (nxt hq))
    · exact r_tableIn (tgt := 688) (off := 649) C d_L_law_39 (by decide) (by decide) (by decide) (by decide) (law_bill hx C S ⟨hi0, hq⟩ hc R (nxt hq))
    · exact r_tableIn (tgt := 701) (off := 662) C d_L_law_39 (by decide) (by decide) (by decide) (by decide) (law_amount hx C S ⟨hi0, hq⟩ hc R (nxt hq))
    · exact r_tableIn (tgt := 769) (off := 730) C d_L_law_39 (by decide) (by decide) (by decide) (by decide) (law_paid hx C S ⟨hi0, hq⟩ hc R (nxt hq))
    · exact r_tableIn (tgt := 825) (off := 786) C d_L_law_39 (by decide) (by decide) (by decide) (by decide) (law_part hx C S ⟨hi0, hq⟩ hc R (nxt hq))
    · exact r_tableIn (tgt := 881) (off := 842) C d_L_law_39 (by decide) (by decide) (by decide) (by decide) (law_replaced hx C S ⟨hi0, hq⟩ hc R (nxt hq))
    · exact r_tableIn (tgt := 937) (off := 898) C d_L_law_39 (by decide) (by decide) (by decide) (by decide) (law_send hx C S ⟨hi0, hq⟩ hc R (nxt hq))
    · exact r_tableIn (tgt := 981) (off := 942) C d_L_law_39 (by decide) (by decide) (by decide) (by decide) (law_sent hx C S ⟨hi0, hq⟩ hc R (nxt hq))
    · exact r_tableIn (tgt := 1037) (off := 998) C d_L_law_39 (by decide) (by decide) (by decide) (by decide) (law_closeYear hx C S ⟨hi0, hq⟩ hc R (nxt hq))
    · exact r_tableIn (tgt := 1081) (off := 1042) C d_L_law_39 (by decide) (by decide) (by decide) (by decide) (law_known hx C S ⟨hi0, hq⟩ hc R (nxt hq))
    · exact r_tableOut (tgt := 1137) C d_L_law_39 (Or.inr (by omega)) (by decide) (nxt hq h cells slots R (by omega) (by omega))
  refine r_iload C d_L_law_23 rfl ?_
  refine r_aload_nX (i0 := 0) C d_L_law_25 rfl rfl ?_
  refine r_slen C S d_L_law_26 ?_
  refine r_iconst C d_L_law_27 (by decide) ?_
  refine r_isub C d_L_law_28 (by omega) ?_
  refine r_icmp_gt (tgt := 1143) C d_L_law_29 (by decide) (fun q29 => ?_) (fun q29 => ?_)
  · refine r_iconst C d_L_law_1143 (by decide) ?_
    exact law_end C hw ⟨by omega, by omega⟩ d_L_law_1144
  · refine r_aload_nX (i0 := 0) C d_L_law_32 rfl rfl ?_
    refine r_iload C d_L_law_33 rfl ?_
    refine r_sload C S d_L_law_35 (by omega) ?_
    refine r_bipush C d_L_law_36 (by decide) (by decide) ?_
    refine r_iand31 C d_L_law_38 ?_
    exact cs (by omega)
end LOOP
theorem eK_H_hi (E : EX) {t i : Nat} (h : t < 2 ∨ 30 < t) : eK_H E t i = E t i := by
  unfold eK_H
  rw [eadd_ne (by omega), eadd_ne (by omega), eK_A_hi _ (by omega), eadd_ne (by omega), eK_S_hi _ (by omega), eadd_ne (by omega), eK_P_hi _ (by omega), eadd_ne (by omega), eK_M_hi _ (by omega), eadd_ne (by omega), eK_U_hi _ (by omega), eadd_ne (by omega), eK_O_hi _ (by omega), eadd_ne (by omega)]
set_option maxHeartbeats 1000000 in
theorem whole_start {p : Program} {e : Env} {s : State} {m : MethodId} {below : List Frame} {meth : Method} {c : Code} (l : Launch) (hst : l.stackTraces = false) {b L : Nat} {xs : Nat → Int32} (hL : L ≤ 2048) (C0 : lw_At p s m meth c b L xs) : W p l e room_1 s m #[Value.ref b] below meth c s.heap [] 0 0 (lw_Z below #[Value.ref b] s) (entryFrame m ([Value.ref b] : List Value).toArray 7) := by
  obtain ⟨hex, hby, hrt, hml, hown, hts, hX, hbl, hlk, hgv, htb⟩ := C0
  obtain ⟨w, hw, hK⟩ := world_ex hts
  have hkw := KW_of hts hgv hw hK
  have hN := KN_of hts
  intro T hT X
  have htr : e.platform.stackTraces = false := by rw [X.admits.platform]; exact hst
  have C : Cx (p, l, e, room_1, s, m, #[Value.ref b], below, meth, c) w room_1 R_L code 7 (some .boolean) [] := ⟨hex, hby, hml, hown, hlk, hrt, rfl, GW_of hts, hkw, wB_inj hw, htr, htb⟩
  have S : scrOK (p, l, e, room_1, s, m, #[Value.ref b], below, meth, c) w b L (fun j => (xs j).toInt) := by
    refine ⟨?_, hbl, fun z => ?_, fun j => ⟨(xs j).le_toInt, by have z := (xs j).toInt_lt; show (xs j).toInt ≤ 2147483647; omega⟩, hL⟩
    · have ex : (fun j => Int32.ofInt ((xs j).toInt)) = xs := funext fun j => Int32.ofInt_toInt _
      show va_X b L (fun j => Int32.ofInt ((xs j).toInt)) s s.heap
      rw [ex]; exact hX
    · rcases z with ⟨t, i, hi, z⟩ | z
      · rw [hw t i hi] at z; omega
      · have z2 : s.heap.size ≤ b := z; omega
  have walk : PW (p, l, e, room_1, s, m, #[Value.ref b], below, meth, c) w 7 0 0 (lw_Z below #[Value.ref b] s) 0 [(0, vX b)] [] E0 (fun _ _ _ => 0) s.heap.size := by
    refine p_new (t := 1) (i := 0) C rfl rfl rfl in_H ok_H df_H (gwT 19 (by decide +kernel) (by decide +kernel)) (gwT 20 (by decide +kernel) (by decide +kernel)) (gwT 1 (by decide +kernel) (by decide +kernel)) (by decide) (hw 1 0 (by decide)) rfl (by decide) d_L_law_0 ?_
    refine p_dup C d_L_law_3 rfl ?_
    refine p_init C hN il_L_81 (k_H hst hw rfl (eadd_same _ _ _) (fun t i h1 h2 => eadd_ne (by omega))) (by decide) d_L_law_4 (by decide) (by decide) ?_
    refine p_astore_n (i0 := 1) C d_L_law_7 rfl (by decide) ?_
    refine p_new (t := 40) (i := 0) C rfl rfl rfl in_R ok_R df_R (gwT 783 (by decide +kernel) (by decide +kernel)) (gwT 784 (by decide +kernel) (by decide +kernel)) (gwT 10 (by decide +kernel) (by decide +kernel)) (by decide) (by rw [hw 40 0 (by decide)]; rfl) (by rw [eK_H_hi _ (by omega), eadd_ne (by omega)]; rfl) (by decide) d_L_law_8 ?_
    refine p_dup C d_L_law_11 rfl ?_
    refine p_init C hN il_L_84 (k_R hst hw (by show _ = s.heap.size + 48; omega) (eadd_same _ _ _) (fun t i h1 h2 => by rw [eadd_ne (by omega), eK_H_hi _ (by omega), eadd_ne (by omega)]; rfl)) (by decide) d_L_law_12 (by decide) (by decide) ?_
    refine p_astore_n (i0 := 2) C d_L_law_15 rfl (by decide) ?_
    refine p_iconst C d_L_law_16 (by decide) ?_
    refine p_newarr (t := 70) (i := 0) (k := 1) (ln := 1) (ty := .long) C rfl rfl rfl (fun _ _ z => z) ac_long rfl (by decide) (fun _ => rfl) (by decide) (by decide) (by rw [hw 70 0 (by decide)]; rfl) (by rw [eK_R_hi _ (by omega), eadd_ne (by omega), eK_H_hi _ (by omega), eadd_ne (by omega)]; rfl) (by decide) d_L_law_17 ?_
    refine p_astore_n (i0 := 3) C d_L_law_19 rfl (by decide) ?_
    refine PW.lvs [(3, vO 70 0), (2, vO 40 0), (1, vO 1 0), (0, vX b)] ⟨rfl, rfl, rfl, rfl, trivial⟩ ?_
    intro hh hb hl hs H ls locs hR hz hv hS
    have A : AW (p, l, e, room_1, s, m, #[Value.ref b], below, meth, c) w 7 false (0 + 1 + 46 + 1 + 21 + 1) (0 + 13 + 984 + 38 + 712 + 1) (lw_Z below #[Value.ref b] s) 20 [(3, vO 70 0), (2, vO 40 0), (1, vO 1 0), (0, vX b)] [] hf0 := by
      refine r_iconst C d_L_law_20 (by decide) ?_
      refine r_istore C d_L_law_21 (by decide) ?_
      exact AW.lvs [(4, _), (3, _), (2, _), (1, _), (0, _)] ⟨rfl, rfl, rfl, rfl, rfl, trivial⟩ (law_loop hst C hw S _ 0 hf0 _ _ (by omega) (by omega) rfl (by decide) (by decide) RL_start)
    exact A hh hl hs H ls locs (full_rep (E := Ef) hR Ef_all hf_ref) hv hS
  have hlv := lv_entry ([Value.ref b] : List Value) (n := 7) (Nat.le_of_ble_eq_true rfl)
  have hlv2 : lv_has _ 7 ([(0, vX b)].map (cP w)) := hlv
  have k := walk (fun t i j => ⟨fun _ => (show okI 0 by decide), fun _ => (show okJ 0 by decide)⟩) (fun _ _ _ _ => rfl) ⟨trivial, trivial⟩ trivial s.heap _ [] (fun t i _ z => by cases z) rfl hlv2 va_S.rf
  rw [lg_entry_eq]
  exact k T hT X

/-! A universe that is being made: which objects there are, and what they hold (a reference's slot: 1 if it is set, else null). -/
def fvP (w : XW) (h : AH) (t i j : Nat) : Value := match ftT t j with
  | 0 => .int (Int32.ofInt (h t i j))
  | 1 => .long (Int64.ofInt (h t i j))
  | _ => if h t i j = 1 then .ref (w.1 (rfT t i j).1 (rfT t i j).2) else .null
def cellP (w : XW) (h : AH) (t i : Nat) (H : Heap) : Prop := match kdT t with
  | 0 => t_OB (w.1 t i) (w.2.1.1 (clT t)) (nfT t) (w.2.1.2 (clT t)) H (fun j => fvP w h t i j)
  | k + 1 => H[w.1 t i]? = some (arrV (w.2.2 k) (lnT t) (fun j => fvP w h t i j))
abbrev EX : Type := Nat → Nat → Bool
def PRp (w : XW) (E : EX) (h : AH) (H : Heap) : Prop := ∀ t i, i < cntT t → E t i = true → cellP w h t i H
def eadd (E : EX) (t i : Nat) : EX := fun t' i' => if t' = t ∧ i' = i then true else E t' i'
theorem eadd_same (E : EX) (t i : Nat) : eadd E t i t i = true := by unfold eadd; rw [if_pos ⟨rfl, rfl⟩]
theorem eadd_old {E : EX} {t i t' i' : Nat} (h : E t' i' = true) : eadd E t i t' i' = true := by unfold eadd; split <;> first | rfl | exact h
/-- what is not made yet is blank -/
def ZB (E : EX) (h : AH) : Prop := ∀ t i j, E t i = false → h t i j = 0
theorem ZB.add {E : EX} {h : AH} (z : ZB E h) (t i : Nat) : ZB (eadd E t i) h := fun t' i' j e => z t' i' j (by
  unfold eadd at e
  split at e
  · cases e
  · exact e)
theorem ZB.set {E : EX} {h : AH} (z : ZB E h) {t i j : Nat} {n : Int} (e : E t i = true) : ZB E (hset h t i j n) := fun t' i' j' e' => by
  unfold hset
  rw [if_neg, z t' i' j' e']
  intro q
  rw [q.1, q.2.1, e] at e'
  cases e'
theorem cellP_kept {w : XW} {h h' : AH} {t i : Nat} {H H' : Heap} (hc : cellP w h t i H) (hq : H'[w.1 t i]? = H[w.1 t i]?) (he : ∀ j, fvP w h' t i j = fvP w h t i j) : cellP w h' t i H' := by
  unfold cellP at hc ⊢
  have hf : (fun j => fvP w h' t i j) = (fun j => fvP w h t i j) := funext fun j => he j
  rw [hf]
  split at hc
  · exact hc.kept hq
  · rw [hq]; exact hc
theorem cellP_lt {w : XW} {h : AH} {t i : Nat} {H : Heap} (hc : cellP w h t i H) : w.1 t i < H.size := by
  unfold cellP at hc
  split at hc
  · obtain ⟨cell, q, -⟩ := hc; exact (Array.getElem?_eq_some_iff.mp q).1
  · exact (Array.getElem?_eq_some_iff.mp hc).1
theorem cellP_arr {w : XW} {h : AH} {t i k : Nat} {H : Heap} (hk : kdT t = k + 1) (hc : cellP w h t i H) : H[w.1 t i]? = some (arrV (w.2.2 k) (lnT t) (fun j => fvP w h t i j)) := by
  unfold cellP at hc; rw [hk] at hc; exact hc
theorem cellP_obj {w : XW} {h : AH} {t i : Nat} {H : Heap} (hk : kdT t = 0) (hc : cellP w h t i H) : t_OB (w.1 t i) (w.2.1.1 (clT t)) (nfT t) (w.2.1.2 (clT t)) H (fun j => fvP w h t i j) := by
  unfold cellP at hc; rw [hk] at hc; exact hc
theorem cellP_ofArr {w : XW} {h : AH} {t i k : Nat} {H : Heap} (hk : kdT t = k + 1) (hc : H[w.1 t i]? = some (arrV (w.2.2 k) (lnT t) (fun j => fvP w h t i j))) : cellP w h t i H := by
  unfold cellP; rw [hk]; exact hc
theorem cellP_ofObj {w : XW} {h : AH} {t i : Nat} {H : Heap} (hk : kdT t = 0) (hc : t_OB (w.1 t i) (w.2.1.1 (clT t)) (nfT t) (w.2.1.2 (clT t)) H (fun j => fvP w h t i j)) : cellP w h t i H := by
  unfold cellP; rw [hk]; exact hc
theorem fvP_ne (w : XW) (h : AH) {t i j t' i' j' : Nat} (n : Int) (e : ¬ (t' = t ∧ i' = i ∧ j' = j)) : fvP w (hset h t i j n) t' i' j' = fvP w h t' i' j' := by
  unfold fvP
  rw [hset_ne h n e]
theorem fvP_upd {w : XW} {h : AH} {t i j : Nat} {n : Int} {v : Value} (hv : fvP w (hset h t i j n) t i j = v) : updV (fun j' => fvP w h t i j') j v = fun j' => fvP w (hset h t i j n) t i j' := by
  funext j'
  unfold updV
  by_cases e : j' = j
  · subst e; rw [if_pos rfl, hv]
  · rw [if_neg e, fvP_ne w h n fun q => e q.2.2]
theorem fvP_0 {w : XW} {h : AH} {t i j : Nat} (e : ftT t j = 0) : fvP w h t i j = .int (Int32.ofInt (h t i j)) := by unfold fvP; rw [e]; rfl
theorem fvP_1 {w : XW} {h : AH} {t i j : Nat} (e : ftT t j = 1) : fvP w h t i j = .long (Int64.ofInt (h t i j)) := by unfold fvP; rw [e]; rfl
theorem fvP_2 {w : XW} {h : AH} {t i j : Nat} (e : ftT t j = 2) (h1 : h t i j = 1) : fvP w h t i j = .ref (w.1 (rfT t i j).1 (rfT t i j).2) := by unfold fvP; rw [e]; show (if h t i j = 1 then _ else _) = _; rw [if_pos h1]
theorem PRp.set {w : XW} {E : EX} {h : AH} {H H' : Heap} (hR : PRp w E h H) (hI : adInj w) {t i j : Nat} {n : Int} (hi : i < cntT t) (hc : cellP w (hset h t i j n) t i H') (oq : ∀ q, q ≠ w.1 t i → H'[q]? = H[q]?) : PRp w E (hset h t i j n) H' := by
  intro t' i' hi' hE
  by_cases e : t' = t ∧ i' = i
  · obtain ⟨rfl, rfl⟩ := e; exact hc
  · exact cellP_kept (hR t' i' hi' hE) (oq _ fun q => e (hI _ _ _ _ hi' hi q)) fun j' => fvP_ne w h n fun q => e ⟨q.1, q.2.1⟩
theorem PRp.add {w : XW} {E : EX} {h : AH} {H H' : Heap} (hR : PRp w E h H) {t i : Nat} (hc : cellP w h t i H') (oq : ∀ q, q < H.size → H'[q]? = H[q]?) : PRp w (eadd E t i) h H' := by
  intro t' i' hi' hE
  by_cases e : t' = t ∧ i' = i
  · obtain ⟨rfl, rfl⟩ := e; exact hc
  · have hE' : E t' i' = true := by unfold eadd at hE; rw [if_neg e] at hE; exact hE
    have c := hR t' i' hi' hE'
    exact cellP_kept c (oq _ (cellP_lt c)) fun _ => rfl
def PW (x : MX) (w : XW) (nL : Nat) (cells slots : Nat) (Q : State → Prop) (pc : Nat) (lv : List (Nat × AV)) (st : List AV) (E : EX) (h : AH) (sz : Nat) : Prop :=
  okH h → ZB E h → okL lv → okS st → ∀ (H : Heap) (ls : Array Slot) (locs : List Loc), PRp w E h H → H.size = sz → lv_has ls nL (lv.map (cP w)) → va_S (inU w x.s.heap.size) x.s.heap H locs → xW x H locs cells slots Q (F0 x.m pc ls (st.map (cV w)))
theorem PW.lvs {x : MX} {w : XW} {nL cells slots : Nat} {Q : State → Prop} {pc : Nat} {lv : List (Nat × AV)} {st : List AV} {E : EX} {h : AH} {sz : Nat} (lv' : List (Nat × AV)) (hs : subL lv lv') (kk : PW x w nL cells slots Q pc lv' st E h sz) : PW x w nL cells slots Q pc lv st E h sz := by
  intro hh hb hl hst H ls locs hR hz hv hS
  have hm := subL_mem hs
  refine kk hh hb (okL_of fun q hq => okL_mem hl q (hm q hq)) hst H ls locs hR hz ⟨hv.1, hv.2.1, fun q hq => ?_⟩ hS
  obtain ⟨q0, h0, rfl⟩ := List.mem_map.mp hq
  exact hv.2.2 _ (List.mem_map.mpr ⟨q0, hm q0 h0, rfl⟩)
theorem PW.heq {x : MX} {w : XW} {nL cells slots : Nat} {Q : State → Prop} {pc : Nat} {lv : List (Nat × AV)} {st : List AV} {E E1 : EX} {h h1 : AH} {sz sz1 : Nat} (e1 : E = E1) (e2 : h = h1) (e3 : sz = sz1) (k : PW x w nL cells slots Q pc lv st E1 h1 sz1) : PW x w nL cells slots Q pc lv st E h sz := by subst e1; subst e2; subst e3; exact k
theorem PRp.setA {w : XW} {E : EX} {h : AH} {H H' : Heap} (hR : PRp w E h H) (hI : adInj w) {t i j k : Nat} {n : Int} {v : Value} (hi : i < cntT t) (hk : kdT t = k + 1) (hv : fvP w (hset h t i j n) t i j = v)
    (hc : H'[w.1 t i]? = some ((arrV (w.2.2 k) (lnT t) (fun j => fvP w h t i j)).setSlot j v)) (oq : ∀ q, q ≠ w.1 t i → H'[q]? = H[q]?) : PRp w E (hset h t i j n) H' := by
  refine hR.set hI hi (cellP_ofArr hk ?_) oq
  rw [hc, arrV_store, fvP_upd hv]
section PROWS
variable {x : MX} {w : XW} {rm : Room} {own : String} {cc : ByteArray} {nL : Nat} {ret : Option FieldType} {hx : List (Nat × Nat × Nat × Nat)} {cells slots pc sz : Nat} {Q : State → Prop} {lv : List (Nat × AV)} {st : List AV} {E : EX} {h : AH}
theorem p_aload_n (C : Cx x w rm own cc nL ret hx) {k : Fin 4} {i0 : Nat} {t i : Nat} (hdg : decode cc pc = .ok (.aload_n k, 1)) (hi : (k : Nat) = i0) (hk : lv.lookup i0 = some (vO t i)) (kk : PW x w nL cells slots Q (pc + 1) lv (vO t i :: st) E h sz) : PW x w nL cells slots Q pc lv (st) E h sz := by
  intro hh hb hl hs H ls locs hR hz hv hS
  obtain ⟨p, l, e, R, s, m, args, below, meth, c⟩ := x
  exact lv_aload_n C.ex C.by hdg hi (lk_has hv hk) (kk hh hb hl ⟨lk_ok hl hk, hs⟩ H ls locs hR hz hv hS)
theorem p_dup (C : Cx x w rm own cc nL ret hx) {v : AV} (hdg : decode cc pc = .ok (.dup, 1)) (hc : isL v = false) (kk : PW x w nL cells slots Q (pc + 1) lv (v :: v :: st) E h sz) : PW x w nL cells slots Q pc lv (v :: st) E h sz := by
  intro hh hb hl hs H ls locs hR hz hv hS
  obtain ⟨p, l, e, R, s, m, args, below, meth, c⟩ := x
  exact lv_dup C.ex C.by hdg (cV_cat1 w v hc) (kk hh hb hl ⟨hs.1, hs⟩ H ls locs hR hz hv hS)
theorem p_iconst (C : Cx x w rm own cc nL ret hx) {n : Int} (hdg : decode cc pc = .ok (.iconst n, 1)) (hn : okI n) (kk : PW x w nL cells slots Q (pc + 1) lv (vI n :: st) E h sz) : PW x w nL cells slots Q pc lv (st) E h sz := by
  intro hh hb hl hs H ls locs hR hz hv hS
  obtain ⟨p, l, e, R, s, m, args, below, meth, c⟩ := x
  exact lv_iconst C.ex C.by hdg rfl (kk hh hb hl ⟨hn, hs⟩ H ls locs hR hz hv hS)
theorem p_lconst (C : Cx x w rm own cc nL ret hx) {k : Fin 2} (n : Int) (hdg : decode cc pc = .ok (.lconst k, 1)) (hn : okJ n) (he : Int64.ofNat (k : Nat) = Int64.ofInt n) (kk : PW x w nL cells slots Q (pc + 1) lv (vL n :: st) E h sz) : PW x w nL cells slots Q pc lv (st) E h sz := by
  intro hh hb hl hs H ls locs hR hz hv hS
  obtain ⟨p, l, e, R, s, m, args, below, meth, c⟩ := x
  exact lv_lconst C.ex C.by hdg he (kk hh hb hl ⟨hn, hs⟩ H ls locs hR hz hv hS)
theorem p_bipush (C : Cx x w rm own cc nL ret hx) {n : Int} (hdg : decode cc pc = .ok (.bipush n, 2)) (hn : okI n) (he : (Int8.ofInt n).toInt32 = Int32.ofInt n) (kk : PW x w nL cells slots Q (pc + 2) lv (vI n :: st) E h sz) : PW x w nL cells slots Q pc lv (st) E h sz := by
  intro hh hb hl hs H ls locs hR hz hv hS
  obtain ⟨p, l, e, R, s, m, args, below, meth, c⟩ := x
  exact lv_bipush C.ex C.by hdg he (kk hh hb hl ⟨hn, hs⟩ H ls locs hR hz hv hS)
theorem p_sipush (C : Cx x w rm own cc nL ret hx) {n : Int} (hdg : decode cc pc = .ok (.sipush n, 3)) (hn : okI n) (he : (Int16.ofInt n).toInt32 = Int32.ofInt n) (kk : PW x w nL cells slots Q (pc + 3) lv (vI n :: st) E h sz) : PW x w nL cells slots Q pc lv (st) E h sz := by
  intro hh hb hl hs H ls locs hR hz hv hS
  obtain ⟨p, l, e, R, s, m, args, below, meth, c⟩ := x
  exact lv_sipush C.ex C.by hdg he (kk hh hb hl ⟨hn, hs⟩ H ls locs hR hz hv hS)
theorem p_iload_n (C : Cx x w rm own cc nL ret hx) {k : Fin 4} {i0 : Nat} {n : Int} (hdg : decode cc pc = .ok (.iload_n k, 1)) (hi : (k : Nat) = i0) (hk : lv.lookup i0 = some (vI n)) (kk : PW x w nL cells slots Q (pc + 1) lv (vI n :: st) E h sz) : PW x w nL cells slots Q pc lv (st) E h sz := by
  intro hh hb hl hs H ls locs hR hz hv hS
  obtain ⟨p, l, e, R, s, m, args, below, meth, c⟩ := x
  exact lv_iload_n C.ex C.by hdg hi (lk_has hv hk) (kk hh hb hl ⟨lk_ok hl hk, hs⟩ H ls locs hR hz hv hS)
theorem p_istore_n (C : Cx x w rm own cc nL ret hx) {k : Fin 4} {i0 : Nat} {n : Int} (hdg : decode cc pc = .ok (.istore_n k, 1)) (hi : (k : Nat) = i0) (hn : i0 < nL) (kk : PW x w nL cells slots Q (pc + 1) (lst lv i0 (vI n)) (st) E h sz) : PW x w nL cells slots Q pc lv (vI n :: st) E h sz := by
  intro hh hb hl hs H ls locs hR hz hv hS
  obtain ⟨p, l, e, R, s, m, args, below, meth, c⟩ := x
  exact lv_istore_n C.ex C.by hdg hi hv hn (lst_map w lv i0 (vI n)) fun ls1 h1 => kk hh hb (lst_ok hl hs.1) hs.2 H ls1 locs hR hz h1 hS
theorem p_iinc (C : Cx x w rm own cc nL ret hx) {i0 : Nat} {d n : Int} (hdg : decode cc pc = .ok (.iinc i0 d, 3)) (hk : lv.lookup i0 = some (vI n)) (hn : i0 < nL) (hr : okI (n + d)) (kk : PW x w nL cells slots Q (pc + 3) (lst lv i0 (vI (n + d))) st E h sz) : PW x w nL cells slots Q pc lv st E h sz := by
  intro hh hb hl hs H ls locs hR hz hv hS
  obtain ⟨p, l, e, R, s, m, args, below, meth, c⟩ := x
  obtain ⟨k0, hk0⟩ := List.getElem?_of_mem (List.mem_map.mpr ⟨(i0, vI n), lk_mem hk, rfl⟩ : cP w (i0, vI n) ∈ lv.map (cP w))
  exact lv_iinc C.ex C.by hdg hv hk0 (Int32.ofInt_add n d).symm hn (lst_map w lv i0 (vI (n + d))) fun ls1 h1 => kk hh hb (lst_ok hl hr) hs H ls1 locs hR hz h1 hS
theorem p_goto (C : Cx x w rm own cc nL ret hx) {off : Int} {tgt : Nat} (hdg : decode cc pc = .ok (.goto off, 3)) (ht : (pc : Int) + off = (tgt : Int)) (kk : PW x w nL cells slots Q tgt lv st E h sz) : PW x w nL cells slots Q pc lv st E h sz := by
  intro hh hb hl hs H ls locs hR hz hv hS
  obtain ⟨p, l, e, R, s, m, args, below, meth, c⟩ := x
  exact lv_goto C.ex C.by hdg ht (kk hh hb hl hs H ls locs hR hz hv hS)
theorem p_icmp_ge (C : Cx x w rm own cc nL ret hx) {a b off : Int} {tgt : Nat} (hdg : decode cc pc = .ok (.if_icmp .ge off, 3)) (ht : (pc : Int) + off = (tgt : Int)) (kt : b ≤ a → PW x w nL cells slots Q tgt lv st E h sz) (kf : ¬ b ≤ a → PW x w nL cells slots Q (pc + 3) lv st E h sz) : PW x w nL cells slots Q pc lv (vI b :: vI a :: st) E h sz := by
  intro hh hb hl hs H ls locs hR hz hv hS
  obtain ⟨p, l, e, R, s, m, args, below, meth, c⟩ := x
  refine lv_icmp_ge C.ex C.by hdg ht (fun q => kt ?_ hh hb hl hs.2.2 H ls locs hR hz hv hS) (fun q => kf ?_ hh hb hl hs.2.2 H ls locs hR hz hv hS)
  · rwa [i32_le hs.1 hs.2.1] at q
  · rwa [i32_le hs.1 hs.2.1] at q
theorem p_astore_n (C : Cx x w rm own cc nL ret hx) {k : Fin 4} {i0 : Nat} {t i : Nat} (hdg : decode cc pc = .ok (.astore_n k, 1)) (hi : (k : Nat) = i0) (hn : i0 < nL) (kk : PW x w nL cells slots Q (pc + 1) (lst lv i0 (vO t i)) (st) E h sz) : PW x w nL cells slots Q pc lv (vO t i :: st) E h sz := by
  intro hh hb hl hs H ls locs hR hz hv hS
  obtain ⟨p, l, e, R, s, m, args, below, meth, c⟩ := x
  exact lv_astore_n C.ex C.by hdg hi hv hn (lst_map w lv i0 (vO t i)) fun ls1 h1 => kk hh hb (lst_ok hl hs.1) hs.2 H ls1 locs hR hz h1 hS
theorem p_iload (C : Cx x w rm own cc nL ret hx) {i0 : Nat} {n : Int} (hdg : decode cc pc = .ok (.iload i0, 2)) (hk : lv.lookup i0 = some (vI n)) (kk : PW x w nL cells slots Q (pc + 2) lv (vI n :: st) E h sz) : PW x w nL cells slots Q pc lv (st) E h sz := by
  intro hh hb hl hs H ls locs hR hz hv hS
  obtain ⟨p, l, e, R, s, m, args, below, meth, c⟩ := x
  exact lv_iload C.ex C.by hdg (lk_has hv hk) (kk hh hb hl ⟨lk_ok hl hk, hs⟩ H ls locs hR hz hv hS)
theorem p_istore (C : Cx x w rm own cc nL ret hx) {i0 : Nat} {n : Int} (hdg : decode cc pc = .ok (.istore i0, 2)) (hn : i0 < nL) (kk : PW x w nL cells slots Q (pc + 2) (lst lv i0 (vI n)) (st) E h sz) : PW x w nL cells slots Q pc lv (vI n :: st) E h sz := by
  intro hh hb hl hs H ls locs hR hz hv hS
  obtain ⟨p, l, e, R, s, m, args, below, meth, c⟩ := x
  exact lv_istore C.ex C.by hdg hv hn (lst_map w lv i0 (vI n)) fun ls1 h1 => kk hh hb (lst_ok hl hs.1) hs.2 H ls1 locs hR hz h1 hS
theorem p_new (C : Cx x w rm own cc nL ret hx) {index t i N : Nat} {Cn : String} {T : u_T} {ty : Nat → FieldType} (hc : uCl[clT t]? = some (Cn, T, N)) (hk : kdT t = 0) (hN : nfT t = N) (hin : ∀ k ∈ u_ws Cn T N, k ∈ GW) (hty : ∀ k, k < N → parseFieldDescriptor (T k).2.2.1 = some (ty k)) (hdf : ∀ k, k < N → defaultValue (ty k) = match ftT t k with | 0 => .int 0 | 1 => .long 0 | _ => .null)
    (h1 : Cond.classLink own index Cn ∈ GW) (h2 : Cond.instantiable Cn N ∈ GW) (h3 : Cond.initialized Cn ∈ GW) (hi : i < cntT t) (hw : w.1 t i = sz) (hE : E t i = false) (hcs : cells + 1 ≤ rm.cells ∧ slots + N ≤ rm.slots) (hdg : decode cc pc = .ok (.new index, 3)) (kk : PW x w nL (cells + 1) (slots + N) Q (pc + 3) lv (vO t i :: st) (eadd E t i) h (sz + 1)) : PW x w nL cells slots Q pc lv st E h sz := by
  intro hh hb hl hs H ls locs hR hz hv hS
  obtain ⟨p, l, e, R, s, m, args, below, meth, c⟩ := x
  have hRm : R = rm := C.ro
  subst hRm
  subst hw
  have hKn := C.kw.1.1 (clT t) _ hc
  refine W.newcK C.ex C.by C.ow (C.ws _ h1) (C.ws _ h2) (C.ws _ h3) rfl hdg hcs.1 hcs.2 hKn.2.1 hz fun H1 kC hkC e1 z1 o1 => ?_
  refine kk hh (hb.add t i) hl ⟨hi, hs⟩ H1 ls locs (hR.add (cellP_ofObj hk ?_) fun q hq => o1 q (by rw [hz] at hq; exact hq)) z1 hv ⟨Nat.le_trans hS.1 (by rw [z1, hz]; omega), fun q a b => (o1 q (by have := hS.1; rw [hz] at this; exact Nat.lt_of_lt_of_le a this)).trans (hS.2.1 q a b), hS.2.2⟩
  rw [hN]
  refine (u_born ty C.ws hin hKn hkC e1 hty).to fun j hj => ?_
  rw [hdf j hj]
  unfold fvP
  rw [hb t i j hE]
  split <;> first | rfl | (rw [if_neg (by decide)])
theorem p_newarr (C : Cx x w rm own cc nL ret hx) {t i k ln : Nat} {atype : ArrayType} {ty : FieldType} (hk : kdT t = k + 1) (hty : (tysL w)[k]? = some (w.2.2 k, ty)) (hta : newarray.typeOf atype = ty) (hra : ∀ (U : State) (cA : ClassId), va_RA U cA ty → U.vm.findClass ("[" ++ ty.toString) = some cA) (harr : Cond.arrayClass ty ∈ GW) (hln : lnT t = ln) (hl32 : (ln : Int) ≤ 2147483647) (hft : ∀ j, defaultValue ty = match ftT t j with | 0 => .int 0 | 1 => .long 0 | _ => .null) (hbt : ln * componentBytes ty ≤ 536870912)
    (hi : i < cntT t) (hw : w.1 t i = sz) (hE : E t i = false) (hcs : cells + 1 ≤ rm.cells ∧ slots + ln ≤ rm.slots) (hdg : decode cc pc = .ok (.newarray atype, 2)) (kk : PW x w nL (cells + 1) (slots + ln) Q (pc + 2) lv (vO t i :: st) (eadd E t i) h (sz + 1)) : PW x w nL cells slots Q pc lv (vI (ln : Int) :: st) E h sz := by
  intro hh hb hl hs H ls locs hR hz hv hS
  obtain ⟨p, l, e, R, s, m, args, below, meth, c⟩ := x
  have hRm : R = rm := C.ro
  subst hRm
  subst hw
  subst hta
  subst hln
  have h0 : okI ((lnT t : Nat) : Int) := ⟨by omega, hl32⟩
  refine va_newaK C.ex C.by (C.ws _ harr) rfl hdg (n := Int32.ofInt (lnT t : Int)) (N := lnT t) rfl (by rw [Int32.lt_iff_toInt_lt, i32_toInt h0]; show ¬ ((lnT t : Nat) : Int) < 0; omega) (by rw [i32_ix h0, Int.toNat_natCast]) hbt hcs.1 hcs.2 hz fun H1 cA e1 z1 o1 hAr hNm => ?_
  have hcA : cA = w.2.2 k := by
    have z := hra s (w.2.2 k) (C.kw.1.2 k _ hty).2
    exact Option.some.inj (hNm.symm.trans z)
  subst hcA
  refine kk hh (hb.add t i) hl ⟨hi, hs.2⟩ H1 ls locs (hR.add (cellP_ofArr hk ?_) fun q hq => o1 q (by rw [hz] at hq; exact hq)) z1 hv ⟨Nat.le_trans hS.1 (by rw [z1, hz]; omega), fun q a b => (o1 q (by have := hS.1; rw [hz] at this; exact Nat.lt_of_lt_of_le a this)).trans (hS.2.1 q a b), hS.2.2⟩
  rw [e1]
  refine congrArg (fun f => some (arrV (w.2.2 k) (lnT t) f)) (funext fun j => ?_)
  rw [hft j]
  unfold fvP
  rw [hb t i j hE]
  split <;> first | rfl | (rw [if_neg (by decide)])
/-- a field that is not final -/
theorem p_put (C : Cx x w rm own cc nL ret hx) {index t i j : Nat} {ty : FieldType} (F : PLk own index t j ty) (hE : E t i = true) (hdg : decode cc pc = .ok (.putfield index, 3)) {v : AV} {n : Int} (hv0 : fvP w (hset h t i j n) t i j = cV w v) (hok : okV v → (ftT t j = 0 → okI n) ∧ (ftT t j = 1 → okJ n)) (hn : narrow ty (cV w v) = cV w v) (hfit : fits ty (cV w v) = true) (kk : PW x w nL cells slots Q (pc + 3) lv st E (hset h t i j n) sz) : PW x w nL cells slots Q pc lv (v :: vO t i :: st) E h sz := by
  intro hh hb hl hs H ls locs hR hz hv hS
  obtain ⟨p, l, e, R, s, m, args, below, meth, c⟩ := x
  obtain ⟨Cn, T, N, ty0, hc, hk, rfl, hj, hin, hown, hlink, hty, hnm, hfin, rfl⟩ := F
  have hap := va_apart (own := own) C.ws hin ty0 hty hnm C.kw.1 hc
  obtain ⟨cell, q1, q2, q3, q4⟩ := cellP_obj hk (hR t i hs.2.1 hE)
  obtain ⟨hS1, hfc, kC, hkC, hkind⟩ := C.kw.1.1 (clT t) _ hc
  obtain ⟨cf, kf, fi, f, hi, hsl⟩ := hS1 j hj
  have hlay := C.ws _ (hin _ (u_in_lay hj))
  unfold u_lay at hlay
  rw [if_neg (by rw [hfin]; decide)] at hlay
  have hst := (u_facts hfc hkC (u_lays C.ws hin hj) hi).1
  have h6 := u_store hfc hkC hkind hlay hi (hty j hj) hn hfit
  refine W.putK C.ex C.by (f := f) ⟨C.ow, C.ws _ hlink, ⟨_, _, _, (by rw [← hown]; exact hi)⟩, hst⟩ (by rw [q2]; exact h6) q1 q3 (by rw [hsl]; exact k2_hasslot (q4 j hj)) rfl rfl hdg fun H' e1 e2 e3 => ?_
  rw [hsl] at e1 ⊢
  refine kk (hset_ok hh (hok hs.1).1 (hok hs.1).2) (hb.set hE) hl hs.2.2 H' ls _ (hR.set C.ij hs.2.1 (cellP_ofObj hk (t_OB.to (V := updV (fun j => fvP w h t i j) j (cV w v)) ⟨_, e1, q2, q3, t_set q4 hap hj (cV w v)⟩ fun k' _ => ?_)) e3) (by rw [e2, hz]) hv (hS.put e2 e3 (Or.inl ⟨t, i, hs.2.1, rfl⟩))
  exact congrFun (fvP_upd hv0) k'
theorem p_putI (C : Cx x w rm own cc nL ret hx) {index t i j : Nat} {n : Int} (F : PLk own index t j .int) (hE : E t i = true) (hdg : decode cc pc = .ok (.putfield index, 3)) (h0 : ftT t j = 0) (kk : PW x w nL cells slots Q (pc + 3) lv st E (hset h t i j n) sz) : PW x w nL cells slots Q pc lv (vI n :: vO t i :: st) E h sz :=
  p_put C F hE hdg (v := vI n) (by rw [fvP_0 h0, hset_same]; rfl) (fun q => ⟨fun _ => q, fun e => by rw [h0] at e; cases e⟩) rfl rfl kk
theorem p_putZ (C : Cx x w rm own cc nL ret hx) {index t i j : Nat} {n : Int} (F : PLk own index t j .boolean) (hE : E t i = true) (hdg : decode cc pc = .ok (.putfield index, 3)) (h0 : ftT t j = 0) (hz : n = 0 ∨ n = 1) (kk : PW x w nL cells slots Q (pc + 3) lv st E (hset h t i j n) sz) : PW x w nL cells slots Q pc lv (vI n :: vO t i :: st) E h sz :=
  p_put C F hE hdg (v := vI n) (by rw [fvP_0 h0, hset_same]; rfl) (fun q => ⟨fun _ => q, fun e => by rw [h0] at e; cases e⟩) (by rcases hz with rfl | rfl <;> rfl) (by rcases hz with rfl | rfl <;> rfl) kk
theorem p_putL (C : Cx x w rm own cc nL ret hx) {index t i j : Nat} {n : Int} (F : PLk own index t j .long) (hE : E t i = true) (hdg : decode cc pc = .ok (.putfield index, 3)) (h0 : ftT t j = 1) (kk : PW x w nL cells slots Q (pc + 3) lv st E (hset h t i j n) sz) : PW x w nL cells slots Q pc lv (vL n :: vO t i :: st) E h sz :=
  p_put C F hE hdg (v := vL n) (by rw [fvP_1 h0, hset_same]; rfl) (fun q => ⟨fun e => (by rw [h0] at e; cases e), fun _ => q⟩) rfl rfl kk
/-- a final field that holds a reference, in the constructor -/
theorem p_putF (C : Cx x w rm own cc nL ret hx) (hni : x.meth.name = "<init>") {index t i j t' i' : Nat} (F : FLk own index t j) {T : u_T} {N : Nat} {ty : Nat → FieldType} (hc : uCl[clT t]? = some (own, T, N)) (hty : ∀ k, k < N → parseFieldDescriptor (T k).2.2.1 = some (ty k)) (hnm : ∀ a, a < N → ∀ b, b < N → a ≠ b → (T a).2.1 ≠ (T b).2.1) (hfin : (T j).2.2.2 = true) (hrf : (ty j).isReference = true) (hfit : ∀ a : Nat, fits (ty j) (.ref a) = true) (hnr : ∀ a : Nat, narrow (ty j) (.ref a) = .ref a) (hE : E t i = true) (hdg : decode cc pc = .ok (.putfield index, 3)) (h0 : ftT t j = 2) (hr : rfT t i j = (t', i')) (kk : PW x w nL cells slots Q (pc + 3) lv st E (hset h t i j 1) sz) : PW x w nL cells slots Q pc lv (vO t' i' :: vO t i :: st) E h sz := by
  intro hh hb hl hs H ls locs hR hz hv hS
  obtain ⟨p, l, e, R, s, m, args, below, meth, c⟩ := x
  obtain ⟨Cn, T2, N2, hc2, hk, rfl, hj, hin, hown, hlink⟩ := F
  cases hc.symm.trans hc2
  have hap := va_apart (own := own) C.ws hin ty hty hnm C.kw.1 hc
  obtain ⟨cell, q1, q2, q3, q4⟩ := cellP_obj hk (hR t i hs.2.1 hE)
  obtain ⟨hS1, hfc, kC, hkC, hkind⟩ := C.kw.1.1 (clT t) _ hc
  obtain ⟨cf, kf, fi, f, hi, hsl⟩ := hS1 j hj
  have hlay := C.ws _ (hin _ (u_in_lay hj))
  unfold u_lay at hlay
  rw [if_pos hfin] at hlay
  have hst := (u_facts hfc hkC (u_lays C.ws hin hj) hi).1
  have hcf : m.cls = cf := by
    obtain ⟨_, _, c', _, _, _, -, -, hf', -, -, -, hown2, -⟩ := Cond.laysFinal_spec hlay
    have e1 : c' = cf := by have := hi.symm.trans hf'; simp at this; exact this.1.symm
    rw [hown] at hown2
    rw [← e1]; exact Option.some.inj (C.ow.symm.trans hown2)
  have h6 := u_fits hfc hkC hkind (Or.inr hlay) hi (hty j hj) (hnr (w.1 t' i')) (hfit (w.1 t' i'))
  refine W.putFinK C.ex C.by C.ow (C.ws _ hlink) (by rw [← hown]; exact hi) hst hcf hni (by rw [q2]; exact h6) q1 q3 (by rw [hsl]; exact k2_hasslot (q4 j hj)) rfl rfl hdg fun H' e1 e2 e3 => ?_
  rw [hsl] at e1 ⊢
  refine kk (hset_ok hh (fun e => by rw [h0] at e; cases e) (fun e => by rw [h0] at e; cases e)) (hb.set hE) hl hs.2.2 H' ls _ (hR.set C.ij hs.2.1 (cellP_ofObj hk (t_OB.to (V := updV (fun j => fvP w h t i j) j (.ref (w.1 t' i'))) ⟨_, e1, q2, q3, t_set q4 hap hj (.ref (w.1 t' i'))⟩ fun k' _ => ?_)) e3) (by rw [e2, hz]) hv (hS.put e2 e3 (Or.inl ⟨t, i, hs.2.1, rfl⟩))
  exact congrFun (fvP_upd (by rw [fvP_2 h0 (hset_same _ _ _ _ _), hr])) k'
theorem p_getO (C : Cx x w rm own cc nL ret hx) {index t i j t' i' : Nat} (F : FLk own index t j) (hE : E t i = true) (hdg : decode cc pc = .ok (.getfield index, 3)) (h0 : ftT t j = 2) (h1 : h t i j = 1) (hr : rfT t i j = (t', i')) (ho : i < cntT t → i' < cntT t') (kk : PW x w nL cells slots Q (pc + 3) lv (vO t' i' :: st) E h sz) : PW x w nL cells slots Q pc lv (vO t i :: st) E h sz := by
  intro hh hb hl hs H ls locs hR hz hv hS
  obtain ⟨p, l, e, R, s, m, args, below, meth, c⟩ := x
  obtain ⟨Cn, T, N, hc, hk, rfl, hj, hin, hown, hlink⟩ := F
  obtain ⟨cell, q1, q2, q3, q4⟩ := cellP_obj hk (hR t i hs.1 hE)
  obtain ⟨hS1, hfc, kC, hkC, hkind⟩ := C.kw.1.1 (clT t) _ hc
  obtain ⟨cf, kf, fi, f, hi, hsl⟩ := hS1 j hj
  refine W.getf C.ex C.by C.ow (C.ws _ hlink) (by rw [← hown]; exact hi) (u_facts hfc hkC (u_lays C.ws hin hj) hi).1 q1 (by rw [q3]; exact fun h => by cases h) (v := cV w (vO t' i')) ?_ rfl rfl hdg (kk hh hb hl ⟨ho hs.1, hs.2⟩ H ls locs hR hz hv hS)
  rw [hsl, q4 j hj]
  show some (fvP w h t i j) = _
  rw [fvP_2 h0 h1, hr]
  rfl
theorem p_alen (C : Cx x w rm own cc nL ret hx) {t i : Nat} (hE : E t i = true) (hdg : decode cc pc = .ok (.arraylength, 1)) {k : Nat} {ty : FieldType} (hk : kdT t = k + 1) (hty : (tysL w)[k]? = some (w.2.2 k, ty)) (hn : (lnT t : Int) ≤ 2147483647) (kk : PW x w nL cells slots Q (pc + 1) lv (vI (lnT t : Int) :: st) E h sz) : PW x w nL cells slots Q pc lv (vO t i :: st) E h sz := by
  intro hh hb hl hs H ls locs hR hz hv hS
  obtain ⟨p, l, e, R, s, m, args, below, meth, c⟩ := x
  have hc := cellP_arr hk (hR t i hs.1 hE)
  refine W.alen C.ex C.by hc ((C.kw.1.2 k _ hty).1 _ _) (n := Int32.ofInt (lnT t : Int)) ?_ rfl rfl hdg (kk hh hb hl ⟨⟨by omega, hn⟩, hs.2⟩ H ls locs hR hz hv hS)
  rw [arrV_size, Int32.ofInt_eq_ofNat]
theorem p_iastore (C : Cx x w rm own cc nL ret hx) {t i : Nat} {a n : Int} (hE : E t i = true) (hdg : decode cc pc = .ok (.iastore, 1)) (hk : kdT t = 1) (h0 : ∀ j, ftT t j = 0) {ln : Nat} (hln : lnT t = ln) (hi : 0 ≤ a ∧ a < (ln : Int)) (kk : PW x w nL cells slots Q (pc + 1) lv st E (hset h t i a.toNat n) sz) : PW x w nL cells slots Q pc lv (vI n :: vI a :: vO t i :: st) E h sz := by
  intro hh hb hl hs H ls locs hR hz hv hS
  obtain ⟨p, l, e, R, s, m, args, below, meth, c⟩ := x
  subst hln
  have hc := cellP_arr hk (hR t i hs.2.2.1 hE)
  refine W.iast C.ex C.by hc ((C.kw.1.2 0 (w.2.2 0, .int) rfl).1 _ _) (fun q => by cases q) (by rw [arrV_size]; exact i32_in hs.2.1 hi.1 hi.2) rfl rfl hdg fun H1 e1 z oq => ?_
  rw [i32_ix hs.2.1] at e1 ⊢
  exact kk (hset_ok hh (fun _ => hs.1) (fun q => by rw [h0] at q; cases q)) (hb.set hE) hl hs.2.2.2 H1 ls _ (hR.setA C.ij hs.2.2.1 hk (v := .int (Int32.ofInt n)) (by rw [fvP_0 (h0 _), hset_same]) e1 oq) (by rw [z, hz]) hv (hS.put z oq (Or.inl ⟨t, i, hs.2.2.1, rfl⟩))
theorem p_objInit (C : Cx x w rm own cc nL ret hx) {t i idx : Nat} (h1 : Cond.methodLink own idx Lib.objectInit ∈ GW) (h2 : Cond.instanceMethod Lib.objectInit ∈ GW) (h3 : Cond.code Lib.objectInit ⟨#[0xb1]⟩ 1 none ∈ GW) (hdg : decode cc pc = .ok (.invokespecial idx, 3)) (hrm : 1 ≤ rm.frames ∧ 20 ≤ rm.locals) (hst : nargs st ≤ 8) (kk : PW x w nL cells slots Q (pc + 3) lv st E h sz) : PW x w nL cells slots Q pc lv (vO t i :: st) E h sz := by
  intro hh hb hl hs H ls locs hR hz hv hS
  obtain ⟨p, l, e, R, s, m, args, below, meth, c⟩ := x
  have hRm : R = rm := C.ro
  subst hRm
  refine W.objInit C.ex C.by C.ow (C.ws _ h1) (C.ws _ h2) (C.ws _ h3) rfl (by rw [C.ml]; exact hv.1) rfl hdg hrm.1 ?_ (kk hh hb hl hs.2 H ls locs hR hz hv hS)
  have h5 : ((st.map (cV w)).map fun v => v.category).sum = nargs st := sum_cat w st
  show 2 * 0 + ((st.map (cV w)).map fun v => v.category).sum + 12 ≤ R.locals
  rw [h5]
  omega
end PROWS

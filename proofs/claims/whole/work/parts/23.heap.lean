/-! Rows that read and write the heap. -/
section HROWS
variable {x : MX} {w : XW} {rm : Room} {own : String} {cc : ByteArray} {nL : Nat} {ret : Option FieldType} {hx : List (Nat × Nat × Nat × Nat)} {cl : Bool} {cells slots pc : Nat} {Q : State → Prop} {lv : List (Nat × AV)} {st : List AV} {h : AH}
theorem r_get (C : Cx x w rm own cc nL ret hx) {index t i j : Nat} (F : FLk own index t j) (hdg : decode cc pc = .ok (.getfield index, 3)) {v : AV} (hv0 : fv h t i j = v) (hok : okH h → i < cntT t → okV v) (kk : AW x w nL cl cells slots Q (pc + 3) lv (v :: st) h) : AW x w nL cl cells slots Q pc lv (vO t i :: st) h := by
  intro hh hl hs H ls locs hR hv hS
  obtain ⟨p, l, e, R, s, m, args, below, meth, c⟩ := x
  obtain ⟨Cn, T, N, hc, hk, rfl, hj, hin, hown, hlink⟩ := F
  obtain ⟨cell, q1, q2, q3, q4⟩ := cellR_obj hk (hR t i hs.1)
  obtain ⟨hS1, hfc, kC, hkC, hkind⟩ := C.kw.1.1 (clT t) _ hc
  obtain ⟨cf, kf, fi, f, hi, hsl⟩ := hS1 j hj
  refine W.getf C.ex C.by C.ow (C.ws _ hlink) (by rw [← hown]; exact hi) (u_facts hfc hkC (u_lays C.ws hin hj) hi).1 q1 (by rw [q3]; exact fun h => by cases h) (v := cV w v) ?_ rfl rfl hdg (kk hh hl ⟨hok hh hs.1, hs.2⟩ H ls locs hR hv hS)
  rw [hsl, q4 j hj]
  show some (cV w (fv h t i j)) = _
  rw [hv0]
theorem r_getI (C : Cx x w rm own cc nL ret hx) {index t i j : Nat} (F : FLk own index t j) (hdg : decode cc pc = .ok (.getfield index, 3)) (h0 : ftT t j = 0) (kk : AW x w nL cl cells slots Q (pc + 3) lv (vI (h t i j) :: st) h) : AW x w nL cl cells slots Q pc lv (vO t i :: st) h :=
  r_get C F hdg (fv_0 h0) (fun hh _ => (hh t i j).1 h0) kk
theorem r_getL (C : Cx x w rm own cc nL ret hx) {index t i j : Nat} (F : FLk own index t j) (hdg : decode cc pc = .ok (.getfield index, 3)) (h0 : ftT t j = 1) (kk : AW x w nL cl cells slots Q (pc + 3) lv (vL (h t i j) :: st) h) : AW x w nL cl cells slots Q pc lv (vO t i :: st) h :=
  r_get C F hdg (fv_1 h0) (fun hh _ => (hh t i j).2 h0) kk
theorem r_getO (C : Cx x w rm own cc nL ret hx) {index t i j t' i' : Nat} (F : FLk own index t j) (hdg : decode cc pc = .ok (.getfield index, 3)) (h0 : ftT t j = 2) (hr : rfT t i j = (t', i')) (ho : i < cntT t → i' < cntT t') (kk : AW x w nL cl cells slots Q (pc + 3) lv (vO t' i' :: st) h) : AW x w nL cl cells slots Q pc lv (vO t i :: st) h :=
  r_get (v := vO t' i') C F hdg (by rw [fv_2 h0, hr]) (fun _ hi => ho hi) kk
theorem r_put (C : Cx x w rm own cc nL ret hx) {index t i j : Nat} {ty : FieldType} (F : PLk own index t j ty) (hdg : decode cc pc = .ok (.putfield index, 3)) {v : AV} {n : Int} (hv0 : fv (hset h t i j n) t i j = v) (hok : okV v → (ftT t j = 0 → okI n) ∧ (ftT t j = 1 → okJ n)) (hn : narrow ty (cV w v) = cV w v) (hfit : fits ty (cV w v) = true) (kk : AW x w nL false cells slots Q (pc + 3) lv st (hset h t i j n)) : AW x w nL cl cells slots Q pc lv (v :: vO t i :: st) h := by
  intro hh hl hs H ls locs hR hv hS
  obtain ⟨p, l, e, R, s, m, args, below, meth, c⟩ := x
  obtain ⟨Cn, T, N, ty0, hc, hk, rfl, hj, hin, hown, hlink, hty, hnm, hfin, rfl⟩ := F
  have hap := va_apart (own := own) C.ws hin ty0 hty hnm C.kw.1 hc
  obtain ⟨cell, q1, q2, q3, q4⟩ := cellR_obj hk (hR t i hs.2.1)
  obtain ⟨hS1, hfc, kC, hkC, hkind⟩ := C.kw.1.1 (clT t) _ hc
  obtain ⟨cf, kf, fi, f, hi, hsl⟩ := hS1 j hj
  have hlay := C.ws _ (hin _ (u_in_lay hj))
  unfold u_lay at hlay
  rw [if_neg (by rw [hfin]; decide)] at hlay
  have hst := (u_facts hfc hkC (u_lays C.ws hin hj) hi).1
  have h6 := u_store hfc hkC hkind hlay hi (hty j hj) hn hfit
  refine W.putK C.ex C.by (f := f) ⟨C.ow, C.ws _ hlink, ⟨_, _, _, (by rw [← hown]; exact hi)⟩, hst⟩ (by rw [q2]; exact h6) q1 q3 (by rw [hsl]; exact k2_hasslot (q4 j hj)) rfl rfl hdg fun H' e1 e2 e3 => ?_
  rw [hsl] at e1 ⊢
  refine kk (hset_ok hh (hok hs.1).1 (hok hs.1).2) hl hs.2.2 H' ls _ (hR.set C.ij hs.2.1 (cellR_ofObj hk (t_OB.to (V := updV (fun j => cV w (fv h t i j)) j (cV w v)) ⟨_, e1, q2, q3, t_set q4 hap hj (cV w v)⟩ fun k' _ => ?_)) e3) hv (hS.weak.put e2 e3 (Or.inl ⟨t, i, hs.2.1, rfl⟩))
  exact congrFun (fv_upd hv0) k'
theorem r_putI (C : Cx x w rm own cc nL ret hx) {index t i j : Nat} {n : Int} (F : PLk own index t j .int) (hdg : decode cc pc = .ok (.putfield index, 3)) (h0 : ftT t j = 0) (kk : AW x w nL false cells slots Q (pc + 3) lv st (hset h t i j n)) : AW x w nL cl cells slots Q pc lv (vI n :: vO t i :: st) h :=
  r_put C F hdg (by rw [fv_0 h0, hset_same]) (fun q => ⟨fun _ => q, fun e => by rw [h0] at e; cases e⟩) rfl rfl kk
theorem r_putZ (C : Cx x w rm own cc nL ret hx) {index t i j : Nat} {n : Int} (F : PLk own index t j .boolean) (hdg : decode cc pc = .ok (.putfield index, 3)) (h0 : ftT t j = 0) (hz : n = 0 ∨ n = 1) (kk : AW x w nL false cells slots Q (pc + 3) lv st (hset h t i j n)) : AW x w nL cl cells slots Q pc lv (vI n :: vO t i :: st) h :=
  r_put C F hdg (by rw [fv_0 h0, hset_same]) (fun q => ⟨fun _ => q, fun e => by rw [h0] at e; cases e⟩) (by rcases hz with rfl | rfl <;> rfl) (by rcases hz with rfl | rfl <;> rfl) kk
theorem r_putL (C : Cx x w rm own cc nL ret hx) {index t i j : Nat} {n : Int} (F : PLk own index t j .long) (hdg : decode cc pc = .ok (.putfield index, 3)) (h0 : ftT t j = 1) (kk : AW x w nL false cells slots Q (pc + 3) lv st (hset h t i j n)) : AW x w nL cl cells slots Q pc lv (vL n :: vO t i :: st) h :=
  r_put C F hdg (by rw [fv_1 h0, hset_same]) (fun q => ⟨fun e => (by rw [h0] at e; cases e), fun _ => q⟩) rfl rfl kk
theorem r_iaload (C : Cx x w rm own cc nL ret hx) {t i : Nat} {a : Int} (hdg : decode cc pc = .ok (.iaload, 1)) (hk : kdT t = 1) (h0 : ∀ j, ftT t j = 0) {ln : Nat} (hln : lnT t = ln) (hi : 0 ≤ a ∧ a < (ln : Int)) (kk : AW x w nL cl cells slots Q (pc + 1) lv (vI (h t i a.toNat) :: st) h) : AW x w nL cl cells slots Q pc lv (vI a :: vO t i :: st) h := by
  intro hh hl hs H ls locs hR hv hS
  obtain ⟨p, l, e, R, s, m, args, below, meth, c⟩ := x
  subst hln
  have hc := cellR_arr hk (hR t i hs.2.1)
  refine W.iald C.ex C.by hc ((C.kw.1.2 0 (w.2.2 0, .int) rfl).1 _ _) (fun q => by cases q) (by rw [arrV_size]; exact i32_in hs.1 hi.1 hi.2) (v := cV w (vI (h t i a.toNat))) (by rw [i32_ix hs.1, arrV_read _ _ (by omega), fv_0 (h0 _)]) rfl rfl hdg (kk hh hl ⟨(hh t i _).1 (h0 _), hs.2.2⟩ H ls locs hR hv hS)
theorem r_laload (C : Cx x w rm own cc nL ret hx) {t i : Nat} {a : Int} (hdg : decode cc pc = .ok (.laload, 1)) (hk : kdT t = 2) (h0 : ∀ j, ftT t j = 1) {ln : Nat} (hln : lnT t = ln) (hi : 0 ≤ a ∧ a < (ln : Int)) (kk : AW x w nL cl cells slots Q (pc + 1) lv (vL (h t i a.toNat) :: st) h) : AW x w nL cl cells slots Q pc lv (vI a :: vO t i :: st) h := by
  intro hh hl hs H ls locs hR hv hS
  obtain ⟨p, l, e, R, s, m, args, below, meth, c⟩ := x
  subst hln
  have hc := cellR_arr hk (hR t i hs.2.1)
  refine W.lald C.ex C.by hc ((C.kw.1.2 1 (w.2.2 1, .long) rfl).1 _ _) (fun q => by cases q) (by rw [arrV_size]; exact i32_in hs.1 hi.1 hi.2) (v := cV w (vL (h t i a.toNat))) (by rw [i32_ix hs.1, arrV_read _ _ (by omega), fv_1 (h0 _)]) rfl rfl hdg (kk hh hl ⟨(hh t i _).2 (h0 _), hs.2.2⟩ H ls locs hR hv hS)
theorem r_zaload (C : Cx x w rm own cc nL ret hx) {t i : Nat} {a : Int} (hdg : decode cc pc = .ok (.baload, 1)) (hk : kdT t = 3) (h0 : ∀ j, ftT t j = 0) {ln : Nat} (hln : lnT t = ln) (hi : 0 ≤ a ∧ a < (ln : Int)) (kk : AW x w nL cl cells slots Q (pc + 1) lv (vI (h t i a.toNat) :: st) h) : AW x w nL cl cells slots Q pc lv (vI a :: vO t i :: st) h := by
  intro hh hl hs H ls locs hR hv hS
  obtain ⟨p, l, e, R, s, m, args, below, meth, c⟩ := x
  subst hln
  have hc := cellR_arr hk (hR t i hs.2.1)
  refine W.zald C.ex C.by hc ((C.kw.1.2 2 (w.2.2 2, .boolean) rfl).1 _ _) (fun q => by cases q) (by rw [arrV_size]; exact i32_in hs.1 hi.1 hi.2) (v := cV w (vI (h t i a.toNat))) (by rw [i32_ix hs.1, arrV_read _ _ (by omega), fv_0 (h0 _)]) rfl rfl hdg (kk hh hl ⟨(hh t i _).1 (h0 _), hs.2.2⟩ H ls locs hR hv hS)
theorem r_aaload (C : Cx x w rm own cc nL ret hx) {t i t' i' : Nat} {a : Int} (hdg : decode cc pc = .ok (.aaload, 1)) {k : Nat} {ty : FieldType} (hk : kdT t = k + 1) (hty : (tysL w)[k]? = some (w.2.2 k, ty)) (hir : ty.isReference = true) (h0 : ∀ j, ftT t j = 2) (hi : 0 ≤ a ∧ a < lnT t) (hr : rfT t i a.toNat = (t', i')) (ho : i < cntT t → 0 ≤ a ∧ a < lnT t → i' < cntT t') (kk : AW x w nL cl cells slots Q (pc + 1) lv (vO t' i' :: st) h) : AW x w nL cl cells slots Q pc lv (vI a :: vO t i :: st) h := by
  intro hh hl hs H ls locs hR hv hS
  obtain ⟨p, l, e, R, s, m, args, below, meth, c⟩ := x
  have hc := cellR_arr hk (hR t i hs.2.1)
  refine W.aald C.ex C.by hc ((C.kw.1.2 k _ hty).1 _ _) hir (fun q => by cases q) (by rw [arrV_size]; exact i32_in hs.1 hi.1 hi.2) (v := cV w (vO t' i')) (by rw [i32_ix hs.1, arrV_read _ _ (by omega), fv_2 (h0 _), hr]) rfl rfl hdg (kk hh hl ⟨ho hs.2.1 hi, hs.2.2⟩ H ls locs hR hv hS)
theorem r_alen (C : Cx x w rm own cc nL ret hx) {t i : Nat} (hdg : decode cc pc = .ok (.arraylength, 1)) {k : Nat} {ty : FieldType} (hk : kdT t = k + 1) (hty : (tysL w)[k]? = some (w.2.2 k, ty)) (hn : (lnT t : Int) ≤ 2147483647) (kk : AW x w nL cl cells slots Q (pc + 1) lv (vI (lnT t : Int) :: st) h) : AW x w nL cl cells slots Q pc lv (vO t i :: st) h := by
  intro hh hl hs H ls locs hR hv hS
  obtain ⟨p, l, e, R, s, m, args, below, meth, c⟩ := x
  have hc := cellR_arr hk (hR t i hs.1)
  refine W.alen C.ex C.by hc ((C.kw.1.2 k _ hty).1 _ _) (n := Int32.ofInt (lnT t : Int)) ?_ rfl rfl hdg (kk hh hl ⟨⟨by omega, hn⟩, hs.2⟩ H ls locs hR hv hS)
  rw [arrV_size, Int32.ofInt_eq_ofNat]
theorem r_iastore (C : Cx x w rm own cc nL ret hx) {t i : Nat} {a n : Int} (hdg : decode cc pc = .ok (.iastore, 1)) (hk : kdT t = 1) (h0 : ∀ j, ftT t j = 0) {ln : Nat} (hln : lnT t = ln) (hi : 0 ≤ a ∧ a < (ln : Int)) (kk : AW x w nL false cells slots Q (pc + 1) lv st (hset h t i a.toNat n)) : AW x w nL cl cells slots Q pc lv (vI n :: vI a :: vO t i :: st) h := by
  intro hh hl hs H ls locs hR hv hS
  obtain ⟨p, l, e, R, s, m, args, below, meth, c⟩ := x
  subst hln
  have hc := cellR_arr hk (hR t i hs.2.2.1)
  refine W.iast C.ex C.by hc ((C.kw.1.2 0 (w.2.2 0, .int) rfl).1 _ _) (fun q => by cases q) (by rw [arrV_size]; exact i32_in hs.2.1 hi.1 hi.2) rfl rfl hdg fun H1 e1 z oq => ?_
  rw [i32_ix hs.2.1] at e1 ⊢
  exact kk (hset_ok hh (fun _ => hs.1) (fun q => by rw [h0] at q; cases q)) hl hs.2.2.2 H1 ls _ (hR.setA C.ij hs.2.2.1 hk (v := vI n) (by rw [fv_0 (h0 _), hset_same]) e1 oq) hv (hS.weak.put z oq (Or.inl ⟨t, i, hs.2.2.1, rfl⟩))
theorem r_lastore (C : Cx x w rm own cc nL ret hx) {t i : Nat} {a n : Int} (hdg : decode cc pc = .ok (.lastore, 1)) (hk : kdT t = 2) (h0 : ∀ j, ftT t j = 1) {ln : Nat} (hln : lnT t = ln) (hi : 0 ≤ a ∧ a < (ln : Int)) (kk : AW x w nL false cells slots Q (pc + 1) lv st (hset h t i a.toNat n)) : AW x w nL cl cells slots Q pc lv (vL n :: vI a :: vO t i :: st) h := by
  intro hh hl hs H ls locs hR hv hS
  obtain ⟨p, l, e, R, s, m, args, below, meth, c⟩ := x
  subst hln
  have hc := cellR_arr hk (hR t i hs.2.2.1)
  refine W.last C.ex C.by hc ((C.kw.1.2 1 (w.2.2 1, .long) rfl).1 _ _) (fun q => by cases q) (by rw [arrV_size]; exact i32_in hs.2.1 hi.1 hi.2) rfl rfl hdg fun H1 e1 z oq => ?_
  rw [i32_ix hs.2.1] at e1 ⊢
  exact kk (hset_ok hh (fun q => by rw [h0] at q; cases q) (fun _ => hs.1)) hl hs.2.2.2 H1 ls _ (hR.setA C.ij hs.2.2.1 hk (v := vL n) (by rw [fv_1 (h0 _), hset_same]) e1 oq) hv (hS.weak.put z oq (Or.inl ⟨t, i, hs.2.2.1, rfl⟩))
theorem r_zastore (C : Cx x w rm own cc nL ret hx) {t i : Nat} {a n : Int} (hdg : decode cc pc = .ok (.bastore, 1)) (hk : kdT t = 3) (h0 : ∀ j, ftT t j = 0) (hz : n = 0 ∨ n = 1) {ln : Nat} (hln : lnT t = ln) (hi : 0 ≤ a ∧ a < (ln : Int)) (kk : AW x w nL false cells slots Q (pc + 1) lv st (hset h t i a.toNat n)) : AW x w nL cl cells slots Q pc lv (vI n :: vI a :: vO t i :: st) h := by
  intro hh hl hs H ls locs hR hv hS
  obtain ⟨p, l, e, R, s, m, args, below, meth, c⟩ := x
  subst hln
  have hc := cellR_arr hk (hR t i hs.2.2.1)
  have hnz : narrow .boolean (.int (Int32.ofInt n)) = .int (Int32.ofInt n) := by rcases hz with rfl | rfl <;> rfl
  refine W.zast C.ex C.by hc ((C.kw.1.2 2 (w.2.2 2, .boolean) rfl).1 _ _) (fun q => by cases q) (by rw [arrV_size]; exact i32_in hs.2.1 hi.1 hi.2) rfl rfl hdg fun H1 e1 z oq => ?_
  rw [i32_ix hs.2.1] at e1 ⊢
  rw [hnz] at e1
  exact kk (hset_ok hh (fun _ => hs.1) (fun q => by rw [h0] at q; cases q)) hl hs.2.2.2 H1 ls _ (hR.setA C.ij hs.2.2.1 hk (v := vI n) (by rw [fv_0 (h0 _), hset_same]) e1 oq) hv (hS.weak.put z oq (Or.inl ⟨t, i, hs.2.2.1, rfl⟩))
/-- a flat of the row of flats -/
theorem r_aaF (C : Cx x w rm own cc nL ret hx) {i : Nat} {a : Int} (hdg : decode cc pc = .ok (.aaload, 1)) (hi : 0 ≤ a ∧ a < 6) (kk : AW x w nL cl cells slots Q (pc + 1) lv (vO 4 a.toNat :: st) h) : AW x w nL cl cells slots Q pc lv (vI a :: vO 3 i :: st) h :=
  r_aaload (k := 3) (ty := .object "HeatShares$Flat") C hdg rfl rfl rfl (fun _ => rfl) hi rfl (fun _ _ => show a.toNat < 6 by omega) kk
/-- a row of what is owed -/
theorem r_aaW (C : Cx x w rm own cc nL ret hx) {i : Nat} {a : Int} (hdg : decode cc pc = .ok (.aaload, 1)) (hi : 0 ≤ a ∧ a < 3) (kk : AW x w nL cl cells slots Q (pc + 1) lv (vO 25 a.toNat :: st) h) : AW x w nL cl cells slots Q pc lv (vI a :: vO 24 i :: st) h :=
  r_aaload (k := 4) (ty := .array .int) C hdg rfl rfl rfl (fun _ => rfl) hi rfl (fun _ _ => show a.toNat < 3 by omega) kk
end HROWS

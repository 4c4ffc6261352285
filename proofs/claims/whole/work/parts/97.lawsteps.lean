/-! The law: one step of its loop, call by call. -/
def scrOK (x : MX) (w : XW) (b L : Nat) (xs : Nat → Int) : Prop := va_X b L (fun j => Int32.ofInt (xs j)) x.s x.s.heap ∧ b < x.s.heap.size ∧ ¬ inU w x.s.heap.size b ∧ (∀ j, okI (xs j)) ∧ L ≤ 2048
section LAWROWS
variable {x : MX} {w : XW} {rm : Room} {own : String} {cc : ByteArray} {nL : Nat} {ret : Option FieldType} {hx : List (Nat × Nat × Nat × Nat)} {cl : Bool} {cells slots pc : Nat} {Q : State → Prop} {lv : List (Nat × AV)} {st : List AV} {h : AH} {b L : Nat} {xs : Nat → Int}
theorem r_sload (C : Cx x w rm own cc nL ret hx) (S : scrOK x w b L xs) (hdg : decode cc pc = .ok (.iaload, 1)) {a : Int} (ha : 0 ≤ a ∧ a < (L : Int)) (kk : AW x w nL cl cells slots Q (pc + 1) lv (vI (xs a.toNat) :: st) h) : AW x w nL cl cells slots Q pc lv (vI a :: vX b :: st) h := by
  intro hh hl hs H ls locs hR hv hS
  obtain ⟨p, l, e, R, s, m, args, below, meth, c⟩ := x
  obtain ⟨s1, s2, s3, s4, s5⟩ := S
  refine va_sld C.ex C.by s1 s2 s3 hS.weak (i := Int32.ofInt a) (i32_in hs.1 ha.1 ha.2) hdg ?_
  rw [i32_ix hs.1]
  exact kk hh hl ⟨s4 _, hs.2.2⟩ H ls locs hR hv hS
theorem r_slen (C : Cx x w rm own cc nL ret hx) (S : scrOK x w b L xs) (hdg : decode cc pc = .ok (.arraylength, 1)) (kk : AW x w nL cl cells slots Q (pc + 1) lv (vI (L : Int) :: st) h) : AW x w nL cl cells slots Q pc lv (vX b :: st) h := by
  intro hh hl hs H ls locs hR hv hS
  obtain ⟨p, l, e, R, s, m, args, below, meth, c⟩ := x
  obtain ⟨s1, s2, s3, s4, s5⟩ := S
  refine va_slen C.ex C.by s1 s2 s3 hS.weak hdg ?_
  rw [← Int32.ofInt_eq_ofNat]
  exact kk hh hl ⟨⟨by omega, by omega⟩, hs.2⟩ H ls locs hR hv hS
variable {y : MethodName} {cY : ByteArray} {nY : Nat} {retY : Option FieldType} {hY : List (Nat × Nat × Nat × Nat)} {index n : Nat} {rmY : Room} {as : List AV} {st0 : List AV} {P : AH → Prop}
theorem r_callSL (C : Cx x w rm own cc nL ret hx) (L : CLk own index y cY nY retY hY n) (hi : Cond.static y ∈ GW) {e : Option Nat} {cd : Nat → Int} (hM : AM x.l y (wsM y cY nY retY hY) false rmY w as h (LO e cd h P)) (hn : as.length = n) (hst0 : as.reverse ++ st = st0) (hdg : decode cc pc = .ok (.invokestatic index, 3))
    (hrm : rmY.frames + 1 ≤ rm.frames ∧ 8 + (nY + 11) + rmY.locals ≤ rm.locals ∧ cells + rmY.cells ≤ rm.cells ∧ slots + rmY.slots ≤ rm.slots) (hst : nargs st ≤ 8)
    (k1 : ∀ (k : Int) (h' : AH), LO e cd h P (.inl (some (vI k))) h' → AW x w nL false (cells + rmY.cells) (slots + rmY.slots) Q (pc + 3) lv (vI k :: st) h') : AW x w nL cl cells slots Q pc lv st0 h := by
  refine r_callS C L hi hM hn hst0 hdg hrm hst (fun v h' q => ?_) (fun k h' q => q.no.elim)
  obtain ⟨k, rfl⟩ := q.int
  have z := k1 k h' q
  cases cl <;> exact z
theorem r_callVR (C : Cx x w rm own cc nL ret hx) (L : CLk own index y cY nY retY hY n) (hi : Cond.instanceMethod y ∈ GW ∧ Cond.selects y.cls y y ∈ GW) {t i : Nat} (hk : kdT t = 0) {T0 : u_T} {N0 : Nat} (hcl : uCl[clT t]? = some (y.cls, T0, N0)) {E : Int} {r0 r1 : Option AV} (hM : AM x.l y (wsM y cY nY retY hY) false rmY w (vO t i :: as) h (Rout E r0 r1 h P)) (hn : as.length = n) (hst0 : as.reverse ++ vO t i :: st = st0) (hdg : decode cc pc = .ok (.invokevirtual index, 3))
    (hrm : rmY.frames + 1 ≤ rm.frames ∧ 8 + (nY + 11) + rmY.locals ≤ rm.locals ∧ rmY.cells = 0 ∧ rmY.slots = 0) (hr2 : cells ≤ rm.cells ∧ slots ≤ rm.slots) (hst : nargs st ≤ 8)
    (k1 : ∀ (v : Option AV) (h' : AH), Rout E r0 r1 h P (.inl v) h' → AW x w nL false cells slots Q (pc + 3) lv (v.toList ++ st) h') : AW x w nL cl cells slots Q pc lv st0 h := by
  refine r_callV C L hi hk hcl hM hn hst0 hdg ⟨hrm.1, hrm.2.1, by rw [hrm.2.2.1]; exact hr2.1, by rw [hrm.2.2.2]; exact hr2.2⟩ hst (fun v h' q => ?_) (fun k h' q => q.no.elim)
  rw [Bool.and_false, hrm.2.2.1, hrm.2.2.2]
  exact k1 v h' q
end LAWROWS
theorem Rout.amt {E : Int} {h h1 : AH} {PR : AH → Prop} {v : Option AV} {b n1 n2 : Int} (q : Rout E (some (vI 0)) (some (if b = 3 then vI n1 else vI n2)) h PR (.inl v) h1) : ∃ k, v = some (vI k) := by
  rcases q with ⟨_, ho, _⟩ | ⟨_, ho, _⟩
  · exact ⟨_, Sum.inl.inj ho⟩
  · by_cases c : b = 3
    · rw [if_pos c] at ho; exact ⟨_, Sum.inl.inj ho⟩
    · rw [if_neg c] at ho; exact ⟨_, Sum.inl.inj ho⟩
set_option maxHeartbeats 1000000 in
theorem law_flat {x : MX} {w : XW} {Q : State → Prop} {b L : Nat} {xs : Nat → Int} (hx : x.l.stackTraces = false) (C : Cx x w room_1 R_L code 7 (some .boolean) []) (S : scrOK x w b L xs) {i : Int} {h : AH} {cells slots : Nat} (hi : 0 ≤ i ∧ i + 3 < (L : Int)) (hc : cells + 1 ≤ 601024 ∧ slots + 8 ≤ 7293034) (R : RL h) (k : ∀ (h2 : AH) (c2 s2 : Nat), RL h2 → c2 ≤ cells + 1 → s2 ≤ slots + 8 → AW x w 7 false c2 s2 Q 1137 [(4, vI i), (3, vO 70 0), (2, vO 40 0), (1, vO 1 0), (0, vX b)] [] h2) : AW x w 7 false cells slots Q 132 [(4, vI i), (3, vO 70 0), (2, vO 40 0), (1, vO 1 0), (0, vX b)] [] h := by
  refine r_aload_n (i0 := 1) C d_L_law_132 rfl rfl ?_
  refine r_aload_nX (i0 := 0) C d_L_law_133 rfl rfl ?_
  refine r_iload C d_L_law_134 rfl ?_
  refine r_iconst C d_L_law_136 (by decide) ?_
  refine r_iadd C d_L_law_137 (by have := S.2.2.2.2; omega) ?_
  refine r_sload C S d_L_law_138 (by omega) ?_
  refine r_aload_nX (i0 := 0) C d_L_law_139 rfl rfl ?_
  refine r_iload C d_L_law_140 rfl ?_
  refine r_iconst C d_L_law_142 (by decide) ?_
  refine r_iadd C d_L_law_143 (by have := S.2.2.2.2; omega) ?_
  refine r_sload C S d_L_law_144 (by omega) ?_
  refine r_aload_nX (i0 := 0) C d_L_law_145 rfl rfl ?_
  refine r_iload C d_L_law_146 rfl ?_
  refine r_iconst C d_L_law_148 (by decide) ?_
  refine r_iadd C d_L_law_149 (by have := S.2.2.2.2; omega) ?_
  refine r_sload C S d_L_law_150 (by omega) ?_
  refine r_aload_n (i0 := 3) C d_L_law_151 rfl rfl ?_
  refine r_callSL C cl_L_85 st_L_flat (c_L_flat hx (a := xs (i + 1).toNat) (b := xs (i + 2).toNat) (c := xs (i + 3).toNat) R.1.1) rfl rfl d_L_law_152 ⟨by decide, by decide, hc.1, hc.2⟩ (by decide) (fun k1 h1 q1 => ?_)
  have X := RX_of R (fr_flat q1)
  refine r_istore C d_L_law_155 (by decide) ?_
  refine r_aload_n (i0 := 2) C d_L_law_157 rfl rfl ?_
  refine r_aload_nX (i0 := 0) C d_L_law_158 rfl rfl ?_
  refine r_iload C d_L_law_159 rfl ?_
  refine r_iconst C d_L_law_161 (by decide) ?_
  refine r_iadd C d_L_law_162 (by have := S.2.2.2.2; omega) ?_
  refine r_sload C S d_L_law_163 (by omega) ?_
  refine r_aload_nX (i0 := 0) C d_L_law_164 rfl rfl ?_
  refine r_iload C d_L_law_165 rfl ?_
  refine r_iconst C d_L_law_167 (by decide) ?_
  refine r_iadd C d_L_law_168 (by have := S.2.2.2.2; omega) ?_
  refine r_sload C S d_L_law_169 (by omega) ?_
  refine r_aload_nX (i0 := 0) C d_L_law_170 rfl rfl ?_
  refine r_iload C d_L_law_171 rfl ?_
  refine r_iconst C d_L_law_173 (by decide) ?_
  refine r_iadd C d_L_law_174 (by have := S.2.2.2.2; omega) ?_
  refine r_sload C S d_L_law_175 (by omega) ?_
  refine r_callVR C cl_L_90 im_R_flat rfl rfl (c_R_flat hx (a := xs (i + 1).toNat) (b := xs (i + 2).toNat) (c := xs (i + 3).toNat) X.1.1) rfl rfl d_L_law_176 (by decide) ⟨hc.1, hc.2⟩ (by decide) (fun v2 h2 q2 => ?_)
  obtain ⟨k2, rfl⟩ := q2.int
  have T := tx_flat R q1 q2
  refine r_istore C d_L_law_179 (by decide) ?_
  refine r_aload_n (i0 := 2) C d_L_law_181 rfl rfl ?_
  refine r_callVp C cl_L_91 im_R_thrown rfl rfl (c_R_thrown hx) rfl rfl d_L_law_182 ⟨by decide, by decide, hc.1, hc.2⟩ (Nat.le_of_ble_eq_true rfl) ?_
  refine r_iload C d_L_law_185 rfl ?_
  refine r_icmp_eq (tgt := 192) C d_L_law_187 (by decide) (fun q187 => ?_) (fun q187 => ?_)
  · refine r_iload C d_L_law_192 rfl ?_
    refine r_if_ne (tgt := 209) C d_L_law_194 (by decide) (fun q194 => ?_) (fun q194 => ?_)
    · refine r_goto (tgt := 1137) C d_L_law_209 (by decide) ?_
      exact AW.lvs [(4, _), (3, _), (2, _), (1, _), (0, _)] ⟨rfl, rfl, rfl, rfl, rfl, trivial⟩ (k _ _ _ T.2.1 (Nat.le_refl _) (Nat.le_refl _))
    · refine r_aload_n (i0 := 3) C d_L_law_197 rfl rfl ?_
      refine r_iconst C d_L_law_198 (by decide) ?_
      refine r_laload (ln := 1) C d_L_law_199 rfl (fun _ => rfl) rfl (by omega) ?_
      refine r_iload C d_L_law_200 rfl ?_
      refine r_i2l C d_L_law_202 ?_
      refine r_lcmp_eq (tgt := 209) C d_L_law_203 d_L_law_204 (by decide) (fun q203 => ?_) (fun q203 => ?_)
      · refine r_goto (tgt := 1137) C d_L_law_209 (by decide) ?_
        exact AW.lvs [(4, _), (3, _), (2, _), (1, _), (0, _)] ⟨rfl, rfl, rfl, rfl, rfl, trivial⟩ (k _ _ _ T.2.1 (Nat.le_refl _) (Nat.le_refl _))
      · exfalso; exact q203 (T.2.2 (by omega)) 
  · exfalso; exact q187 T.1 
set_option maxHeartbeats 1000000 in
theorem law_reading {x : MX} {w : XW} {Q : State → Prop} {b L : Nat} {xs : Nat → Int} (hx : x.l.stackTraces = false) (C : Cx x w room_1 R_L code 7 (some .boolean) []) (S : scrOK x w b L xs) {i : Int} {h : AH} {cells slots : Nat} (hi : 0 ≤ i ∧ i + 3 < (L : Int)) (hc : cells + 1 ≤ 601024 ∧ slots + 8 ≤ 7293034) (R : RL h) (k : ∀ (h2 : AH) (c2 s2 : Nat), RL h2 → c2 ≤ cells + 1 → s2 ≤ slots + 8 → AW x w 7 false c2 s2 Q 1137 [(4, vI i), (3, vO 70 0), (2, vO 40 0), (1, vO 1 0), (0, vX b)] [] h2) : AW x w 7 false cells slots Q 212 [(4, vI i), (3, vO 70 0), (2, vO 40 0), (1, vO 1 0), (0, vX b)] [] h := by
  refine r_aload_n (i0 := 1) C d_L_law_212 rfl rfl ?_
  refine r_aload_nX (i0 := 0) C d_L_law_213 rfl rfl ?_
  refine r_iload C d_L_law_214 rfl ?_
  refine r_iconst C d_L_law_216 (by decide) ?_
  refine r_iadd C d_L_law_217 (by have := S.2.2.2.2; omega) ?_
  refine r_sload C S d_L_law_218 (by omega) ?_
  refine r_aload_nX (i0 := 0) C d_L_law_219 rfl rfl ?_
  refine r_iload C d_L_law_220 rfl ?_
  refine r_iconst C d_L_law_222 (by decide) ?_
  refine r_iadd C d_L_law_223 (by have := S.2.2.2.2; omega) ?_
  refine r_sload C S d_L_law_224 (by omega) ?_
  refine r_aload_nX (i0 := 0) C d_L_law_225 rfl rfl ?_
  refine r_iload C d_L_law_226 rfl ?_
  refine r_iconst C d_L_law_228 (by decide) ?_
  refine r_iadd C d_L_law_229 (by have := S.2.2.2.2; omega) ?_
  refine r_sload C S d_L_law_230 (by omega) ?_
  refine r_callSL C cl_L_94 st_L_reading (c_L_reading hx (a := xs (i + 1).toNat) (b := xs (i + 2).toNat) (c := xs (i + 3).toNat) R.1.1) rfl rfl d_L_law_231 ⟨by decide, by decide, hc.1, hc.2⟩ (by decide) (fun k1 h1 q1 => ?_)
  have X := RX_of R (fr_reading q1)
  refine r_istore C d_L_law_234 (by decide) ?_
  refine r_aload_n (i0 := 2) C d_L_law_236 rfl rfl ?_
  refine r_aload_nX (i0 := 0) C d_L_law_237 rfl rfl ?_
  refine r_iload C d_L_law_238 rfl ?_
  refine r_iconst C d_L_law_240 (by decide) ?_
  refine r_iadd C d_L_law_241 (by have := S.2.2.2.2; omega) ?_
  refine r_sload C S d_L_law_242 (by omega) ?_
  refine r_aload_nX (i0 := 0) C d_L_law_243 rfl rfl ?_
  refine r_iload C d_L_law_244 rfl ?_
  refine r_iconst C d_L_law_246 (by decide) ?_
  refine r_iadd C d_L_law_247 (by have := S.2.2.2.2; omega) ?_
  refine r_sload C S d_L_law_248 (by omega) ?_
  refine r_aload_nX (i0 := 0) C d_L_law_249 rfl rfl ?_
  refine r_iload C d_L_law_250 rfl ?_
  refine r_iconst C d_L_law_252 (by decide) ?_
  refine r_iadd C d_L_law_253 (by have := S.2.2.2.2; omega) ?_
  refine r_sload C S d_L_law_254 (by omega) ?_
  refine r_callVR C cl_L_97 im_R_reading rfl rfl (c_R_reading hx (a := xs (i + 1).toNat) (b := xs (i + 2).toNat) (c := xs (i + 3).toNat) X.1.1) rfl rfl d_L_law_255 (by decide) ⟨hc.1, hc.2⟩ (by decide) (fun v2 h2 q2 => ?_)
  cases q2.unit
  have T := tx_reading R q1 q2
  refine r_aload_n (i0 := 2) C d_L_law_258 rfl rfl ?_
  refine r_callVp C cl_L_91 im_R_thrown rfl rfl (c_R_thrown hx) rfl rfl d_L_law_259 ⟨by decide, by decide, hc.1, hc.2⟩ (Nat.le_of_ble_eq_true rfl) ?_
  refine r_iload C d_L_law_262 rfl ?_
  refine r_icmp_eq (tgt := 269) C d_L_law_264 (by decide) (fun q264 => ?_) (fun q264 => ?_)
  · refine r_goto (tgt := 1137) C d_L_law_269 (by decide) ?_
    exact AW.lvs [(4, _), (3, _), (2, _), (1, _), (0, _)] ⟨rfl, rfl, rfl, rfl, rfl, trivial⟩ (k _ _ _ T.2 (Nat.le_refl _) (Nat.le_refl _))
  · exfalso; exact q264 T.1 
set_option maxHeartbeats 1000000 in
theorem law_enter {x : MX} {w : XW} {Q : State → Prop} {b L : Nat} {xs : Nat → Int} (hx : x.l.stackTraces = false) (C : Cx x w room_1 R_L code 7 (some .boolean) []) (S : scrOK x w b L xs) {i : Int} {h : AH} {cells slots : Nat} (hi : 0 ≤ i ∧ i + 3 < (L : Int)) (hc : cells + 1 ≤ 601024 ∧ slots + 8 ≤ 7293034) (R : RL h) (k : ∀ (h2 : AH) (c2 s2 : Nat), RL h2 → c2 ≤ cells + 1 → s2 ≤ slots + 8 → AW x w 7 false c2 s2 Q 1137 [(4, vI i), (3, vO 70 0), (2, vO 40 0), (1, vO 1 0), (0, vX b)] [] h2) : AW x w 7 false cells slots Q 272 [(4, vI i), (3, vO 70 0), (2, vO 40 0), (1, vO 1 0), (0, vX b)] [] h := by
  refine r_aload_n (i0 := 1) C d_L_law_272 rfl rfl ?_
  refine r_aload_nX (i0 := 0) C d_L_law_273 rfl rfl ?_
  refine r_iload C d_L_law_274 rfl ?_
  refine r_iconst C d_L_law_276 (by decide) ?_
  refine r_iadd C d_L_law_277 (by have := S.2.2.2.2; omega) ?_
  refine r_sload C S d_L_law_278 (by omega) ?_
  refine r_aload_nX (i0 := 0) C d_L_law_279 rfl rfl ?_
  refine r_iload C d_L_law_280 rfl ?_
  refine r_iconst C d_L_law_282 (by decide) ?_
  refine r_iadd C d_L_law_283 (by have := S.2.2.2.2; omega) ?_
  refine r_sload C S d_L_law_284 (by omega) ?_
  refine r_aload_n (i0 := 3) C d_L_law_285 rfl rfl ?_
  refine r_callSL C cl_L_98 st_L_enter (c_L_enter hx (a := xs (i + 1).toNat) (b := xs (i + 2).toNat) R.1.1 R.1.2.2.2.2.1) rfl rfl d_L_law_286 ⟨by decide, by decide, hc.1, hc.2⟩ (by decide) (fun k1 h1 q1 => ?_)
  have X := RX_of R (fr_enter q1)
  refine r_istore C d_L_law_289 (by decide) ?_
  refine r_aload_n (i0 := 2) C d_L_law_291 rfl rfl ?_
  refine r_aload_nX (i0 := 0) C d_L_law_292 rfl rfl ?_
  refine r_iload C d_L_law_293 rfl ?_
  refine r_iconst C d_L_law_295 (by decide) ?_
  refine r_iadd C d_L_law_296 (by have := S.2.2.2.2; omega) ?_
  refine r_sload C S d_L_law_297 (by omega) ?_
  refine r_aload_nX (i0 := 0) C d_L_law_298 rfl rfl ?_
  refine r_iload C d_L_law_299 rfl ?_
  refine r_iconst C d_L_law_301 (by decide) ?_
  refine r_iadd C d_L_law_302 (by have := S.2.2.2.2; omega) ?_
  refine r_sload C S d_L_law_303 (by omega) ?_
  refine r_callVR C cl_L_101 im_R_enter rfl rfl (c_R_enter hx (a := xs (i + 1).toNat) (b := xs (i + 2).toNat) X.1.1 X.1.2.2.2.2.1) rfl rfl d_L_law_304 (by decide) ⟨hc.1, hc.2⟩ (by decide) (fun v2 h2 q2 => ?_)
  obtain ⟨k2, rfl⟩ := q2.int
  have T := tx_enter R q1 q2
  refine r_istore C d_L_law_307 (by decide) ?_
  refine r_aload_n (i0 := 2) C d_L_law_309 rfl rfl ?_
  refine r_callVp C cl_L_91 im_R_thrown rfl rfl (c_R_thrown hx) rfl rfl d_L_law_310 ⟨by decide, by decide, hc.1, hc.2⟩ (Nat.le_of_ble_eq_true rfl) ?_
  refine r_iload C d_L_law_313 rfl ?_
  refine r_icmp_eq (tgt := 320) C d_L_law_315 (by decide) (fun q315 => ?_) (fun q315 => ?_)
  · refine r_iload C d_L_law_320 rfl ?_
    refine r_if_ne (tgt := 337) C d_L_law_322 (by decide) (fun q322 => ?_) (fun q322 => ?_)
    · refine r_goto (tgt := 1137) C d_L_law_337 (by decide) ?_
      exact AW.lvs [(4, _), (3, _), (2, _), (1, _), (0, _)] ⟨rfl, rfl, rfl, rfl, rfl, trivial⟩ (k _ _ _ T.2.1 (Nat.le_refl _) (Nat.le_refl _))
    · refine r_aload_n (i0 := 3) C d_L_law_325 rfl rfl ?_
      refine r_iconst C d_L_law_326 (by decide) ?_
      refine r_laload (ln := 1) C d_L_law_327 rfl (fun _ => rfl) rfl (by omega) ?_
      refine r_iload C d_L_law_328 rfl ?_
      refine r_i2l C d_L_law_330 ?_
      refine r_lcmp_eq (tgt := 337) C d_L_law_331 d_L_law_332 (by decide) (fun q331 => ?_) (fun q331 => ?_)
      · refine r_goto (tgt := 1137) C d_L_law_337 (by decide) ?_
        exact AW.lvs [(4, _), (3, _), (2, _), (1, _), (0, _)] ⟨rfl, rfl, rfl, rfl, rfl, trivial⟩ (k _ _ _ T.2.1 (Nat.le_refl _) (Nat.le_refl _))
      · exfalso; exact q331 (T.2.2 (by omega)) 
  · exfalso; exact q315 T.1 
set_option maxHeartbeats 1000000 in
theorem law_leave {x : MX} {w : XW} {Q : State → Prop} {b L : Nat} {xs : Nat → Int} (hx : x.l.stackTraces = false) (C : Cx x w room_1 R_L code 7 (some .boolean) []) (S : scrOK x w b L xs) {i : Int} {h : AH} {cells slots : Nat} (hi : 0 ≤ i ∧ i + 3 < (L : Int)) (hc : cells + 1 ≤ 601024 ∧ slots + 8 ≤ 7293034) (R : RL h) (k : ∀ (h2 : AH) (c2 s2 : Nat), RL h2 → c2 ≤ cells + 1 → s2 ≤ slots + 8 → AW x w 7 false c2 s2 Q 1137 [(4, vI i), (3, vO 70 0), (2, vO 40 0), (1, vO 1 0), (0, vX b)] [] h2) : AW x w 7 false cells slots Q 340 [(4, vI i), (3, vO 70 0), (2, vO 40 0), (1, vO 1 0), (0, vX b)] [] h := by
  refine r_aload_n (i0 := 1) C d_L_law_340 rfl rfl ?_
  refine r_aload_nX (i0 := 0) C d_L_law_341 rfl rfl ?_
  refine r_iload C d_L_law_342 rfl ?_
  refine r_iconst C d_L_law_344 (by decide) ?_
  refine r_iadd C d_L_law_345 (by have := S.2.2.2.2; omega) ?_
  refine r_sload C S d_L_law_346 (by omega) ?_
  refine r_aload_nX (i0 := 0) C d_L_law_347 rfl rfl ?_
  refine r_iload C d_L_law_348 rfl ?_
  refine r_iconst C d_L_law_350 (by decide) ?_
  refine r_iadd C d_L_law_351 (by have := S.2.2.2.2; omega) ?_
  refine r_sload C S d_L_law_352 (by omega) ?_
  refine r_callSL C cl_L_102 st_L_leave (c_L_leave hx (a := xs (i + 1).toNat) (b := xs (i + 2).toNat) R.1.1) rfl rfl d_L_law_353 ⟨by decide, by decide, hc.1, hc.2⟩ (by decide) (fun k1 h1 q1 => ?_)
  have X := RX_of R (fr_leave q1)
  refine r_istore C d_L_law_356 (by decide) ?_
  refine r_aload_n (i0 := 2) C d_L_law_358 rfl rfl ?_
  refine r_aload_nX (i0 := 0) C d_L_law_359 rfl rfl ?_
  refine r_iload C d_L_law_360 rfl ?_
  refine r_iconst C d_L_law_362 (by decide) ?_
  refine r_iadd C d_L_law_363 (by have := S.2.2.2.2; omega) ?_
  refine r_sload C S d_L_law_364 (by omega) ?_
  refine r_aload_nX (i0 := 0) C d_L_law_365 rfl rfl ?_
  refine r_iload C d_L_law_366 rfl ?_
  refine r_iconst C d_L_law_368 (by decide) ?_
  refine r_iadd C d_L_law_369 (by have := S.2.2.2.2; omega) ?_
  refine r_sload C S d_L_law_370 (by omega) ?_
  refine r_callVR C cl_L_105 im_R_leave rfl rfl (c_R_leave hx (a := xs (i + 1).toNat) (b := xs (i + 2).toNat) X.1.1) rfl rfl d_L_law_371 (by decide) ⟨hc.1, hc.2⟩ (by decide) (fun v2 h2 q2 => ?_)
  cases q2.unit
  have T := tx_leave R q1 q2
  refine r_aload_n (i0 := 2) C d_L_law_374 rfl rfl ?_
  refine r_callVp C cl_L_91 im_R_thrown rfl rfl (c_R_thrown hx) rfl rfl d_L_law_375 ⟨by decide, by decide, hc.1, hc.2⟩ (Nat.le_of_ble_eq_true rfl) ?_
  refine r_iload C d_L_law_378 rfl ?_
  refine r_icmp_eq (tgt := 385) C d_L_law_380 (by decide) (fun q380 => ?_) (fun q380 => ?_)
  · refine r_goto (tgt := 1137) C d_L_law_385 (by decide) ?_
    exact AW.lvs [(4, _), (3, _), (2, _), (1, _), (0, _)] ⟨rfl, rfl, rfl, rfl, rfl, trivial⟩ (k _ _ _ T.2 (Nat.le_refl _) (Nat.le_refl _))
  · exfalso; exact q380 T.1 
set_option maxHeartbeats 1000000 in
theorem law_deliver {x : MX} {w : XW} {Q : State → Prop} {b L : Nat} {xs : Nat → Int} (hx : x.l.stackTraces = false) (C : Cx x w room_1 R_L code 7 (some .boolean) []) (S : scrOK x w b L xs) {i : Int} {h : AH} {cells slots : Nat} (hi : 0 ≤ i ∧ i + 3 < (L : Int)) (hc : cells + 1 ≤ 601024 ∧ slots + 8 ≤ 7293034) (R : RL h) (k : ∀ (h2 : AH) (c2 s2 : Nat), RL h2 → c2 ≤ cells + 1 → s2 ≤ slots + 8 → AW x w 7 false c2 s2 Q 1137 [(4, vI i), (3, vO 70 0), (2, vO 40 0), (1, vO 1 0), (0, vX b)] [] h2) : AW x w 7 false cells slots Q 388 [(4, vI i), (3, vO 70 0), (2, vO 40 0), (1, vO 1 0), (0, vX b)] [] h := by
  refine r_aload_n (i0 := 1) C d_L_law_388 rfl rfl ?_
  refine r_aload_nX (i0 := 0) C d_L_law_389 rfl rfl ?_
  refine r_iload C d_L_law_390 rfl ?_
  refine r_iconst C d_L_law_392 (by decide) ?_
  refine r_iadd C d_L_law_393 (by have := S.2.2.2.2; omega) ?_
  refine r_sload C S d_L_law_394 (by omega) ?_
  refine r_aload_nX (i0 := 0) C d_L_law_395 rfl rfl ?_
  refine r_iload C d_L_law_396 rfl ?_
  refine r_iconst C d_L_law_398 (by decide) ?_
  refine r_iadd C d_L_law_399 (by have := S.2.2.2.2; omega) ?_
  refine r_sload C S d_L_law_400 (by omega) ?_
  refine r_callSL C cl_L_106 st_L_deliver (c_L_deliver hx (a := xs (i + 1).toNat) (b := xs (i + 2).toNat) R.l12) rfl rfl d_L_law_401 ⟨by decide, by decide, hc.1, hc.2⟩ (by decide) (fun k1 h1 q1 => ?_)
  have X := RX_of R (fr_deliver q1)
  refine r_istore C d_L_law_404 (by decide) ?_
  refine r_aload_n (i0 := 2) C d_L_law_406 rfl rfl ?_
  refine r_aload_nX (i0 := 0) C d_L_law_407 rfl rfl ?_
  refine r_iload C d_L_law_408 rfl ?_
  refine r_iconst C d_L_law_410 (by decide) ?_
  refine r_iadd C d_L_law_411 (by have := S.2.2.2.2; omega) ?_
  refine r_sload C S d_L_law_412 (by omega) ?_
  refine r_aload_nX (i0 := 0) C d_L_law_413 rfl rfl ?_
  refine r_iload C d_L_law_414 rfl ?_
  refine r_iconst C d_L_law_416 (by decide) ?_
  refine r_iadd C d_L_law_417 (by have := S.2.2.2.2; omega) ?_
  refine r_sload C S d_L_law_418 (by omega) ?_
  refine r_callVR C cl_L_108 im_R_deliver rfl rfl (c_R_deliver hx (a := xs (i + 1).toNat) (b := xs (i + 2).toNat) X.l12) rfl rfl d_L_law_419 (by decide) ⟨hc.1, hc.2⟩ (by decide) (fun v2 h2 q2 => ?_)
  cases q2.unit
  have T := tx_deliver R q1 q2
  refine r_aload_n (i0 := 2) C d_L_law_422 rfl rfl ?_
  refine r_callVp C cl_L_91 im_R_thrown rfl rfl (c_R_thrown hx) rfl rfl d_L_law_423 ⟨by decide, by decide, hc.1, hc.2⟩ (Nat.le_of_ble_eq_true rfl) ?_
  refine r_iload C d_L_law_426 rfl ?_
  refine r_icmp_eq (tgt := 433) C d_L_law_428 (by decide) (fun q428 => ?_) (fun q428 => ?_)
  · refine r_goto (tgt := 1137) C d_L_law_433 (by decide) ?_
    exact AW.lvs [(4, _), (3, _), (2, _), (1, _), (0, _)] ⟨rfl, rfl, rfl, rfl, rfl, trivial⟩ (k _ _ _ T.2 (Nat.le_refl _) (Nat.le_refl _))
  · exfalso; exact q428 T.1 
set_option maxHeartbeats 1000000 in
theorem law_endStock {x : MX} {w : XW} {Q : State → Prop} {b L : Nat} {xs : Nat → Int} (hx : x.l.stackTraces = false) (C : Cx x w room_1 R_L code 7 (some .boolean) []) (S : scrOK x w b L xs) {i : Int} {h : AH} {cells slots : Nat} (hi : 0 ≤ i ∧ i + 3 < (L : Int)) (hc : cells + 1 ≤ 601024 ∧ slots + 8 ≤ 7293034) (R : RL h) (k : ∀ (h2 : AH) (c2 s2 : Nat), RL h2 → c2 ≤ cells + 1 → s2 ≤ slots + 8 → AW x w 7 false c2 s2 Q 1137 [(4, vI i), (3, vO 70 0), (2, vO 40 0), (1, vO 1 0), (0, vX b)] [] h2) : AW x w 7 false cells slots Q 436 [(4, vI i), (3, vO 70 0), (2, vO 40 0), (1, vO 1 0), (0, vX b)] [] h := by
  refine r_aload_n (i0 := 1) C d_L_law_436 rfl rfl ?_
  refine r_aload_nX (i0 := 0) C d_L_law_437 rfl rfl ?_
  refine r_iload C d_L_law_438 rfl ?_
  refine r_iconst C d_L_law_440 (by decide) ?_
  refine r_iadd C d_L_law_441 (by have := S.2.2.2.2; omega) ?_
  refine r_sload C S d_L_law_442 (by omega) ?_
  refine r_callSL C cl_L_109 st_L_endStock (c_L_endStock hx (a := xs (i + 1).toNat) R.l12 R.hu) rfl rfl d_L_law_443 ⟨by decide, by decide, hc.1, hc.2⟩ (by decide) (fun k1 h1 q1 => ?_)
  have X := RX_of R (fr_endStock q1)
  refine r_istore C d_L_law_446 (by decide) ?_
  refine r_aload_n (i0 := 2) C d_L_law_448 rfl rfl ?_
  refine r_aload_nX (i0 := 0) C d_L_law_449 rfl rfl ?_
  refine r_iload C d_L_law_450 rfl ?_
  refine r_iconst C d_L_law_452 (by decide) ?_
  refine r_iadd C d_L_law_453 (by have := S.2.2.2.2; omega) ?_
  refine r_sload C S d_L_law_454 (by omega) ?_
  refine r_callVR C cl_L_112 im_R_endStock rfl rfl (c_R_endStock hx (a := xs (i + 1).toNat) X.l12 X.hu) rfl rfl d_L_law_455 (by decide) ⟨hc.1, hc.2⟩ (by decide) (fun v2 h2 q2 => ?_)
  cases q2.unit
  have T := tx_endStock R q1 q2
  refine r_aload_n (i0 := 2) C d_L_law_458 rfl rfl ?_
  refine r_callVp C cl_L_91 im_R_thrown rfl rfl (c_R_thrown hx) rfl rfl d_L_law_459 ⟨by decide, by decide, hc.1, hc.2⟩ (Nat.le_of_ble_eq_true rfl) ?_
  refine r_iload C d_L_law_462 rfl ?_
  refine r_icmp_eq (tgt := 469) C d_L_law_464 (by decide) (fun q464 => ?_) (fun q464 => ?_)
  · refine r_goto (tgt := 1137) C d_L_law_469 (by decide) ?_
    exact AW.lvs [(4, _), (3, _), (2, _), (1, _), (0, _)] ⟨rfl, rfl, rfl, rfl, rfl, trivial⟩ (k _ _ _ T.2 (Nat.le_refl _) (Nat.le_refl _))
  · exfalso; exact q464 T.1 
set_option maxHeartbeats 1000000 in
theorem law_sideCosts {x : MX} {w : XW} {Q : State → Prop} {b L : Nat} {xs : Nat → Int} (hx : x.l.stackTraces = false) (C : Cx x w room_1 R_L code 7 (some .boolean) []) (S : scrOK x w b L xs) {i : Int} {h : AH} {cells slots : Nat} (hi : 0 ≤ i ∧ i + 3 < (L : Int)) (hc : cells + 1 ≤ 601024 ∧ slots + 8 ≤ 7293034) (R : RL h) (k : ∀ (h2 : AH) (c2 s2 : Nat), RL h2 → c2 ≤ cells + 1 → s2 ≤ slots + 8 → AW x w 7 false c2 s2 Q 1137 [(4, vI i), (3, vO 70 0), (2, vO 40 0), (1, vO 1 0), (0, vX b)] [] h2) : AW x w 7 false cells slots Q 472 [(4, vI i), (3, vO 70 0), (2, vO 40 0), (1, vO 1 0), (0, vX b)] [] h := by
  refine r_aload_n (i0 := 1) C d_L_law_472 rfl rfl ?_
  refine r_aload_nX (i0 := 0) C d_L_law_473 rfl rfl ?_
  refine r_iload C d_L_law_474 rfl ?_
  refine r_iconst C d_L_law_476 (by decide) ?_
  refine r_iadd C d_L_law_477 (by have := S.2.2.2.2; omega) ?_
  refine r_sload C S d_L_law_478 (by omega) ?_
  refine r_callSL C cl_L_113 st_L_sideCosts (c_L_sideCosts hx (a := xs (i + 1).toNat) ) rfl rfl d_L_law_479 ⟨by decide, by decide, hc.1, hc.2⟩ (by decide) (fun k1 h1 q1 => ?_)
  have X := RX_of R (fr_sideCosts q1)
  refine r_istore C d_L_law_482 (by decide) ?_
  refine r_aload_n (i0 := 2) C d_L_law_484 rfl rfl ?_
  refine r_aload_nX (i0 := 0) C d_L_law_485 rfl rfl ?_
  refine r_iload C d_L_law_486 rfl ?_
  refine r_iconst C d_L_law_488 (by decide) ?_
  refine r_iadd C d_L_law_489 (by have := S.2.2.2.2; omega) ?_
  refine r_sload C S d_L_law_490 (by omega) ?_
  refine r_callVR C cl_L_115 im_R_sideCosts rfl rfl (c_R_sideCosts hx (a := xs (i + 1).toNat) ) rfl rfl d_L_law_491 (by decide) ⟨hc.1, hc.2⟩ (by decide) (fun v2 h2 q2 => ?_)
  cases q2.unit
  have T := tx_sideCosts R q1 q2
  refine r_aload_n (i0 := 2) C d_L_law_494 rfl rfl ?_
  refine r_callVp C cl_L_91 im_R_thrown rfl rfl (c_R_thrown hx) rfl rfl d_L_law_495 ⟨by decide, by decide, hc.1, hc.2⟩ (Nat.le_of_ble_eq_true rfl) ?_
  refine r_iload C d_L_law_498 rfl ?_
  refine r_icmp_eq (tgt := 505) C d_L_law_500 (by decide) (fun q500 => ?_) (fun q500 => ?_)
  · refine r_goto (tgt := 1137) C d_L_law_505 (by decide) ?_
    exact AW.lvs [(4, _), (3, _), (2, _), (1, _), (0, _)] ⟨rfl, rfl, rfl, rfl, rfl, trivial⟩ (k _ _ _ T.2 (Nat.le_refl _) (Nat.le_refl _))
  · exfalso; exact q500 T.1 
set_option maxHeartbeats 1000000 in
theorem law_water {x : MX} {w : XW} {Q : State → Prop} {b L : Nat} {xs : Nat → Int} (hx : x.l.stackTraces = false) (C : Cx x w room_1 R_L code 7 (some .boolean) []) (S : scrOK x w b L xs) {i : Int} {h : AH} {cells slots : Nat} (hi : 0 ≤ i ∧ i + 3 < (L : Int)) (hc : cells + 1 ≤ 601024 ∧ slots + 8 ≤ 7293034) (R : RL h) (k : ∀ (h2 : AH) (c2 s2 : Nat), RL h2 → c2 ≤ cells + 1 → s2 ≤ slots + 8 → AW x w 7 false c2 s2 Q 1137 [(4, vI i), (3, vO 70 0), (2, vO 40 0), (1, vO 1 0), (0, vX b)] [] h2) : AW x w 7 false cells slots Q 508 [(4, vI i), (3, vO 70 0), (2, vO 40 0), (1, vO 1 0), (0, vX b)] [] h := by
  refine r_aload_n (i0 := 1) C d_L_law_508 rfl rfl ?_
  refine r_aload_nX (i0 := 0) C d_L_law_509 rfl rfl ?_
  refine r_iload C d_L_law_510 rfl ?_
  refine r_iconst C d_L_law_512 (by decide) ?_
  refine r_iadd C d_L_law_513 (by have := S.2.2.2.2; omega) ?_
  refine r_sload C S d_L_law_514 (by omega) ?_
  refine r_aload_nX (i0 := 0) C d_L_law_515 rfl rfl ?_
  refine r_iload C d_L_law_516 rfl ?_
  refine r_iconst C d_L_law_518 (by decide) ?_
  refine r_iadd C d_L_law_519 (by have := S.2.2.2.2; omega) ?_
  refine r_sload C S d_L_law_520 (by omega) ?_
  refine r_callSL C cl_L_116 st_L_water (c_L_water hx (a := xs (i + 1).toNat) (b := xs (i + 2).toNat) ) rfl rfl d_L_law_521 ⟨by decide, by decide, hc.1, hc.2⟩ (by decide) (fun k1 h1 q1 => ?_)
  have X := RX_of R (fr_water q1)
  refine r_istore C d_L_law_524 (by decide) ?_
  refine r_aload_n (i0 := 2) C d_L_law_526 rfl rfl ?_
  refine r_aload_nX (i0 := 0) C d_L_law_527 rfl rfl ?_
  refine r_iload C d_L_law_528 rfl ?_
  refine r_iconst C d_L_law_530 (by decide) ?_
  refine r_iadd C d_L_law_531 (by have := S.2.2.2.2; omega) ?_
  refine r_sload C S d_L_law_532 (by omega) ?_
  refine r_aload_nX (i0 := 0) C d_L_law_533 rfl rfl ?_
  refine r_iload C d_L_law_534 rfl ?_
  refine r_iconst C d_L_law_536 (by decide) ?_
  refine r_iadd C d_L_law_537 (by have := S.2.2.2.2; omega) ?_
  refine r_sload C S d_L_law_538 (by omega) ?_
  refine r_callVR C cl_L_118 im_R_water rfl rfl (c_R_water hx (a := xs (i + 1).toNat) (b := xs (i + 2).toNat) ) rfl rfl d_L_law_539 (by decide) ⟨hc.1, hc.2⟩ (by decide) (fun v2 h2 q2 => ?_)
  cases q2.unit
  have T := tx_water R q1 q2
  refine r_aload_n (i0 := 2) C d_L_law_542 rfl rfl ?_
  refine r_callVp C cl_L_91 im_R_thrown rfl rfl (c_R_thrown hx) rfl rfl d_L_law_543 ⟨by decide, by decide, hc.1, hc.2⟩ (Nat.le_of_ble_eq_true rfl) ?_
  refine r_iload C d_L_law_546 rfl ?_
  refine r_icmp_eq (tgt := 553) C d_L_law_548 (by decide) (fun q548 => ?_) (fun q548 => ?_)
  · refine r_goto (tgt := 1137) C d_L_law_553 (by decide) ?_
    exact AW.lvs [(4, _), (3, _), (2, _), (1, _), (0, _)] ⟨rfl, rfl, rfl, rfl, rfl, trivial⟩ (k _ _ _ T.2 (Nat.le_refl _) (Nat.le_refl _))
  · exfalso; exact q548 T.1 
set_option maxHeartbeats 1000000 in
theorem law_permille {x : MX} {w : XW} {Q : State → Prop} {b L : Nat} {xs : Nat → Int} (hx : x.l.stackTraces = false) (C : Cx x w room_1 R_L code 7 (some .boolean) []) (S : scrOK x w b L xs) {i : Int} {h : AH} {cells slots : Nat} (hi : 0 ≤ i ∧ i + 3 < (L : Int)) (hc : cells + 1 ≤ 601024 ∧ slots + 8 ≤ 7293034) (R : RL h) (k : ∀ (h2 : AH) (c2 s2 : Nat), RL h2 → c2 ≤ cells + 1 → s2 ≤ slots + 8 → AW x w 7 false c2 s2 Q 1137 [(4, vI i), (3, vO 70 0), (2, vO 40 0), (1, vO 1 0), (0, vX b)] [] h2) : AW x w 7 false cells slots Q 556 [(4, vI i), (3, vO 70 0), (2, vO 40 0), (1, vO 1 0), (0, vX b)] [] h := by
  refine r_aload_n (i0 := 1) C d_L_law_556 rfl rfl ?_
  refine r_aload_nX (i0 := 0) C d_L_law_557 rfl rfl ?_
  refine r_iload C d_L_law_558 rfl ?_
  refine r_iconst C d_L_law_560 (by decide) ?_
  refine r_iadd C d_L_law_561 (by have := S.2.2.2.2; omega) ?_
  refine r_sload C S d_L_law_562 (by omega) ?_
  refine r_callSL C cl_L_119 st_L_permille (c_L_permille hx (a := xs (i + 1).toNat) ) rfl rfl d_L_law_563 ⟨by decide, by decide, hc.1, hc.2⟩ (by decide) (fun k1 h1 q1 => ?_)
  have X := RX_of R (fr_permille q1)
  refine r_istore C d_L_law_566 (by decide) ?_
  refine r_aload_n (i0 := 2) C d_L_law_568 rfl rfl ?_
  refine r_aload_nX (i0 := 0) C d_L_law_569 rfl rfl ?_
  refine r_iload C d_L_law_570 rfl ?_
  refine r_iconst C d_L_law_572 (by decide) ?_
  refine r_iadd C d_L_law_573 (by have := S.2.2.2.2; omega) ?_
  refine r_sload C S d_L_law_574 (by omega) ?_
  refine r_callVR C cl_L_121 im_R_permille rfl rfl (c_R_permille hx (a := xs (i + 1).toNat) ) rfl rfl d_L_law_575 (by decide) ⟨hc.1, hc.2⟩ (by decide) (fun v2 h2 q2 => ?_)
  cases q2.unit
  have T := tx_permille R q1 q2
  refine r_aload_n (i0 := 2) C d_L_law_578 rfl rfl ?_
  refine r_callVp C cl_L_91 im_R_thrown rfl rfl (c_R_thrown hx) rfl rfl d_L_law_579 ⟨by decide, by decide, hc.1, hc.2⟩ (Nat.le_of_ble_eq_true rfl) ?_
  refine r_iload C d_L_law_582 rfl ?_
  refine r_icmp_eq (tgt := 589) C d_L_law_584 (by decide) (fun q584 => ?_) (fun q584 => ?_)
  · refine r_goto (tgt := 1137) C d_L_law_589 (by decide) ?_
    exact AW.lvs [(4, _), (3, _), (2, _), (1, _), (0, _)] ⟨rfl, rfl, rfl, rfl, rfl, trivial⟩ (k _ _ _ T.2 (Nat.le_refl _) (Nat.le_refl _))
  · exfalso; exact q584 T.1 
set_option maxHeartbeats 1000000 in
theorem law_degrees {x : MX} {w : XW} {Q : State → Prop} {b L : Nat} {xs : Nat → Int} (hx : x.l.stackTraces = false) (C : Cx x w room_1 R_L code 7 (some .boolean) []) (S : scrOK x w b L xs) {i : Int} {h : AH} {cells slots : Nat} (hi : 0 ≤ i ∧ i + 3 < (L : Int)) (hc : cells + 1 ≤ 601024 ∧ slots + 8 ≤ 7293034) (R : RL h) (k : ∀ (h2 : AH) (c2 s2 : Nat), RL h2 → c2 ≤ cells + 1 → s2 ≤ slots + 8 → AW x w 7 false c2 s2 Q 1137 [(4, vI i), (3, vO 70 0), (2, vO 40 0), (1, vO 1 0), (0, vX b)] [] h2) : AW x w 7 false cells slots Q 592 [(4, vI i), (3, vO 70 0), (2, vO 40 0), (1, vO 1 0), (0, vX b)] [] h := by
  refine r_aload_n (i0 := 1) C d_L_law_592 rfl rfl ?_
  refine r_aload_nX (i0 := 0) C d_L_law_593 rfl rfl ?_
  refine r_iload C d_L_law_594 rfl ?_
  refine r_iconst C d_L_law_596 (by decide) ?_
  refine r_iadd C d_L_law_597 (by have := S.2.2.2.2; omega) ?_
  refine r_sload C S d_L_law_598 (by omega) ?_
  refine r_aload_nX (i0 := 0) C d_L_law_599 rfl rfl ?_
  refine r_iload C d_L_law_600 rfl ?_
  refine r_iconst C d_L_law_602 (by decide) ?_
  refine r_iadd C d_L_law_603 (by have := S.2.2.2.2; omega) ?_
  refine r_sload C S d_L_law_604 (by omega) ?_
  refine r_callSL C cl_L_122 st_L_degrees (c_L_degrees hx (a := xs (i + 1).toNat) (b := xs (i + 2).toNat) ) rfl rfl d_L_law_605 ⟨by decide, by decide, hc.1, hc.2⟩ (by decide) (fun k1 h1 q1 => ?_)
  have X := RX_of R (fr_degrees q1)
  refine r_istore C d_L_law_608 (by decide) ?_
  refine r_aload_n (i0 := 2) C d_L_law_610 rfl rfl ?_
  refine r_aload_nX (i0 := 0) C d_L_law_611 rfl rfl ?_
  refine r_iload C d_L_law_612 rfl ?_
  refine r_iconst C d_L_law_614 (by decide) ?_
  refine r_iadd C d_L_law_615 (by have := S.2.2.2.2; omega) ?_
  refine r_sload C S d_L_law_616 (by omega) ?_
  refine r_aload_nX (i0 := 0) C d_L_law_617 rfl rfl ?_
  refine r_iload C d_L_law_618 rfl ?_
  refine r_iconst C d_L_law_620 (by decide) ?_
  refine r_iadd C d_L_law_621 (by have := S.2.2.2.2; omega) ?_
  refine r_sload C S d_L_law_622 (by omega) ?_
  refine r_callVR C cl_L_124 im_R_degrees rfl rfl (c_R_degrees hx (a := xs (i + 1).toNat) (b := xs (i + 2).toNat) ) rfl rfl d_L_law_623 (by decide) ⟨hc.1, hc.2⟩ (by decide) (fun v2 h2 q2 => ?_)
  cases q2.unit
  have T := tx_degrees R q1 q2
  refine r_aload_n (i0 := 2) C d_L_law_626 rfl rfl ?_
  refine r_callVp C cl_L_91 im_R_thrown rfl rfl (c_R_thrown hx) rfl rfl d_L_law_627 ⟨by decide, by decide, hc.1, hc.2⟩ (Nat.le_of_ble_eq_true rfl) ?_
  refine r_iload C d_L_law_630 rfl ?_
  refine r_icmp_eq (tgt := 637) C d_L_law_632 (by decide) (fun q632 => ?_) (fun q632 => ?_)
  · refine r_goto (tgt := 1137) C d_L_law_637 (by decide) ?_
    exact AW.lvs [(4, _), (3, _), (2, _), (1, _), (0, _)] ⟨rfl, rfl, rfl, rfl, rfl, trivial⟩ (k _ _ _ T.2 (Nat.le_refl _) (Nat.le_refl _))
  · exfalso; exact q632 T.1 
set_option maxHeartbeats 1000000 in
theorem law_prepay {x : MX} {w : XW} {Q : State → Prop} {b L : Nat} {xs : Nat → Int} (hx : x.l.stackTraces = false) (C : Cx x w room_1 R_L code 7 (some .boolean) []) (S : scrOK x w b L xs) {i : Int} {h : AH} {cells slots : Nat} (hi : 0 ≤ i ∧ i + 3 < (L : Int)) (hc : cells + 1 ≤ 601024 ∧ slots + 8 ≤ 7293034) (R : RL h) (k : ∀ (h2 : AH) (c2 s2 : Nat), RL h2 → c2 ≤ cells + 1 → s2 ≤ slots + 8 → AW x w 7 false c2 s2 Q 1137 [(4, vI i), (3, vO 70 0), (2, vO 40 0), (1, vO 1 0), (0, vX b)] [] h2) : AW x w 7 false cells slots Q 640 [(4, vI i), (3, vO 70 0), (2, vO 40 0), (1, vO 1 0), (0, vX b)] [] h := by
  refine r_aload_n (i0 := 1) C d_L_law_640 rfl rfl ?_
  refine r_aload_nX (i0 := 0) C d_L_law_641 rfl rfl ?_
  refine r_iload C d_L_law_642 rfl ?_
  refine r_iconst C d_L_law_644 (by decide) ?_
  refine r_iadd C d_L_law_645 (by have := S.2.2.2.2; omega) ?_
  refine r_sload C S d_L_law_646 (by omega) ?_
  refine r_aload_nX (i0 := 0) C d_L_law_647 rfl rfl ?_
  refine r_iload C d_L_law_648 rfl ?_
  refine r_iconst C d_L_law_650 (by decide) ?_
  refine r_iadd C d_L_law_651 (by have := S.2.2.2.2; omega) ?_
  refine r_sload C S d_L_law_652 (by omega) ?_
  refine r_callSL C cl_L_125 st_L_prepay (c_L_prepay hx (a := xs (i + 1).toNat) (b := xs (i + 2).toNat) R.1.2.2.2.2.1 R.2.2.2.1.2.1) rfl rfl d_L_law_653 ⟨by decide, by decide, hc.1, hc.2⟩ (by decide) (fun k1 h1 q1 => ?_)
  have X := RX_of R (fr_prepay q1)
  refine r_istore C d_L_law_656 (by decide) ?_
  refine r_aload_n (i0 := 2) C d_L_law_658 rfl rfl ?_
  refine r_aload_nX (i0 := 0) C d_L_law_659 rfl rfl ?_
  refine r_iload C d_L_law_660 rfl ?_
  refine r_iconst C d_L_law_662 (by decide) ?_
  refine r_iadd C d_L_law_663 (by have := S.2.2.2.2; omega) ?_
  refine r_sload C S d_L_law_664 (by omega) ?_
  refine r_aload_nX (i0 := 0) C d_L_law_665 rfl rfl ?_
  refine r_iload C d_L_law_666 rfl ?_
  refine r_iconst C d_L_law_668 (by decide) ?_
  refine r_iadd C d_L_law_669 (by have := S.2.2.2.2; omega) ?_
  refine r_sload C S d_L_law_670 (by omega) ?_
  refine r_callVR C cl_L_127 im_R_prepay rfl rfl (c_R_prepay hx (a := xs (i + 1).toNat) (b := xs (i + 2).toNat) X.1.2.2.2.2.1 X.2.2) rfl rfl d_L_law_671 (by decide) ⟨hc.1, hc.2⟩ (by decide) (fun v2 h2 q2 => ?_)
  cases q2.unit
  have T := tx_prepay R q1 q2
  refine r_aload_n (i0 := 2) C d_L_law_674 rfl rfl ?_
  refine r_callVp C cl_L_91 im_R_thrown rfl rfl (c_R_thrown hx) rfl rfl d_L_law_675 ⟨by decide, by decide, hc.1, hc.2⟩ (Nat.le_of_ble_eq_true rfl) ?_
  refine r_iload C d_L_law_678 rfl ?_
  refine r_icmp_eq (tgt := 685) C d_L_law_680 (by decide) (fun q680 => ?_) (fun q680 => ?_)
  · refine r_goto (tgt := 1137) C d_L_law_685 (by decide) ?_
    exact AW.lvs [(4, _), (3, _), (2, _), (1, _), (0, _)] ⟨rfl, rfl, rfl, rfl, rfl, trivial⟩ (k _ _ _ T.2 (Nat.le_refl _) (Nat.le_refl _))
  · exfalso; exact q680 T.1 
set_option maxHeartbeats 1000000 in
theorem law_amount {x : MX} {w : XW} {Q : State → Prop} {b L : Nat} {xs : Nat → Int} (hx : x.l.stackTraces = false) (C : Cx x w room_1 R_L code 7 (some .boolean) []) (S : scrOK x w b L xs) {i : Int} {h : AH} {cells slots : Nat} (hi : 0 ≤ i ∧ i + 3 < (L : Int)) (hc : cells + 1 ≤ 601024 ∧ slots + 8 ≤ 7293034) (R : RL h) (k : ∀ (h2 : AH) (c2 s2 : Nat), RL h2 → c2 ≤ cells + 1 → s2 ≤ slots + 8 → AW x w 7 false c2 s2 Q 1137 [(4, vI i), (3, vO 70 0), (2, vO 40 0), (1, vO 1 0), (0, vX b)] [] h2) : AW x w 7 false cells slots Q 701 [(4, vI i), (3, vO 70 0), (2, vO 40 0), (1, vO 1 0), (0, vX b)] [] h := by
  refine r_aload_n (i0 := 1) C d_L_law_701 rfl rfl ?_
  refine r_aload_nX (i0 := 0) C d_L_law_702 rfl rfl ?_
  refine r_iload C d_L_law_703 rfl ?_
  refine r_iconst C d_L_law_705 (by decide) ?_
  refine r_iadd C d_L_law_706 (by have := S.2.2.2.2; omega) ?_
  refine r_sload C S d_L_law_707 (by omega) ?_
  refine r_aload_nX (i0 := 0) C d_L_law_708 rfl rfl ?_
  refine r_iload C d_L_law_709 rfl ?_
  refine r_iconst C d_L_law_711 (by decide) ?_
  refine r_iadd C d_L_law_712 (by have := S.2.2.2.2; omega) ?_
  refine r_sload C S d_L_law_713 (by omega) ?_
  refine r_aload_n (i0 := 3) C d_L_law_714 rfl rfl ?_
  refine r_callSL C cl_L_132 st_L_amount (c_L_amount hx (a := xs (i + 1).toNat) (b := xs (i + 2).toNat) R.1.2.2.2.2.1 R.2.2.2.1.2.2.2.2.2.2.1) rfl rfl d_L_law_715 ⟨by decide, by decide, hc.1, hc.2⟩ (by decide) (fun k1 h1 q1 => ?_)
  have X := RX_of R (fr_amount q1)
  refine r_istore C d_L_law_718 (by decide) ?_
  refine r_aload_n (i0 := 2) C d_L_law_720 rfl rfl ?_
  refine r_aload_nX (i0 := 0) C d_L_law_721 rfl rfl ?_
  refine r_iload C d_L_law_722 rfl ?_
  refine r_iconst C d_L_law_724 (by decide) ?_
  refine r_iadd C d_L_law_725 (by have := S.2.2.2.2; omega) ?_
  refine r_sload C S d_L_law_726 (by omega) ?_
  refine r_aload_nX (i0 := 0) C d_L_law_727 rfl rfl ?_
  refine r_iload C d_L_law_728 rfl ?_
  refine r_iconst C d_L_law_730 (by decide) ?_
  refine r_iadd C d_L_law_731 (by have := S.2.2.2.2; omega) ?_
  refine r_sload C S d_L_law_732 (by omega) ?_
  refine r_callVR C cl_L_134 im_R_amount rfl rfl (c_R_amount hx (a := xs (i + 1).toNat) (b := xs (i + 2).toNat) X.1.2.2.2.2.1 X.2.1.1) rfl rfl d_L_law_733 (by decide) ⟨hc.1, hc.2⟩ (by decide) (fun v2 h2 q2 => ?_)
  obtain ⟨k2, rfl⟩ := q2.amt
  have T := tx_amount R q1 q2
  refine r_istore C d_L_law_736 (by decide) ?_
  refine r_aload_n (i0 := 2) C d_L_law_738 rfl rfl ?_
  refine r_callVp C cl_L_91 im_R_thrown rfl rfl (c_R_thrown hx) rfl rfl d_L_law_739 ⟨by decide, by decide, hc.1, hc.2⟩ (Nat.le_of_ble_eq_true rfl) ?_
  refine r_iload C d_L_law_742 rfl ?_
  refine r_icmp_eq (tgt := 749) C d_L_law_744 (by decide) (fun q744 => ?_) (fun q744 => ?_)
  · refine r_iload C d_L_law_749 rfl ?_
    refine r_if_ne (tgt := 766) C d_L_law_751 (by decide) (fun q751 => ?_) (fun q751 => ?_)
    · refine r_goto (tgt := 1137) C d_L_law_766 (by decide) ?_
      exact AW.lvs [(4, _), (3, _), (2, _), (1, _), (0, _)] ⟨rfl, rfl, rfl, rfl, rfl, trivial⟩ (k _ _ _ T.2.1 (Nat.le_refl _) (Nat.le_refl _))
    · refine r_aload_n (i0 := 3) C d_L_law_754 rfl rfl ?_
      refine r_iconst C d_L_law_755 (by decide) ?_
      refine r_laload (ln := 1) C d_L_law_756 rfl (fun _ => rfl) rfl (by omega) ?_
      refine r_iload C d_L_law_757 rfl ?_
      refine r_i2l C d_L_law_759 ?_
      refine r_lcmp_eq (tgt := 766) C d_L_law_760 d_L_law_761 (by decide) (fun q760 => ?_) (fun q760 => ?_)
      · refine r_goto (tgt := 1137) C d_L_law_766 (by decide) ?_
        exact AW.lvs [(4, _), (3, _), (2, _), (1, _), (0, _)] ⟨rfl, rfl, rfl, rfl, rfl, trivial⟩ (k _ _ _ T.2.1 (Nat.le_refl _) (Nat.le_refl _))
      · exfalso; exact q760 (T.2.2 (by omega)) 
  · exfalso; exact q744 T.1 
set_option maxHeartbeats 1000000 in
theorem law_paid {x : MX} {w : XW} {Q : State → Prop} {b L : Nat} {xs : Nat → Int} (hx : x.l.stackTraces = false) (C : Cx x w room_1 R_L code 7 (some .boolean) []) (S : scrOK x w b L xs) {i : Int} {h : AH} {cells slots : Nat} (hi : 0 ≤ i ∧ i + 3 < (L : Int)) (hc : cells + 1 ≤ 601024 ∧ slots + 8 ≤ 7293034) (R : RL h) (k : ∀ (h2 : AH) (c2 s2 : Nat), RL h2 → c2 ≤ cells + 1 → s2 ≤ slots + 8 → AW x w 7 false c2 s2 Q 1137 [(4, vI i), (3, vO 70 0), (2, vO 40 0), (1, vO 1 0), (0, vX b)] [] h2) : AW x w 7 false cells slots Q 769 [(4, vI i), (3, vO 70 0), (2, vO 40 0), (1, vO 1 0), (0, vX b)] [] h := by
  refine r_aload_n (i0 := 1) C d_L_law_769 rfl rfl ?_
  refine r_aload_nX (i0 := 0) C d_L_law_770 rfl rfl ?_
  refine r_iload C d_L_law_771 rfl ?_
  refine r_iconst C d_L_law_773 (by decide) ?_
  refine r_iadd C d_L_law_774 (by have := S.2.2.2.2; omega) ?_
  refine r_sload C S d_L_law_775 (by omega) ?_
  refine r_aload_n (i0 := 3) C d_L_law_776 rfl rfl ?_
  refine r_callSL C cl_L_135 st_L_paid (c_L_paid hx (a := xs (i + 1).toNat) R.1.2.2.2.2.1) rfl rfl d_L_law_777 ⟨by decide, by decide, hc.1, hc.2⟩ (by decide) (fun k1 h1 q1 => ?_)
  have X := RX_of R (fr_paid q1)
  refine r_istore C d_L_law_780 (by decide) ?_
  refine r_aload_n (i0 := 2) C d_L_law_782 rfl rfl ?_
  refine r_aload_nX (i0 := 0) C d_L_law_783 rfl rfl ?_
  refine r_iload C d_L_law_784 rfl ?_
  refine r_iconst C d_L_law_786 (by decide) ?_
  refine r_iadd C d_L_law_787 (by have := S.2.2.2.2; omega) ?_
  refine r_sload C S d_L_law_788 (by omega) ?_
  refine r_callVR C cl_L_138 im_R_paid rfl rfl (c_R_paid hx (a := xs (i + 1).toNat) X.1.2.2.2.2.1) rfl rfl d_L_law_789 (by decide) ⟨hc.1, hc.2⟩ (by decide) (fun v2 h2 q2 => ?_)
  obtain ⟨k2, rfl⟩ := q2.int
  have T := tx_paid R q1 q2
  refine r_istore C d_L_law_792 (by decide) ?_
  refine r_aload_n (i0 := 2) C d_L_law_794 rfl rfl ?_
  refine r_callVp C cl_L_91 im_R_thrown rfl rfl (c_R_thrown hx) rfl rfl d_L_law_795 ⟨by decide, by decide, hc.1, hc.2⟩ (Nat.le_of_ble_eq_true rfl) ?_
  refine r_iload C d_L_law_798 rfl ?_
  refine r_icmp_eq (tgt := 805) C d_L_law_800 (by decide) (fun q800 => ?_) (fun q800 => ?_)
  · refine r_iload C d_L_law_805 rfl ?_
    refine r_if_ne (tgt := 822) C d_L_law_807 (by decide) (fun q807 => ?_) (fun q807 => ?_)
    · refine r_goto (tgt := 1137) C d_L_law_822 (by decide) ?_
      exact AW.lvs [(4, _), (3, _), (2, _), (1, _), (0, _)] ⟨rfl, rfl, rfl, rfl, rfl, trivial⟩ (k _ _ _ T.2.1 (Nat.le_refl _) (Nat.le_refl _))
    · refine r_aload_n (i0 := 3) C d_L_law_810 rfl rfl ?_
      refine r_iconst C d_L_law_811 (by decide) ?_
      refine r_laload (ln := 1) C d_L_law_812 rfl (fun _ => rfl) rfl (by omega) ?_
      refine r_iload C d_L_law_813 rfl ?_
      refine r_i2l C d_L_law_815 ?_
      refine r_lcmp_eq (tgt := 822) C d_L_law_816 d_L_law_817 (by decide) (fun q816 => ?_) (fun q816 => ?_)
      · refine r_goto (tgt := 1137) C d_L_law_822 (by decide) ?_
        exact AW.lvs [(4, _), (3, _), (2, _), (1, _), (0, _)] ⟨rfl, rfl, rfl, rfl, rfl, trivial⟩ (k _ _ _ T.2.1 (Nat.le_refl _) (Nat.le_refl _))
      · exfalso; exact q816 (T.2.2 (by omega)) 
  · exfalso; exact q800 T.1 
set_option maxHeartbeats 1000000 in
theorem law_part {x : MX} {w : XW} {Q : State → Prop} {b L : Nat} {xs : Nat → Int} (hx : x.l.stackTraces = false) (C : Cx x w room_1 R_L code 7 (some .boolean) []) (S : scrOK x w b L xs) {i : Int} {h : AH} {cells slots : Nat} (hi : 0 ≤ i ∧ i + 3 < (L : Int)) (hc : cells + 1 ≤ 601024 ∧ slots + 8 ≤ 7293034) (R : RL h) (k : ∀ (h2 : AH) (c2 s2 : Nat), RL h2 → c2 ≤ cells + 1 → s2 ≤ slots + 8 → AW x w 7 false c2 s2 Q 1137 [(4, vI i), (3, vO 70 0), (2, vO 40 0), (1, vO 1 0), (0, vX b)] [] h2) : AW x w 7 false cells slots Q 825 [(4, vI i), (3, vO 70 0), (2, vO 40 0), (1, vO 1 0), (0, vX b)] [] h := by
  refine r_aload_n (i0 := 1) C d_L_law_825 rfl rfl ?_
  refine r_aload_nX (i0 := 0) C d_L_law_826 rfl rfl ?_
  refine r_iload C d_L_law_827 rfl ?_
  refine r_iconst C d_L_law_829 (by decide) ?_
  refine r_iadd C d_L_law_830 (by have := S.2.2.2.2; omega) ?_
  refine r_sload C S d_L_law_831 (by omega) ?_
  refine r_aload_n (i0 := 3) C d_L_law_832 rfl rfl ?_
  refine r_callSL C cl_L_139 st_L_part (c_L_part hx (a := xs (i + 1).toNat) ) rfl rfl d_L_law_833 ⟨by decide, by decide, hc.1, hc.2⟩ (by decide) (fun k1 h1 q1 => ?_)
  have X := RX_of R (fr_part q1)
  refine r_istore C d_L_law_836 (by decide) ?_
  refine r_aload_n (i0 := 2) C d_L_law_838 rfl rfl ?_
  refine r_aload_nX (i0 := 0) C d_L_law_839 rfl rfl ?_
  refine r_iload C d_L_law_840 rfl ?_
  refine r_iconst C d_L_law_842 (by decide) ?_
  refine r_iadd C d_L_law_843 (by have := S.2.2.2.2; omega) ?_
  refine r_sload C S d_L_law_844 (by omega) ?_
  refine r_callVR C cl_L_141 im_R_part rfl rfl (c_R_part hx (a := xs (i + 1).toNat) ) rfl rfl d_L_law_845 (by decide) ⟨hc.1, hc.2⟩ (by decide) (fun v2 h2 q2 => ?_)
  obtain ⟨k2, rfl⟩ := q2.int
  have T := tx_part R q1 q2
  refine r_istore C d_L_law_848 (by decide) ?_
  refine r_aload_n (i0 := 2) C d_L_law_850 rfl rfl ?_
  refine r_callVp C cl_L_91 im_R_thrown rfl rfl (c_R_thrown hx) rfl rfl d_L_law_851 ⟨by decide, by decide, hc.1, hc.2⟩ (Nat.le_of_ble_eq_true rfl) ?_
  refine r_iload C d_L_law_854 rfl ?_
  refine r_icmp_eq (tgt := 861) C d_L_law_856 (by decide) (fun q856 => ?_) (fun q856 => ?_)
  · refine r_iload C d_L_law_861 rfl ?_
    refine r_if_ne (tgt := 878) C d_L_law_863 (by decide) (fun q863 => ?_) (fun q863 => ?_)
    · refine r_goto (tgt := 1137) C d_L_law_878 (by decide) ?_
      exact AW.lvs [(4, _), (3, _), (2, _), (1, _), (0, _)] ⟨rfl, rfl, rfl, rfl, rfl, trivial⟩ (k _ _ _ T.2.1 (Nat.le_refl _) (Nat.le_refl _))
    · refine r_aload_n (i0 := 3) C d_L_law_866 rfl rfl ?_
      refine r_iconst C d_L_law_867 (by decide) ?_
      refine r_laload (ln := 1) C d_L_law_868 rfl (fun _ => rfl) rfl (by omega) ?_
      refine r_iload C d_L_law_869 rfl ?_
      refine r_i2l C d_L_law_871 ?_
      refine r_lcmp_eq (tgt := 878) C d_L_law_872 d_L_law_873 (by decide) (fun q872 => ?_) (fun q872 => ?_)
      · refine r_goto (tgt := 1137) C d_L_law_878 (by decide) ?_
        exact AW.lvs [(4, _), (3, _), (2, _), (1, _), (0, _)] ⟨rfl, rfl, rfl, rfl, rfl, trivial⟩ (k _ _ _ T.2.1 (Nat.le_refl _) (Nat.le_refl _))
      · exfalso; exact q872 (T.2.2 (by omega)) 
  · exfalso; exact q856 T.1 
set_option maxHeartbeats 1000000 in
theorem law_replaced {x : MX} {w : XW} {Q : State → Prop} {b L : Nat} {xs : Nat → Int} (hx : x.l.stackTraces = false) (C : Cx x w room_1 R_L code 7 (some .boolean) []) (S : scrOK x w b L xs) {i : Int} {h : AH} {cells slots : Nat} (hi : 0 ≤ i ∧ i + 3 < (L : Int)) (hc : cells + 1 ≤ 601024 ∧ slots + 8 ≤ 7293034) (R : RL h) (k : ∀ (h2 : AH) (c2 s2 : Nat), RL h2 → c2 ≤ cells + 1 → s2 ≤ slots + 8 → AW x w 7 false c2 s2 Q 1137 [(4, vI i), (3, vO 70 0), (2, vO 40 0), (1, vO 1 0), (0, vX b)] [] h2) : AW x w 7 false cells slots Q 881 [(4, vI i), (3, vO 70 0), (2, vO 40 0), (1, vO 1 0), (0, vX b)] [] h := by
  refine r_aload_n (i0 := 1) C d_L_law_881 rfl rfl ?_
  refine r_aload_nX (i0 := 0) C d_L_law_882 rfl rfl ?_
  refine r_iload C d_L_law_883 rfl ?_
  refine r_iconst C d_L_law_885 (by decide) ?_
  refine r_iadd C d_L_law_886 (by have := S.2.2.2.2; omega) ?_
  refine r_sload C S d_L_law_887 (by omega) ?_
  refine r_aload_n (i0 := 3) C d_L_law_888 rfl rfl ?_
  refine r_callSL C cl_L_142 st_L_replaced (c_L_replaced hx (a := xs (i + 1).toNat) R.1.1 R.1.2.1) rfl rfl d_L_law_889 ⟨by decide, by decide, hc.1, hc.2⟩ (by decide) (fun k1 h1 q1 => ?_)
  have X := RX_of R (fr_replaced q1)
  refine r_istore C d_L_law_892 (by decide) ?_
  refine r_aload_n (i0 := 2) C d_L_law_894 rfl rfl ?_
  refine r_aload_nX (i0 := 0) C d_L_law_895 rfl rfl ?_
  refine r_iload C d_L_law_896 rfl ?_
  refine r_iconst C d_L_law_898 (by decide) ?_
  refine r_iadd C d_L_law_899 (by have := S.2.2.2.2; omega) ?_
  refine r_sload C S d_L_law_900 (by omega) ?_
  refine r_callVR C cl_L_144 im_R_replaced rfl rfl (c_R_replaced hx (a := xs (i + 1).toNat) X.1.1 X.1.2.1) rfl rfl d_L_law_901 (by decide) ⟨hc.1, hc.2⟩ (by decide) (fun v2 h2 q2 => ?_)
  obtain ⟨k2, rfl⟩ := q2.int
  have T := tx_replaced R q1 q2
  refine r_istore C d_L_law_904 (by decide) ?_
  refine r_aload_n (i0 := 2) C d_L_law_906 rfl rfl ?_
  refine r_callVp C cl_L_91 im_R_thrown rfl rfl (c_R_thrown hx) rfl rfl d_L_law_907 ⟨by decide, by decide, hc.1, hc.2⟩ (Nat.le_of_ble_eq_true rfl) ?_
  refine r_iload C d_L_law_910 rfl ?_
  refine r_icmp_eq (tgt := 917) C d_L_law_912 (by decide) (fun q912 => ?_) (fun q912 => ?_)
  · refine r_iload C d_L_law_917 rfl ?_
    refine r_if_ne (tgt := 934) C d_L_law_919 (by decide) (fun q919 => ?_) (fun q919 => ?_)
    · refine r_goto (tgt := 1137) C d_L_law_934 (by decide) ?_
      exact AW.lvs [(4, _), (3, _), (2, _), (1, _), (0, _)] ⟨rfl, rfl, rfl, rfl, rfl, trivial⟩ (k _ _ _ T.2.1 (Nat.le_refl _) (Nat.le_refl _))
    · refine r_aload_n (i0 := 3) C d_L_law_922 rfl rfl ?_
      refine r_iconst C d_L_law_923 (by decide) ?_
      refine r_laload (ln := 1) C d_L_law_924 rfl (fun _ => rfl) rfl (by omega) ?_
      refine r_iload C d_L_law_925 rfl ?_
      refine r_i2l C d_L_law_927 ?_
      refine r_lcmp_eq (tgt := 934) C d_L_law_928 d_L_law_929 (by decide) (fun q928 => ?_) (fun q928 => ?_)
      · refine r_goto (tgt := 1137) C d_L_law_934 (by decide) ?_
        exact AW.lvs [(4, _), (3, _), (2, _), (1, _), (0, _)] ⟨rfl, rfl, rfl, rfl, rfl, trivial⟩ (k _ _ _ T.2.1 (Nat.le_refl _) (Nat.le_refl _))
      · exfalso; exact q928 (T.2.2 (by omega)) 
  · exfalso; exact q912 T.1 
set_option maxHeartbeats 1000000 in
theorem law_send {x : MX} {w : XW} {Q : State → Prop} {b L : Nat} {xs : Nat → Int} (hx : x.l.stackTraces = false) (C : Cx x w room_1 R_L code 7 (some .boolean) []) (S : scrOK x w b L xs) {i : Int} {h : AH} {cells slots : Nat} (hi : 0 ≤ i ∧ i + 3 < (L : Int)) (hc : cells + 1 ≤ 601024 ∧ slots + 8 ≤ 7293034) (R : RL h) (k : ∀ (h2 : AH) (c2 s2 : Nat), RL h2 → c2 ≤ cells + 1 → s2 ≤ slots + 8 → AW x w 7 false c2 s2 Q 1137 [(4, vI i), (3, vO 70 0), (2, vO 40 0), (1, vO 1 0), (0, vX b)] [] h2) : AW x w 7 false cells slots Q 937 [(4, vI i), (3, vO 70 0), (2, vO 40 0), (1, vO 1 0), (0, vX b)] [] h := by
  refine r_aload_n (i0 := 1) C d_L_law_937 rfl rfl ?_
  refine r_aload_n (i0 := 3) C d_L_law_938 rfl rfl ?_
  refine r_callSL C cl_L_145 st_L_send (c_L_send hx  R.pok) rfl rfl d_L_law_939 ⟨by decide, by decide, hc.1, hc.2⟩ (by decide) (fun k1 h1 q1 => ?_)
  have X := RX_of R (fr_send q1)
  refine r_istore C d_L_law_942 (by decide) ?_
  refine r_aload_n (i0 := 2) C d_L_law_944 rfl rfl ?_
  refine r_callVR C cl_L_148 im_R_send rfl rfl (c_R_send hx  X.2.1) rfl rfl d_L_law_945 (by decide) ⟨hc.1, hc.2⟩ (by decide) (fun v2 h2 q2 => ?_)
  obtain ⟨k2, rfl⟩ := q2.int
  have T := tx_send R q1 q2
  refine r_istore C d_L_law_948 (by decide) ?_
  refine r_aload_n (i0 := 2) C d_L_law_950 rfl rfl ?_
  refine r_callVp C cl_L_91 im_R_thrown rfl rfl (c_R_thrown hx) rfl rfl d_L_law_951 ⟨by decide, by decide, hc.1, hc.2⟩ (Nat.le_of_ble_eq_true rfl) ?_
  refine r_iload C d_L_law_954 rfl ?_
  refine r_icmp_eq (tgt := 961) C d_L_law_956 (by decide) (fun q956 => ?_) (fun q956 => ?_)
  · refine r_iload C d_L_law_961 rfl ?_
    refine r_if_ne (tgt := 978) C d_L_law_963 (by decide) (fun q963 => ?_) (fun q963 => ?_)
    · refine r_goto (tgt := 1137) C d_L_law_978 (by decide) ?_
      exact AW.lvs [(4, _), (3, _), (2, _), (1, _), (0, _)] ⟨rfl, rfl, rfl, rfl, rfl, trivial⟩ (k _ _ _ T.2.1 (Nat.le_refl _) (Nat.le_refl _))
    · refine r_aload_n (i0 := 3) C d_L_law_966 rfl rfl ?_
      refine r_iconst C d_L_law_967 (by decide) ?_
      refine r_laload (ln := 1) C d_L_law_968 rfl (fun _ => rfl) rfl (by omega) ?_
      refine r_iload C d_L_law_969 rfl ?_
      refine r_i2l C d_L_law_971 ?_
      refine r_lcmp_eq (tgt := 978) C d_L_law_972 d_L_law_973 (by decide) (fun q972 => ?_) (fun q972 => ?_)
      · refine r_goto (tgt := 1137) C d_L_law_978 (by decide) ?_
        exact AW.lvs [(4, _), (3, _), (2, _), (1, _), (0, _)] ⟨rfl, rfl, rfl, rfl, rfl, trivial⟩ (k _ _ _ T.2.1 (Nat.le_refl _) (Nat.le_refl _))
      · exfalso; exact q972 (T.2.2 (by omega)) 
  · exfalso; exact q956 T.1 
set_option maxHeartbeats 1000000 in
theorem law_sent {x : MX} {w : XW} {Q : State → Prop} {b L : Nat} {xs : Nat → Int} (hx : x.l.stackTraces = false) (C : Cx x w room_1 R_L code 7 (some .boolean) []) (S : scrOK x w b L xs) {i : Int} {h : AH} {cells slots : Nat} (hi : 0 ≤ i ∧ i + 3 < (L : Int)) (hc : cells + 1 ≤ 601024 ∧ slots + 8 ≤ 7293034) (R : RL h) (k : ∀ (h2 : AH) (c2 s2 : Nat), RL h2 → c2 ≤ cells + 1 → s2 ≤ slots + 8 → AW x w 7 false c2 s2 Q 1137 [(4, vI i), (3, vO 70 0), (2, vO 40 0), (1, vO 1 0), (0, vX b)] [] h2) : AW x w 7 false cells slots Q 981 [(4, vI i), (3, vO 70 0), (2, vO 40 0), (1, vO 1 0), (0, vX b)] [] h := by
  refine r_aload_n (i0 := 1) C d_L_law_981 rfl rfl ?_
  refine r_aload_nX (i0 := 0) C d_L_law_982 rfl rfl ?_
  refine r_iload C d_L_law_983 rfl ?_
  refine r_iconst C d_L_law_985 (by decide) ?_
  refine r_iadd C d_L_law_986 (by have := S.2.2.2.2; omega) ?_
  refine r_sload C S d_L_law_987 (by omega) ?_
  refine r_aload_n (i0 := 3) C d_L_law_988 rfl rfl ?_
  refine r_callSL C cl_L_149 st_L_sent (c_L_sent hx (a := xs (i + 1).toNat) R.1.2.2.2.2.1) rfl rfl d_L_law_989 ⟨by decide, by decide, hc.1, hc.2⟩ (by decide) (fun k1 h1 q1 => ?_)
  have X := RX_of R (fr_sent q1)
  refine r_istore C d_L_law_992 (by decide) ?_
  refine r_aload_n (i0 := 2) C d_L_law_994 rfl rfl ?_
  refine r_aload_nX (i0 := 0) C d_L_law_995 rfl rfl ?_
  refine r_iload C d_L_law_996 rfl ?_
  refine r_iconst C d_L_law_998 (by decide) ?_
  refine r_iadd C d_L_law_999 (by have := S.2.2.2.2; omega) ?_
  refine r_sload C S d_L_law_1000 (by omega) ?_
  refine r_callVR C cl_L_151 im_R_sent rfl rfl (c_R_sent hx (a := xs (i + 1).toNat) X.1.2.2.2.2.1) rfl rfl d_L_law_1001 (by decide) ⟨hc.1, hc.2⟩ (by decide) (fun v2 h2 q2 => ?_)
  obtain ⟨k2, rfl⟩ := q2.int
  have T := tx_sent R q1 q2
  refine r_istore C d_L_law_1004 (by decide) ?_
  refine r_aload_n (i0 := 2) C d_L_law_1006 rfl rfl ?_
  refine r_callVp C cl_L_91 im_R_thrown rfl rfl (c_R_thrown hx) rfl rfl d_L_law_1007 ⟨by decide, by decide, hc.1, hc.2⟩ (Nat.le_of_ble_eq_true rfl) ?_
  refine r_iload C d_L_law_1010 rfl ?_
  refine r_icmp_eq (tgt := 1017) C d_L_law_1012 (by decide) (fun q1012 => ?_) (fun q1012 => ?_)
  · refine r_iload C d_L_law_1017 rfl ?_
    refine r_if_ne (tgt := 1034) C d_L_law_1019 (by decide) (fun q1019 => ?_) (fun q1019 => ?_)
    · refine r_goto (tgt := 1137) C d_L_law_1034 (by decide) ?_
      exact AW.lvs [(4, _), (3, _), (2, _), (1, _), (0, _)] ⟨rfl, rfl, rfl, rfl, rfl, trivial⟩ (k _ _ _ T.2.1 (Nat.le_refl _) (Nat.le_refl _))
    · refine r_aload_n (i0 := 3) C d_L_law_1022 rfl rfl ?_
      refine r_iconst C d_L_law_1023 (by decide) ?_
      refine r_laload (ln := 1) C d_L_law_1024 rfl (fun _ => rfl) rfl (by omega) ?_
      refine r_iload C d_L_law_1025 rfl ?_
      refine r_i2l C d_L_law_1027 ?_
      refine r_lcmp_eq (tgt := 1034) C d_L_law_1028 d_L_law_1029 (by decide) (fun q1028 => ?_) (fun q1028 => ?_)
      · refine r_goto (tgt := 1137) C d_L_law_1034 (by decide) ?_
        exact AW.lvs [(4, _), (3, _), (2, _), (1, _), (0, _)] ⟨rfl, rfl, rfl, rfl, rfl, trivial⟩ (k _ _ _ T.2.1 (Nat.le_refl _) (Nat.le_refl _))
      · exfalso; exact q1028 (T.2.2 (by omega)) 
  · exfalso; exact q1012 T.1 
set_option maxHeartbeats 1000000 in
theorem law_closeYear {x : MX} {w : XW} {Q : State → Prop} {b L : Nat} {xs : Nat → Int} (hx : x.l.stackTraces = false) (C : Cx x w room_1 R_L code 7 (some .boolean) []) (S : scrOK x w b L xs) {i : Int} {h : AH} {cells slots : Nat} (hi : 0 ≤ i ∧ i + 3 < (L : Int)) (hc : cells + 1 ≤ 601024 ∧ slots + 8 ≤ 7293034) (R : RL h) (k : ∀ (h2 : AH) (c2 s2 : Nat), RL h2 → c2 ≤ cells + 1 → s2 ≤ slots + 8 → AW x w 7 false c2 s2 Q 1137 [(4, vI i), (3, vO 70 0), (2, vO 40 0), (1, vO 1 0), (0, vX b)] [] h2) : AW x w 7 false cells slots Q 1037 [(4, vI i), (3, vO 70 0), (2, vO 40 0), (1, vO 1 0), (0, vX b)] [] h := by
  refine r_aload_n (i0 := 1) C d_L_law_1037 rfl rfl ?_
  refine r_aload_n (i0 := 3) C d_L_law_1038 rfl rfl ?_
  refine r_callSL C cl_L_152 st_L_closeYear (c_L_closeYear hx  R.1.1 R.1.2.1 R.pok R.fu.1 R.fu.2.1 R.fu.2.2) rfl rfl d_L_law_1039 ⟨by decide, by decide, hc.1, hc.2⟩ (by decide) (fun k1 h1 q1 => ?_)
  have X := RX_of R (fr_closeYear q1)
  refine r_istore C d_L_law_1042 (by decide) ?_
  refine r_aload_n (i0 := 2) C d_L_law_1044 rfl rfl ?_
  refine r_callVR C cl_L_154 im_R_closeYear rfl rfl (c_R_closeYear hx  X.1.1 X.1.2.1 X.2.1 X.1.2.2.2.2.2.2.2.1 X.1.2.2.2.2.2.2.2.2.1 X.1.2.2.2.2.2.2.2.2.2.1 X.1.eb.1 (fun f hf => ⟨(X.1.td hf).1, (X.1.tm hf).2⟩)) rfl rfl d_L_law_1045 (by decide) ⟨hc.1, hc.2⟩ (by decide) (fun v2 h2 q2 => ?_)
  obtain ⟨k2, rfl⟩ := q2.int
  have T := tx_closeYear R q1 q2
  refine r_istore C d_L_law_1048 (by decide) ?_
  refine r_aload_n (i0 := 2) C d_L_law_1050 rfl rfl ?_
  refine r_callVp C cl_L_91 im_R_thrown rfl rfl (c_R_thrown hx) rfl rfl d_L_law_1051 ⟨by decide, by decide, hc.1, hc.2⟩ (Nat.le_of_ble_eq_true rfl) ?_
  refine r_iload C d_L_law_1054 rfl ?_
  refine r_icmp_eq (tgt := 1061) C d_L_law_1056 (by decide) (fun q1056 => ?_) (fun q1056 => ?_)
  · refine r_iload C d_L_law_1061 rfl ?_
    refine r_if_ne (tgt := 1078) C d_L_law_1063 (by decide) (fun q1063 => ?_) (fun q1063 => ?_)
    · refine r_goto (tgt := 1137) C d_L_law_1078 (by decide) ?_
      exact AW.lvs [(4, _), (3, _), (2, _), (1, _), (0, _)] ⟨rfl, rfl, rfl, rfl, rfl, trivial⟩ (k _ _ _ T.2.1 (Nat.le_refl _) (Nat.le_refl _))
    · refine r_aload_n (i0 := 3) C d_L_law_1066 rfl rfl ?_
      refine r_iconst C d_L_law_1067 (by decide) ?_
      refine r_laload (ln := 1) C d_L_law_1068 rfl (fun _ => rfl) rfl (by omega) ?_
      refine r_iload C d_L_law_1069 rfl ?_
      refine r_i2l C d_L_law_1071 ?_
      refine r_lcmp_eq (tgt := 1078) C d_L_law_1072 d_L_law_1073 (by decide) (fun q1072 => ?_) (fun q1072 => ?_)
      · refine r_goto (tgt := 1137) C d_L_law_1078 (by decide) ?_
        exact AW.lvs [(4, _), (3, _), (2, _), (1, _), (0, _)] ⟨rfl, rfl, rfl, rfl, rfl, trivial⟩ (k _ _ _ T.2.1 (Nat.le_refl _) (Nat.le_refl _))
      · exfalso; exact q1072 (T.2.2 (by omega)) 
  · exfalso; exact q1056 T.1 
set_option maxHeartbeats 1000000 in
theorem law_known {x : MX} {w : XW} {Q : State → Prop} {b L : Nat} {xs : Nat → Int} (hx : x.l.stackTraces = false) (C : Cx x w room_1 R_L code 7 (some .boolean) []) (S : scrOK x w b L xs) {i : Int} {h : AH} {cells slots : Nat} (hi : 0 ≤ i ∧ i + 3 < (L : Int)) (hc : cells + 1 ≤ 601024 ∧ slots + 8 ≤ 7293034) (R : RL h) (k : ∀ (h2 : AH) (c2 s2 : Nat), RL h2 → c2 ≤ cells + 1 → s2 ≤ slots + 8 → AW x w 7 false c2 s2 Q 1137 [(4, vI i), (3, vO 70 0), (2, vO 40 0), (1, vO 1 0), (0, vX b)] [] h2) : AW x w 7 false cells slots Q 1081 [(4, vI i), (3, vO 70 0), (2, vO 40 0), (1, vO 1 0), (0, vX b)] [] h := by
  refine r_aload_n (i0 := 1) C d_L_law_1081 rfl rfl ?_
  refine r_aload_nX (i0 := 0) C d_L_law_1082 rfl rfl ?_
  refine r_iload C d_L_law_1083 rfl ?_
  refine r_iconst C d_L_law_1085 (by decide) ?_
  refine r_iadd C d_L_law_1086 (by have := S.2.2.2.2; omega) ?_
  refine r_sload C S d_L_law_1087 (by omega) ?_
  refine r_aload_n (i0 := 3) C d_L_law_1088 rfl rfl ?_
  refine r_callSL C cl_L_155 st_L_known (c_L_known hx (a := xs (i + 1).toNat) R.1.1) rfl rfl d_L_law_1089 ⟨by decide, by decide, hc.1, hc.2⟩ (by decide) (fun k1 h1 q1 => ?_)
  have X := RX_of R (fr_known q1)
  refine r_istore C d_L_law_1092 (by decide) ?_
  refine r_aload_n (i0 := 2) C d_L_law_1094 rfl rfl ?_
  refine r_aload_nX (i0 := 0) C d_L_law_1095 rfl rfl ?_
  refine r_iload C d_L_law_1096 rfl ?_
  refine r_iconst C d_L_law_1098 (by decide) ?_
  refine r_iadd C d_L_law_1099 (by have := S.2.2.2.2; omega) ?_
  refine r_sload C S d_L_law_1100 (by omega) ?_
  refine r_callVR C cl_L_157 im_R_known rfl rfl (c_R_known hx (a := xs (i + 1).toNat) X.1.1) rfl rfl d_L_law_1101 (by decide) ⟨hc.1, hc.2⟩ (by decide) (fun v2 h2 q2 => ?_)
  obtain ⟨k2, rfl⟩ := q2.int
  have T := tx_known R q1 q2
  refine r_istore C d_L_law_1104 (by decide) ?_
  refine r_aload_n (i0 := 2) C d_L_law_1106 rfl rfl ?_
  refine r_callVp C cl_L_91 im_R_thrown rfl rfl (c_R_thrown hx) rfl rfl d_L_law_1107 ⟨by decide, by decide, hc.1, hc.2⟩ (Nat.le_of_ble_eq_true rfl) ?_
  refine r_iload C d_L_law_1110 rfl ?_
  refine r_icmp_eq (tgt := 1117) C d_L_law_1112 (by decide) (fun q1112 => ?_) (fun q1112 => ?_)
  · refine r_iload C d_L_law_1117 rfl ?_
    refine r_if_ne (tgt := 1134) C d_L_law_1119 (by decide) (fun q1119 => ?_) (fun q1119 => ?_)
    · refine r_goto (tgt := 1137) C d_L_law_1134 (by decide) ?_
      exact AW.lvs [(4, _), (3, _), (2, _), (1, _), (0, _)] ⟨rfl, rfl, rfl, rfl, rfl, trivial⟩ (k _ _ _ T.2.1 (Nat.le_refl _) (Nat.le_refl _))
    · refine r_aload_n (i0 := 3) C d_L_law_1122 rfl rfl ?_
      refine r_iconst C d_L_law_1123 (by decide) ?_
      refine r_laload (ln := 1) C d_L_law_1124 rfl (fun _ => rfl) rfl (by omega) ?_
      refine r_iload C d_L_law_1125 rfl ?_
      refine r_i2l C d_L_law_1127 ?_
      refine r_lcmp_eq (tgt := 1134) C d_L_law_1128 d_L_law_1129 (by decide) (fun q1128 => ?_) (fun q1128 => ?_)
      · refine r_goto (tgt := 1137) C d_L_law_1134 (by decide) ?_
        exact AW.lvs [(4, _), (3, _), (2, _), (1, _), (0, _)] ⟨rfl, rfl, rfl, rfl, rfl, trivial⟩ (k _ _ _ T.2.1 (Nat.le_refl _) (Nat.le_refl _))
      · exfalso; exact q1128 (T.2.2 (by omega)) 
  · exfalso; exact q1112 T.1 
set_option maxHeartbeats 1000000 in
theorem law_bill {x : MX} {w : XW} {Q : State → Prop} {b L : Nat} {xs : Nat → Int} (hx : x.l.stackTraces = false) (C : Cx x w room_1 R_L code 7 (some .boolean) []) (S : scrOK x w b L xs) {i : Int} {h : AH} {cells slots : Nat} (hi : 0 ≤ i ∧ i + 3 < (L : Int)) (hc : cells + 1 ≤ 601024 ∧ slots + 8 ≤ 7293034) (R : RL h) (k : ∀ (h2 : AH) (c2 s2 : Nat), RL h2 → c2 ≤ cells + 1 → s2 ≤ slots + 8 → AW x w 7 false c2 s2 Q 1137 [(4, vI i), (3, vO 70 0), (2, vO 40 0), (1, vO 1 0), (0, vX b)] [] h2) : AW x w 7 false cells slots Q 688 [(4, vI i), (3, vO 70 0), (2, vO 40 0), (1, vO 1 0), (0, vX b)] [] h := by
  refine r_aload_n (i0 := 1) C d_L_law_688 rfl rfl ?_
  refine r_callVw C cl_L_128 im_H_bill rfl rfl (c_H_bill hx R.1) rfl rfl d_L_law_689 (by decide) ⟨Nat.le_trans (Nat.le_succ _) hc.1, Nat.le_trans (Nat.le_add_right _ 8) hc.2⟩ (Nat.le_of_ble_eq_true rfl) (fun h689 p689 => ?_)
  refine r_aload_n (i0 := 2) C d_L_law_692 rfl rfl ?_
  refine r_callVw C cl_L_131 im_R_bill rfl rfl (c_R_bill hx (bill_IR R p689)) rfl rfl d_L_law_693 (by decide) ⟨Nat.le_trans (Nat.le_succ _) hc.1, Nat.le_trans (Nat.le_add_right _ 8) hc.2⟩ (Nat.le_of_ble_eq_true rfl) (fun h693 p693 => ?_)
  have T := s_bill R p689 p693
  refine r_icmp_eq (tgt := 1137) C d_L_law_696 (by decide) (fun q696 => ?_) (fun q696 => ?_)
  · exact AW.lvs [(4, _), (3, _), (2, _), (1, _), (0, _)] ⟨rfl, rfl, rfl, rfl, rfl, trivial⟩ (k _ _ _ T.2 (by omega) (by omega))
  · exfalso; exact q696 T.1.symm 

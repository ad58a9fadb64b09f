/-! methods that throw NoSuchElementException -/
def jXC (d : jD) (A : Nat → Prop) (px : va_W → Prop) : String → State → State → Prop := vx_X px (fun E u t => E = nseN ∧ jB d A u t) A
def jTi (Ef : jE) (d : jD) (l : Launch) (y : MethodName) (wy : List Cond) (rm : Room) (mc ms : Nat) (av : List Value) (ws : va_W) (post : Int32 → va_W → Prop) (px : va_W → Prop) : Prop :=
  ∀ sz : Nat, vx_Met l y wy rm (va_Pc av (jPr Ef d ws sz)) (va_Qi post (jB d (va_A ws sz)) (va_A ws sz)) (jXC d (va_A ws sz) px) mc ms (va_A ws sz)
def jTl (Ef : jE) (d : jD) (l : Launch) (y : MethodName) (wy : List Cond) (rm : Room) (mc ms : Nat) (av : List Value) (ws : va_W) (post : Int64 → va_W → Prop) (px : va_W → Prop) : Prop :=
  ∀ sz : Nat, vx_Met l y wy rm (va_Pc av (jPr Ef d ws sz)) (va_Ql post (jB d (va_A ws sz)) (va_A ws sz)) (jXC d (va_A ws sz) px) mc ms (va_A ws sz)
def jNoH (X : jX) : Prop :=
  match X with
  | (_, _, _, _, _, _, _, _, c, _) => ∀ x ∈ c.exceptionTable.toList, False
def jTab (X : jX) (hh : List (Nat × Nat × Nat × Nat)) : Prop :=
  match X with
  | (_, _, _, _, _, _, _, _, c, _) => c.exceptionTable.toList = tableOf hh
def jRi (X : jX) (d : jD) (A : Nat → Prop) (mc ms : Nat) (post : Int32 → va_W → Prop) (px : va_W → Prop) : Prop :=
  match X with
  | (p, e, R, s, m, args, below, meth, c, Q) => Q = vx_MQ below (va_Qi post (jB d A) A) (jXC d A px) args s mc ms A
def jRl (X : jX) (d : jD) (A : Nat → Prop) (mc ms : Nat) (post : Int64 → va_W → Prop) (px : va_W → Prop) : Prop :=
  match X with
  | (p, e, R, s, m, args, below, meth, c, Q) => Q = vx_MQ below (va_Ql post (jB d A) A) (jXC d A px) args s mc ms A
def jRx (X : jX) (d : jD) (A : Nat → Prop) (mc ms : Nat) (px : va_W → Prop) : Prop :=
  match X with
  | (p, e, R, s, m, args, below, meth, c, Q) => ∃ Qc, Q = vx_MQ below Qc (jXC d A px) args s mc ms A
section JTIN
variable {Ef : jE} {d : jD} {l : Launch} {y : MethodName} {wy ws' : List Cond} {rm : Room} {mc ms maxL : Nat} {av : List Value} {ws : va_W} {cc : ByteArray} {ret : Option FieldType}

theorem jTi.mk {post : Int32 → va_W → Prop} {px : va_W → Prop} (hk : jKp Ef) (hy : plainName y.cls = true) (hw : wy = Cond.code y cc maxL ret :: ws') (hlen : (lg_sl av).length ≤ maxL) (body : ∀ (X : jX) (A : Nat → Prop), jC Ef X l d A cc maxL wy y.cls rm ret → jNoH X → jRi X d A mc ms post px → jJ X l d A maxL 0 0 ws (lv_args 0 av) 0 []) : jTi Ef d l y wy rm mc ms av ws post px := by
  intro sz
  refine vx_ofW (cc := cc) (maxL := maxL) (ret := ret) hy hw ?_
  intro p e s m args below meth c s₁ B hml hnh hv
  obtain ⟨rfl, hsz, hP, hK, hD0, hE⟩ := hv
  subst hsz
  have hl := lv_entry av (n := maxL) hlen
  rw [lg_entry_eq]
  generalize (lg_sl av ++ List.replicate (maxL - (lg_sl av).length) Slot.unset).toArray = ls at hl ⊢
  exact body (p, e, rm, s, m, av.toArray, below, meth, c, _) (va_A ws s.heap.size) ⟨⟨B.exec, B.bytes, hml, findClass_of_methodNamed B.named, atoms_spec (ws := wy) B.pre⟩, hK, fun q h => Or.inr h, rfl, B.returns, B.notSynchronized, hE, hk⟩ hnh rfl ls s.heap [] hl hP hD0.self va_S.rf
theorem jTl.mk {post : Int64 → va_W → Prop} {px : va_W → Prop} (hk : jKp Ef) (hy : plainName y.cls = true) (hw : wy = Cond.code y cc maxL ret :: ws') (hlen : (lg_sl av).length ≤ maxL) (body : ∀ (X : jX) (A : Nat → Prop), jC Ef X l d A cc maxL wy y.cls rm ret → jNoH X → jRl X d A mc ms post px → jJ X l d A maxL 0 0 ws (lv_args 0 av) 0 []) : jTl Ef d l y wy rm mc ms av ws post px := by
  intro sz
  refine vx_ofW (cc := cc) (maxL := maxL) (ret := ret) hy hw ?_
  intro p e s m args below meth c s₁ B hml hnh hv
  obtain ⟨rfl, hsz, hP, hK, hD0, hE⟩ := hv
  subst hsz
  have hl := lv_entry av (n := maxL) hlen
  rw [lg_entry_eq]
  generalize (lg_sl av ++ List.replicate (maxL - (lg_sl av).length) Slot.unset).toArray = ls at hl ⊢
  exact body (p, e, rm, s, m, av.toArray, below, meth, c, _) (va_A ws s.heap.size) ⟨⟨B.exec, B.bytes, hml, findClass_of_methodNamed B.named, atoms_spec (ws := wy) B.pre⟩, hK, fun q h => Or.inr h, rfl, B.returns, B.notSynchronized, hE, hk⟩ hnh rfl ls s.heap [] hl hP hD0.self va_S.rf
/-- a method with a table of its own, that throws nothing -/
theorem jMi.mkH {hh : List (Nat × Nat × Nat × Nat)} {post : Int32 → va_W → Prop} (hk : jKp Ef) (hy : plainName y.cls = true) (hw : wy = Cond.codeWith y cc maxL ret hh :: ws') (hlen : (lg_sl av).length ≤ maxL) (body : ∀ (X : jX) (A : Nat → Prop), jC Ef X l d A cc maxL wy y.cls rm ret → jTab X hh → jQi X d A mc ms post → jJ X l d A maxL 0 0 ws (lv_args 0 av) 0 []) : jMi Ef d l y wy rm mc ms av ws post := by
  intro sz
  refine va_MetW (cc := cc) (maxL := maxL) (ret := ret) hy hw ?_
  intro p e s m args below meth c s₁ B hml hv
  have ht : c.exceptionTable.toList = tableOf hh := vx_table (x := y) B (atoms_spec (ws := wy) B.pre _ (by rw [hw]; exact List.mem_cons_self))
  obtain ⟨rfl, hsz, hP, hK, hD0, hE⟩ := hv
  subst hsz
  have hl := lv_entry av (n := maxL) hlen
  rw [lg_entry_eq]
  generalize (lg_sl av ++ List.replicate (maxL - (lg_sl av).length) Slot.unset).toArray = ls at hl ⊢
  exact body (p, e, rm, s, m, av.toArray, below, meth, c, _) (va_A ws s.heap.size) ⟨⟨B.exec, B.bytes, hml, findClass_of_methodNamed B.named, atoms_spec (ws := wy) B.pre⟩, hK, fun q h => Or.inr h, rfl, B.returns, B.notSynchronized, hE, hk⟩ ht rfl ls s.heap [] hl hP hD0.self va_S.rf
end JTIN
section JTROW
variable {X : jX} {l : Launch} {d : jD} {A : Nat → Prop} {cc bytes : ByteArray} {nL cells slots maxL : Nat} {Ts wy w' : List Cond} {own : String} {rm rmc : Room} {ret ret' : Option FieldType} {ws : va_W} {lv : List (Nat × Value)} {pc : Nat} {st st0 : List Value} {y : MethodName} {mc ms idx : Nat} {As : List Value} {ad adK adV : Nat → Nat} {al : Nat} {px : va_W → Prop}
theorem jRi.x {post : Int32 → va_W → Prop} (h : jRi X d A mc ms post px) : jRx X d A mc ms px := by
  obtain ⟨p, e, R, s, m, args, below, meth, c, Q⟩ := X
  exact ⟨_, h⟩
theorem jRl.x {post : Int64 → va_W → Prop} (h : jRl X d A mc ms post px) : jRx X d A mc ms px := by
  obtain ⟨p, e, R, s, m, args, below, meth, c, Q⟩ := X
  exact ⟨_, h⟩
theorem j_iretT {Ef : jE} {v : Int32} {post : Int32 → va_W → Prop} (C : jC Ef X l d A cc nL Ts own rm (some .int)) (hQ : jRi X d A mc ms post px) (h1 : cells ≤ mc) (h2 : slots ≤ ms) (hdg : decode cc pc = .ok (.ireturn, 1)) (hp : post v ws) : jJ X l d A nL cells slots ws lv pc [.int v] := by
  refine j_widen h1 h2 ?_
  obtain ⟨p, e, R, s, m, args, below, meth, c, Q⟩ := X
  intro ls H locs hl hP hD hS
  have hq : Q = _ := hQ
  subst hq
  exact vx_ret (W.iret C.1.1 C.1.2.1 C.2.2.2.2.1 (fun t ht hW => ⟨⟨v, ws, rfl, hp, by rw [ht]; exact hP, va_K.moved hW.alike C.2.1, hD⟩, hS.F ht⟩) hS.2.2 hdg C.2.2.2.2.2.1)
theorem j_lretT {Ef : jE} {v : Int64} {post : Int64 → va_W → Prop} (C : jC Ef X l d A cc nL Ts own rm (some .long)) (hQ : jRl X d A mc ms post px) (h1 : cells ≤ mc) (h2 : slots ≤ ms) (hdg : decode cc pc = .ok (.lreturn, 1)) (hp : post v ws) : jJ X l d A nL cells slots ws lv pc [.long v] := by
  refine j_widen h1 h2 ?_
  obtain ⟨p, e, R, s, m, args, below, meth, c, Q⟩ := X
  intro ls H locs hl hP hD hS
  have hq : Q = _ := hQ
  subst hq
  exact vx_ret (W.lret C.1.1 C.1.2.1 C.2.2.2.2.1 (fun t ht hW => ⟨⟨v, ws, rfl, hp, by rw [ht]; exact hP, va_K.moved hW.alike C.2.1, hD⟩, hS.F ht⟩) hS.2.2 hdg C.2.2.2.2.2.1)
abbrev nseL : List Cond := vx_at0 RX9 159 "java/util/NoSuchElementException" ["java/lang/RuntimeException", "java/lang/Exception"]
theorem nse_h2 : ∀ w ∈ nseL.filter (fun w => !goodWord w), w ∈ nseB := by decide +kernel
theorem nse_ob : ∀ w ∈ nseB, w.onTables = true := by
  have h : nseB.all (fun w => w.onTables) = true := by decide +kernel
  exact List.all_eq_true.mp h
theorem nse_ot : ∀ w ∈ Cond.classLink RX9 157 nseN :: Cond.initialized nseN :: nseL, vx_ot w = true := by
  have h : (Cond.classLink RX9 157 nseN :: Cond.initialized nseN :: nseL).all vx_ot = true := by decide +kernel
  exact List.all_eq_true.mp h
theorem j_throw (C : jC (cEf ad adK adV al) X l d A cc nL Ts RX9 rm ret) (hst : l.stackTraces = false) (hN : jNoH X) (hQ : jRx X d A mc ms px) (hk : Cond.classLink RX9 157 nseN ∈ Ts) (hi : Cond.initialized nseN ∈ Ts) (hL : ∀ w ∈ nseL.filter goodWord, w ∈ Ts) (d0 : decode cc pc = .ok (.new 157, 3)) (d3 : decode cc (pc + 3) = .ok (.dup, 1)) (d4 : decode cc (pc + 4) = .ok (.invokespecial 159, 3)) (d7 : decode cc (pc + 7) = .ok (.athrow, 1)) (hR : 5 < rm.frames ∧ (st.map fun v => v.category).sum + 81 ≤ rm.locals ∧ cells + 1 ≤ rm.cells ∧ slots + 6 ≤ rm.slots) (hm : cells + 1 ≤ mc ∧ slots + 6 ≤ ms) (hp : px ws) : jJ X l d A nL cells slots ws lv pc st := by
  obtain ⟨p, e, R, s, m, args, below, meth, c, Q⟩ := X
  intro ls H locs hl hP hD hS
  obtain ⟨Qc, hq⟩ := hQ
  subst hq
  have hr : R = rm := C.2.2.2.1
  subst hr
  have hE : cEf ad adK adV al A s s.heap := C.2.2.2.2.2.2.1
  obtain ⟨-, -, -, -, -, -, -, -, -, -, h11, h12, h13, -⟩ := hE
  refine vx_throw0 (names := ["java/lang/RuntimeException", "java/lang/Exception"]) (A := A) (cc := cc) C.1.1 C.1.2.1 hst C.1.2.2.2.1 (by decide +kernel) (by decide +kernel) (C.1.2.2.2.2 _ hk) (C.1.2.2.2.2 _ hi) (vx_hat (fun w hw => C.1.2.2.2.2 w (hL w hw)) nse_h2 (fun w hw => (h11 w hw).use (nse_ob w hw))) nse_ot h12 h13 hS (hl.1.trans C.1.2.2.1.symm) d0 d3 d4 d7 (fun x hx => (hN x hx).elim) hR.1 hR.2.1 hR.2.2.1 hR.2.2.2 C.2.2.2.2.2.1 (fun t hvm hz hkp => ?_) hS.2.2 hm.1 hm.2
  refine ⟨ws, hp, ⟨rfl, hP.kept (fun k q hq => hkp _ (hP k q hq).lt), va_K.moved hvm C.2.1, hD⟩, Nat.le_trans hS.1 hz, fun q h1 h2 => ?_⟩
  rw [hkp q (Nat.lt_of_lt_of_le h1 hS.1)]
  exact hS.2.1 q h1 h2

theorem j_try_i (C : jC (cEf ad adK adV al) X l d A cc nL Ts own rm ret) (nA : Nat) {post : Int32 → va_W → Prop} {b ci N : Nat} {fs : List Value} {Cn : String} {T : u_T} {x1 x2 x3 x4 : Nat} (q0 : Nat) {wa wc wb : va_W} (hws : ws = wa ++ wc ++ wb) (hM : jTi (cEf ad adK adV al) d l y wy rmc mc ms (.ref b :: As) wc post px) (he : wc[q0]? = some (b, .inr (ci, fs))) (hc : vwCl[ci]? = some (Cn, T, N)) (hG : GoodIn Ts (wsV own idx Cn y wy)) (hw : wy = Cond.code y bytes maxL ret' :: w') (hrc : rmc.cells = mc) (hrs : rmc.slots = ms) (hd : y.cls = Cn ∧ y.cls ≠ "java/lang/invoke/MethodHandle" ∧ y.cls ≠ "java/lang/invoke/VarHandle" ∧ (parseMethodDescriptor y.desc).map (fun d => d.parameters.length) = some nA) (hR : rmc.frames + 1 ≤ rm.frames ∧ 8 + (maxL + 11) + rmc.locals ≤ rm.locals) (hroom : cells + mc ≤ rm.cells ∧ slots + ms ≤ rm.slots) (hnA : As.length = nA) (hst : st0 = As.reverse ++ .ref b :: st) (hcat : (st.map fun v => v.category).sum ≤ 8) (hdg : decode cc pc = .ok (.invokevirtual idx, 3)) (hT : jTab X [(x1, x2, x3, x4)]) (hcov : covers ⟨x1, x2, x3, x4⟩ pc = true) (h0 : x4 ≠ 0) (hlk : Cond.classLink own x4 nseN ∈ Ts) (kx : ∀ (q : Nat) (u : va_W), px u → jJ X l d A nL (cells + mc) (slots + ms) (wa ++ u ++ wb) lv x3 [.ref q]) (kk : ∀ (r : Int32) (u : va_W), post r u → jJ X l d A nL (cells + mc) (slots + ms) (wa ++ u ++ wb) lv (pc + 3) (.int r :: st)) : jJ X l d A nL cells slots ws lv pc st0 := by
  obtain ⟨p, e, R, s, m, args, below, meth, c, Q⟩ := X
  intro ls H locs hl hP hD hS
  have hr : R = rm := C.2.2.2.1
  subst hr
  subst hws
  have hPc := (jap_P hP).2.1
  have hDc := jap_D hD
  have hFc := jfree C.2.2.1 hDc hS
  have hE : cEf ad adK adV al A s s.heap := C.2.2.2.2.2.2.1
  obtain ⟨-, -, -, -, -, -, -, -, -, -, h11, -, -, -⟩ := hE
  refine vx_calli (vx_runV (C := Cn) (As := As) (rest := st) C.1 (hM H.size) (cwV nA C.1.2.2.2.2 hG hw hrc hrs hd hR) ⟨jfb C.2.2.2.2.2.2.2, va_recv C.2.1 hPc (ci := ci) (q0 := q0) hc he, jpr C.2.2.2.2.2.2.2 (A' := A) (ws := wc) C.2.2.1 C.2.1 C.2.2.2.2.2.2.1 hPc hDc hS⟩ rfl hnA hl.1 hst (lv_room hcat) hdg hroom) hS (fun q _ h => hFc q h) hFc (fun q _ h => hFc q h) (fun E ce q9 u t H1 locs1 ht hvm hw2 hB hz1 hk1 hS1 hce hcv hcl => ?_) (fun r u t H1 locs1 ht hvm hw2 hB hz1 hk1 hS1 => ?_)
  · obtain ⟨rfl, hP1, hK1, hD1⟩ := hB
    rw [ht] at hP1
    obtain ⟨hP2, hD2⟩ := jframe hP hD hFc hk1 hP1 hD1
    exact vx_catch C.1.2.2.2.1 [] ⟨x1, x2, x3, x4⟩ [] hT (fun z hz => nomatch hz) hcov h0 (C.1.2.2.2.2 _ hlk) ((h11 (.castable nseN nseN) (List.mem_cons_self ..)).use rfl) hce hcv hcl (kx q9 u hw2 ls H1 locs1 hl hP2 hD2 hS1)
  · obtain ⟨hP1, hK1, hD1⟩ := hB
    rw [ht] at hP1
    obtain ⟨hP2, hD2⟩ := jframe hP hD hFc hk1 hP1 hD1
    exact kk r u hw2 ls H1 locs1 hl hP2 hD2 hS1
theorem j_try_l (C : jC (cEf ad adK adV al) X l d A cc nL Ts own rm ret) (nA : Nat) {post : Int64 → va_W → Prop} {b ci N : Nat} {fs : List Value} {Cn : String} {T : u_T} {x1 x2 x3 x4 : Nat} (q0 : Nat) {wa wc wb : va_W} (hws : ws = wa ++ wc ++ wb) (hM : jTl (cEf ad adK adV al) d l y wy rmc mc ms (.ref b :: As) wc post px) (he : wc[q0]? = some (b, .inr (ci, fs))) (hc : vwCl[ci]? = some (Cn, T, N)) (hG : GoodIn Ts (wsV own idx Cn y wy)) (hw : wy = Cond.code y bytes maxL ret' :: w') (hrc : rmc.cells = mc) (hrs : rmc.slots = ms) (hd : y.cls = Cn ∧ y.cls ≠ "java/lang/invoke/MethodHandle" ∧ y.cls ≠ "java/lang/invoke/VarHandle" ∧ (parseMethodDescriptor y.desc).map (fun d => d.parameters.length) = some nA) (hR : rmc.frames + 1 ≤ rm.frames ∧ 8 + (maxL + 11) + rmc.locals ≤ rm.locals) (hroom : cells + mc ≤ rm.cells ∧ slots + ms ≤ rm.slots) (hnA : As.length = nA) (hst : st0 = As.reverse ++ .ref b :: st) (hcat : (st.map fun v => v.category).sum ≤ 8) (hdg : decode cc pc = .ok (.invokevirtual idx, 3)) (hT : jTab X [(x1, x2, x3, x4)]) (hcov : covers ⟨x1, x2, x3, x4⟩ pc = true) (h0 : x4 ≠ 0) (hlk : Cond.classLink own x4 nseN ∈ Ts) (kx : ∀ (q : Nat) (u : va_W), px u → jJ X l d A nL (cells + mc) (slots + ms) (wa ++ u ++ wb) lv x3 [.ref q]) (kk : ∀ (r : Int64) (u : va_W), post r u → jJ X l d A nL (cells + mc) (slots + ms) (wa ++ u ++ wb) lv (pc + 3) (.long r :: st)) : jJ X l d A nL cells slots ws lv pc st0 := by
  obtain ⟨p, e, R, s, m, args, below, meth, c, Q⟩ := X
  intro ls H locs hl hP hD hS
  have hr : R = rm := C.2.2.2.1
  subst hr
  subst hws
  have hPc := (jap_P hP).2.1
  have hDc := jap_D hD
  have hFc := jfree C.2.2.1 hDc hS
  have hE : cEf ad adK adV al A s s.heap := C.2.2.2.2.2.2.1
  obtain ⟨-, -, -, -, -, -, -, -, -, -, h11, -, -, -⟩ := hE
  refine vx_calll (vx_runV (C := Cn) (As := As) (rest := st) C.1 (hM H.size) (cwV nA C.1.2.2.2.2 hG hw hrc hrs hd hR) ⟨jfb C.2.2.2.2.2.2.2, va_recv C.2.1 hPc (ci := ci) (q0 := q0) hc he, jpr C.2.2.2.2.2.2.2 (A' := A) (ws := wc) C.2.2.1 C.2.1 C.2.2.2.2.2.2.1 hPc hDc hS⟩ rfl hnA hl.1 hst (lv_room hcat) hdg hroom) hS (fun q _ h => hFc q h) hFc (fun q _ h => hFc q h) (fun E ce q9 u t H1 locs1 ht hvm hw2 hB hz1 hk1 hS1 hce hcv hcl => ?_) (fun r u t H1 locs1 ht hvm hw2 hB hz1 hk1 hS1 => ?_)
  · obtain ⟨rfl, hP1, hK1, hD1⟩ := hB
    rw [ht] at hP1
    obtain ⟨hP2, hD2⟩ := jframe hP hD hFc hk1 hP1 hD1
    exact vx_catch C.1.2.2.2.1 [] ⟨x1, x2, x3, x4⟩ [] hT (fun z hz => nomatch hz) hcov h0 (C.1.2.2.2.2 _ hlk) ((h11 (.castable nseN nseN) (List.mem_cons_self ..)).use rfl) hce hcv hcl (kx q9 u hw2 ls H1 locs1 hl hP2 hD2 hS1)
  · obtain ⟨hP1, hK1, hD1⟩ := hB
    rw [ht] at hP1
    obtain ⟨hP2, hD2⟩ := jframe hP hD hFc hk1 hP1 hD1
    exact kk r u hw2 ls H1 locs1 hl hP2 hD2 hS1
end JTROW

abbrev zKept (n : Nat → Nat) (c : Nat → Nat → Nat → Int32) (f b : Nat) : Prop := ¬ (100 : Int64) * (cWorth c b (n 0) + c 19 f 0).toInt64 < (c 19 f 1).toInt64 * (c 19 f 3).toInt64
abbrev okP (n : Nat → Nat) (x y : Int32) : Prop := kB n x ∧ 0 ≤ y ∧ y ≤ 4
def zPurse (n : Nat → Nat) (c : Nat → Nat → Nat → Int32) (x y : Int32) : Int32 := if y = 0 then cPts c (tn x) else if y = 1 then cCost c (tn x) (n 0) else if y = 2 then (if kF n x then c 19 (tn x - 24) 3 else -1) else if y = 3 then (if kF n x then bI (zKept n c (tn x - 24) (tn x)) else -1) else cHeldS c (tn x) (n 0)
abbrev okOc (n : Nat → Nat) (c : Nat → Nat → Nat → Int32) (p x r k : Int32) : Prop := kP n p ∧ kW n x ∧ (0 ≤ r ∧ r ≤ c 0 0 9) ∧ (0 ≤ k ∧ k ≤ 1)
def zOwned (n : Nat → Nat) (c : Nat → Nat → Nat → Int32) (p x r k : Int32) : Int64 := if k = 0 then (zPart c (tn p) (tn x) (tn r) (n 2)).1 else (zPart c (tn p) (tn x) (tn r) (n 2)).2

set_option maxHeartbeats 4000000 in
set_option maxRecDepth 100000 in
theorem cc_X9_isKept (l : Launch) (d : jD) (ad adK adV : Nat → Nat) (al : Nat) (a : Nat → Nat → Nat) (n : Nat → Nat) (op : Option Nat) (c : Nat → Nat → Nat → Int32) (hn : nOK n) (f b : Nat) (hf : f < n 2) (hb : b < 28) : jMi (cEf ad adK adV al) d l yX9_isKept wsX9_isKept ({ frames := 2, cells := 0, slots := 0, locals := 45 } : Room) 0 0 [.ref (a 0 0), .ref (a 19 f), .int (nI b)] (cW a d n op ad c) (fun r u => r = bI (zKept n c f b) ∧ u = cW a d n op ad c) := by
  refine jMi.mk (cEf_k ad adK adV al) (by decide) rfl (Nat.le_of_ble_eq_true rfl) (fun X A C hQ => ?_)
  have hinX3 : ∀ w ∈ u_ws RX3 TX3 4, w ∈ wsX9_isKept := fun w h => List.mem_cons_of_mem _ (List.mem_append_left _ (List.mem_append_left _ (List.mem_append_left _ (List.mem_append_right _ h))))
  refine j_lvq (lv2 := [(0, .ref (a 0 0)), (1, .ref (a 19 f)), (2, .int (nI b))]) rfl ?_
  refine j_ldc2 C (100) (by decide +kernel) dX9_isKept_0 ?_
  refine j_aload_n C 0 dX9_isKept_3 rfl rfl ?_
  refine j_iload_n C 2 dX9_isKept_4 rfl rfl ?_
  refine j_callV_i C 1 0 (cc_X9_worthHeldBy l d ad adK adV al a n op c hn b hb) cG_0 rfl gX9_isKept_X9_worthHeldBy rfl rfl rfl (by decide +kernel) ⟨(Nat.le_of_ble_eq_true rfl), (Nat.le_of_ble_eq_true rfl)⟩ ⟨(Nat.le_of_ble_eq_true rfl), (Nat.le_of_ble_eq_true rfl)⟩ rfl rfl (Nat.le_of_ble_eq_true rfl) dX9_isKept_5 (fun r5 u5 h5 => ?_)
  obtain ⟨rfl, rfl⟩ := h5
  refine j_aload_n C 1 dX9_isKept_8 rfl rfl ?_
  refine j_getS (ref := "CouponSale$Fund") C hinX3 (13 + (n 0 + (n 0 + (n 0 + (n 0 + (n 0 + (n 1 + f))))))) 0 (cG_19 hf) rfl (by decide) (by decide +kernel) (by decide +kernel) rfl dX9_isKept_9 ?_
  refine j_iadd C dX9_isKept_12 ?_
  refine j_i2l C dX9_isKept_13 ?_
  refine j_lmul C dX9_isKept_14 ?_
  refine j_lstore_n C [(0, .ref (a 0 0)), (1, .ref (a 19 f)), (2, .int (nI b)), (3, .long ((100) * (((cWorth c b (n 0)) + (c 19 f 0)).toInt64)))] [1, 2, 3, 0] dX9_isKept_15 rfl (by decide) rfl ?_
  refine j_lload_n C 3 dX9_isKept_16 rfl rfl ?_
  refine j_aload_n C 1 dX9_isKept_17 rfl rfl ?_
  refine kgN_19_promised C hinX3 hf nst_X9_192 dX9_isKept_18 ?_
  refine j_i2l C dX9_isKept_21 ?_
  refine j_aload_n C 1 dX9_isKept_22 rfl rfl ?_
  refine kgN_19_given C hinX3 hf nst_X9_116 dX9_isKept_23 ?_
  refine j_i2l C dX9_isKept_26 ?_
  refine j_lmul C dX9_isKept_27 ?_
  refine j_lcmp C dX9_isKept_28 ?_
  refine j_if_lt C 36 dX9_isKept_29 (by decide) (fun c29 => ?_) (fun c29 => ?_)
  · refine j_iconst C 0 dX9_isKept_36 (by decide) ?_
    exact j_zret C hQ rfl dX9_isKept_37 (⟨bI_f (fun h => h ((lg_cmp_lt _ _).mp c29)), rfl⟩)
  · refine j_iconst C 1 dX9_isKept_32 (by decide) ?_
    refine j_goto C 37 dX9_isKept_33 (by decide) ?_
    exact j_zret C hQ rfl dX9_isKept_37 (⟨bI_t (fun h => c29 ((lg_cmp_lt _ _).mpr h)), rfl⟩)

set_option maxHeartbeats 4000000 in
set_option maxRecDepth 100000 in
theorem cc_X9_purse (l : Launch) (d : jD) (ad adK adV : Nat → Nat) (al : Nat) (a : Nat → Nat → Nat) (n : Nat → Nat) (op : Option Nat) (c : Nat → Nat → Nat → Int32) (hn : nOK n) (x y : Int32) (hls : l.stackTraces = false) : jTi (cEf ad adK adV al) d l yX9_purse wsX9_purse ({ frames := 6, cells := 1, slots := 6, locals := 81 } : Room) 1 6 [.ref (a 0 0), .int x, .int y] (cW a d n op ad c) (fun r u => okP n x y ∧ r = zPurse n c x y ∧ u = cW a d n op ad c) (fun u => ¬ okP n x y ∧ u = cW a d n op ad c) := by
  refine jTi.mk (cEf_k ad adK adV al) (by decide) rfl (Nat.le_of_ble_eq_true rfl) (fun X A C hN hQ => ?_)
  have hnw : ∀ w ∈ nseL.filter goodWord, w ∈ wsX9_purse := fun w h => List.mem_cons_of_mem _ (List.mem_append_right _ h)
  have hinX3 : ∀ w ∈ u_ws RX3 TX3 4, w ∈ wsX9_purse := fun w h => List.mem_cons_of_mem _ (List.mem_append_left _ (List.mem_append_left _ (List.mem_append_left _ (List.mem_append_left _ (List.mem_append_right _ h)))))
  have hinX4 : ∀ w ∈ u_ws RX4 TX4 2, w ∈ wsX9_purse := fun w h => List.mem_cons_of_mem _ (List.mem_append_left _ (List.mem_append_left _ (List.mem_append_left _ (List.mem_append_right _ h))))
  have hn0 := hn.1
  have hn1 := hn.2.1
  have hn2 := hn.2.2
  refine j_lvq (lv2 := [(0, .ref (a 0 0)), (1, .int x), (2, .int y)]) rfl ?_
  refine j_aload_n C 0 dX9_purse_0 rfl rfl ?_
  refine j_iload_n C 1 dX9_purse_1 rfl rfl ?_
  refine j_callV_q C 1 0 (cc_X9_bidderAt l d ad adK adV al a n op c hn x) cG_0 rfl gX9_purse_X9_bidderAt rfl rfl rfl (by decide +kernel) ⟨(Nat.le_of_ble_eq_true rfl), (Nat.le_of_ble_eq_true rfl)⟩ ⟨(Nat.le_of_ble_eq_true rfl), (Nat.le_of_ble_eq_true rfl)⟩ rfl rfl (Nat.le_of_ble_eq_true rfl) dX9_purse_2 (fun r2 u2 h2 => ?_)
  obtain ⟨rfl, rfl⟩ := h2
  by_cases h2p : kP n x
  · obtain ⟨jb, hjb, rfl⟩ := kP_nI hn h2p
    refine j_st (st2 := [.ref (a 18 jb)]) (congrArg (fun z => va_rf z :: _) (show oB a n (nI jb) = some (a 18 jb) by rw [oB, if_pos h2p, tn_nI (by omega)])) ?_
    refine j_astore_n C [(0, .ref (a 0 0)), (1, .int (nI jb)), (2, .int y), (3, .ref (a 18 jb))] [1, 2, 3, 0] dX9_purse_5 rfl (by decide) rfl ?_
    refine j_aload_n C 3 dX9_purse_6 rfl rfl ?_
    refine j_ifnull C dX9_purse_7 ?_
    refine j_iload_n C 2 dX9_purse_10 rfl rfl ?_
    refine j_iconst C 0 dX9_purse_11 (by decide) ?_
    refine j_iconst C 4 dX9_purse_12 (by decide) ?_
    refine j_callS_i C 3 (cc_X9_isWithin (cEf ad adK adV al) (cEf_k ad adK adV al) l d _ y 0 4) gX9_purse_X9_isWithin rfl rfl rfl (by decide +kernel) ⟨(Nat.le_of_ble_eq_true rfl), (Nat.le_of_ble_eq_true rfl)⟩ ⟨(Nat.le_of_ble_eq_true rfl), (Nat.le_of_ble_eq_true rfl)⟩ rfl rfl (Nat.le_of_ble_eq_true rfl) dX9_purse_13 (fun r13 u13 h13 => ?_)
    obtain ⟨rfl, rfl⟩ := h13
    refine j_if_ne C 27 dX9_purse_16 (by decide) (fun c16 => ?_) (fun c16 => ?_)
    · have hok : okP n (nI jb) y := ⟨(Or.inl h2p), (bI_n0.mp c16).1, (bI_n0.mp c16).2⟩
      refine j_aload_n C 0 dX9_purse_27 rfl rfl ?_
      refine j_iload_n C 1 dX9_purse_28 rfl rfl ?_
      refine j_callV_q C 1 0 (cc_X9_fundAt l d ad adK adV al a n op c hn (nI jb)) cG_0 rfl gX9_purse_X9_fundAt rfl rfl rfl (by decide +kernel) ⟨(Nat.le_of_ble_eq_true rfl), (Nat.le_of_ble_eq_true rfl)⟩ ⟨(Nat.le_of_ble_eq_true rfl), (Nat.le_of_ble_eq_true rfl)⟩ rfl rfl (Nat.le_of_ble_eq_true rfl) dX9_purse_29 (fun r29 u29 h29 => ?_)
      obtain ⟨rfl, rfl⟩ := h29
      have hnf : ¬ kF n (nI jb) := fun h => absurd ((nI_leI (a := 24) (b := jb) (by omega) (by omega)).mp h.1) (by omega)
      refine j_st (st2 := [.null]) (congrArg (fun z => va_rf z :: _) (if_neg hnf)) ?_
      refine j_astoreN C [(0, .ref (a 0 0)), (1, .int (nI jb)), (2, .int y), (3, .ref (a 18 jb)), (4, .null)] [1, 2, 3, 4, 0] dX9_purse_32 (by decide) rfl ?_
      refine j_iload_n C 2 dX9_purse_34 rfl rfl ?_
      rcases sw4 y with h | h | h | h | h
      · subst h
        refine j_tableIn C 64 dX9_purse_35 (by decide) (by decide) rfl (by decide) ?_
        refine j_aload_n C 3 dX9_purse_64 rfl rfl ?_
        refine kg_18_points C hinX4 hjb (by decide +kernel) dX9_purse_65 ?_
        exact j_iretT C hQ (Nat.le_of_ble_eq_true rfl) (Nat.le_of_ble_eq_true rfl) dX9_purse_68 (⟨hok, show _ = cPts c (tn (nI (jb))) from by rw [tn_nI (show jb < 20000 by omega), cPts, if_pos (show jb < 24 by omega)], rfl⟩)
      · subst h
        refine j_tableIn C 69 dX9_purse_35 (by decide) (by decide) rfl (by decide) ?_
        refine j_aload_n C 0 dX9_purse_69 rfl rfl ?_
        refine j_iload_n C 1 dX9_purse_70 rfl rfl ?_
        refine j_callV_i C 1 0 (cc_X9_costOfBids l d ad adK adV al a n op c hn (jb) (by omega)) cG_0 rfl gX9_purse_X9_costOfBids rfl rfl rfl (by decide +kernel) ⟨(Nat.le_of_ble_eq_true rfl), (Nat.le_of_ble_eq_true rfl)⟩ ⟨(Nat.le_of_ble_eq_true rfl), (Nat.le_of_ble_eq_true rfl)⟩ rfl rfl (Nat.le_of_ble_eq_true rfl) dX9_purse_71 (fun r71 u71 h71 => ?_)
        obtain ⟨rfl, rfl⟩ := h71
        exact j_iretT C hQ (Nat.le_of_ble_eq_true rfl) (Nat.le_of_ble_eq_true rfl) dX9_purse_74 (⟨hok, show _ = cCost c (tn (nI (jb))) (n 0) from by rw [tn_nI (show jb < 20000 by omega)], rfl⟩)
      · subst h
        refine j_tableIn C 75 dX9_purse_35 (by decide) (by decide) rfl (by decide) ?_
        refine j_aloadN C 4 dX9_purse_75 rfl ?_
        refine j_ifnonnullN C dX9_purse_77 ?_
        refine j_iconst C (-1) dX9_purse_80 (by decide) ?_
        refine j_goto C 89 dX9_purse_81 (by decide) ?_
        exact j_iretT C hQ (Nat.le_of_ble_eq_true rfl) (Nat.le_of_ble_eq_true rfl) dX9_purse_89 (⟨hok, (if_neg hnf).symm, rfl⟩)
      · subst h
        refine j_tableIn C 90 dX9_purse_35 (by decide) (by decide) rfl (by decide) ?_
        refine j_aloadN C 4 dX9_purse_90 rfl ?_
        refine j_ifnonnullN C dX9_purse_92 ?_
        refine j_iconst C (-1) dX9_purse_95 (by decide) ?_
        refine j_goto C 114 dX9_purse_96 (by decide) ?_
        exact j_iretT C hQ (Nat.le_of_ble_eq_true rfl) (Nat.le_of_ble_eq_true rfl) dX9_purse_114 (⟨hok, (if_neg hnf).symm, rfl⟩)
      · refine j_tableOut C 115 dX9_purse_35 h (by decide) ?_
        refine j_aload_n C 0 dX9_purse_115 rfl rfl ?_
        refine j_iload_n C 1 dX9_purse_116 rfl rfl ?_
        refine j_callV_i C 1 0 (cc_X9_sharesHeldBy l d ad adK adV al a n op c hn (jb) (by omega)) cG_0 rfl gX9_purse_X9_sharesHeldBy rfl rfl rfl (by decide +kernel) ⟨(Nat.le_of_ble_eq_true rfl), (Nat.le_of_ble_eq_true rfl)⟩ ⟨(Nat.le_of_ble_eq_true rfl), (Nat.le_of_ble_eq_true rfl)⟩ rfl rfl (Nat.le_of_ble_eq_true rfl) dX9_purse_117 (fun r117 u117 h117 => ?_)
        obtain ⟨rfl, rfl⟩ := h117
        exact j_iretT C hQ (Nat.le_of_ble_eq_true rfl) (Nat.le_of_ble_eq_true rfl) dX9_purse_120 (⟨hok, by simp only [zPurse, if_neg (show ¬ y = 0 from sw_ne h (by decide) (j := 0) (by decide)), if_neg (show ¬ y = 1 from sw_ne h (by decide) (j := 1) (by decide)), if_neg (show ¬ y = 2 from sw_ne h (by decide) (j := 2) (by decide)), if_neg (show ¬ y = 3 from sw_ne h (by decide) (j := 3) (by decide)), tn_nI (show jb < 20000 by omega)], rfl⟩)
    · exact j_throw C hls hN hQ.x (by decide +kernel) (by decide +kernel) hnw dX9_purse_19 dX9_purse_22 dX9_purse_23 dX9_purse_26 ⟨by decide, by decide, by decide, by decide⟩ ⟨by decide, by decide⟩ ⟨fun h => bI_0.mp c16 h.2, rfl⟩
  · by_cases h2f : kF n x
    · obtain ⟨jb, hjb, rfl⟩ := kF_nI hn h2f
      refine j_st (st2 := [.ref (a 19 jb)]) (congrArg (fun z => va_rf z :: _) (show oB a n (nI (24 + jb)) = some (a 19 jb) by rw [oB, if_neg h2p]; exact oF_j hn hjb)) ?_
      refine j_astore_n C [(0, .ref (a 0 0)), (1, .int (nI (24 + jb))), (2, .int y), (3, .ref (a 19 jb))] [1, 2, 3, 0] dX9_purse_5 rfl (by decide) rfl ?_
      refine j_aload_n C 3 dX9_purse_6 rfl rfl ?_
      refine j_ifnull C dX9_purse_7 ?_
      refine j_iload_n C 2 dX9_purse_10 rfl rfl ?_
      refine j_iconst C 0 dX9_purse_11 (by decide) ?_
      refine j_iconst C 4 dX9_purse_12 (by decide) ?_
      refine j_callS_i C 3 (cc_X9_isWithin (cEf ad adK adV al) (cEf_k ad adK adV al) l d _ y 0 4) gX9_purse_X9_isWithin rfl rfl rfl (by decide +kernel) ⟨(Nat.le_of_ble_eq_true rfl), (Nat.le_of_ble_eq_true rfl)⟩ ⟨(Nat.le_of_ble_eq_true rfl), (Nat.le_of_ble_eq_true rfl)⟩ rfl rfl (Nat.le_of_ble_eq_true rfl) dX9_purse_13 (fun r13 u13 h13 => ?_)
      obtain ⟨rfl, rfl⟩ := h13
      refine j_if_ne C 27 dX9_purse_16 (by decide) (fun c16 => ?_) (fun c16 => ?_)
      · have hok : okP n (nI (24 + jb)) y := ⟨(Or.inr h2f), (bI_n0.mp c16).1, (bI_n0.mp c16).2⟩
        refine j_aload_n C 0 dX9_purse_27 rfl rfl ?_
        refine j_iload_n C 1 dX9_purse_28 rfl rfl ?_
        refine j_callV_q C 1 0 (cc_X9_fundAt l d ad adK adV al a n op c hn (nI (24 + jb))) cG_0 rfl gX9_purse_X9_fundAt rfl rfl rfl (by decide +kernel) ⟨(Nat.le_of_ble_eq_true rfl), (Nat.le_of_ble_eq_true rfl)⟩ ⟨(Nat.le_of_ble_eq_true rfl), (Nat.le_of_ble_eq_true rfl)⟩ rfl rfl (Nat.le_of_ble_eq_true rfl) dX9_purse_29 (fun r29 u29 h29 => ?_)
        obtain ⟨rfl, rfl⟩ := h29
        refine j_st (st2 := [.ref (a 19 jb)]) (congrArg (fun z => va_rf z :: _) (oF_j hn hjb)) ?_
        refine j_astore C [(0, .ref (a 0 0)), (1, .int (nI (24 + jb))), (2, .int y), (3, .ref (a 19 jb)), (4, .ref (a 19 jb))] [1, 2, 3, 4, 0] dX9_purse_32 (by decide) rfl ?_
        refine j_iload_n C 2 dX9_purse_34 rfl rfl ?_
        have hkf : kF n (nI (24 + jb)) := hok.1.resolve_left h2p
        rcases sw4 y with h | h | h | h | h
        · subst h
          refine j_tableIn C 64 dX9_purse_35 (by decide) (by decide) rfl (by decide) ?_
          refine j_aload_n C 3 dX9_purse_64 rfl rfl ?_
          refine kg_19_points C hinX3 hjb (by decide +kernel) dX9_purse_65 ?_
          exact j_iretT C hQ (Nat.le_of_ble_eq_true rfl) (Nat.le_of_ble_eq_true rfl) dX9_purse_68 (⟨hok, show _ = cPts c (tn (nI (24 + jb))) from by rw [tn_nI (show 24 + jb < 20000 by omega), cPts, if_neg (show ¬ 24 + jb < 24 by omega), Nat.add_sub_cancel_left], rfl⟩)
        · subst h
          refine j_tableIn C 69 dX9_purse_35 (by decide) (by decide) rfl (by decide) ?_
          refine j_aload_n C 0 dX9_purse_69 rfl rfl ?_
          refine j_iload_n C 1 dX9_purse_70 rfl rfl ?_
          refine j_callV_i C 1 0 (cc_X9_costOfBids l d ad adK adV al a n op c hn (24 + jb) (by omega)) cG_0 rfl gX9_purse_X9_costOfBids rfl rfl rfl (by decide +kernel) ⟨(Nat.le_of_ble_eq_true rfl), (Nat.le_of_ble_eq_true rfl)⟩ ⟨(Nat.le_of_ble_eq_true rfl), (Nat.le_of_ble_eq_true rfl)⟩ rfl rfl (Nat.le_of_ble_eq_true rfl) dX9_purse_71 (fun r71 u71 h71 => ?_)
          obtain ⟨rfl, rfl⟩ := h71
          exact j_iretT C hQ (Nat.le_of_ble_eq_true rfl) (Nat.le_of_ble_eq_true rfl) dX9_purse_74 (⟨hok, show _ = cCost c (tn (nI (24 + jb))) (n 0) from by rw [tn_nI (show 24 + jb < 20000 by omega)], rfl⟩)
        · subst h
          refine j_tableIn C 75 dX9_purse_35 (by decide) (by decide) rfl (by decide) ?_
          refine j_aload C 4 dX9_purse_75 rfl ?_
          refine j_ifnonnull C 84 dX9_purse_77 (by decide) ?_
          refine j_aload C 4 dX9_purse_84 rfl ?_
          refine kgN_19_given C hinX3 hjb nst_X9_116 dX9_purse_86 ?_
          exact j_iretT C hQ (Nat.le_of_ble_eq_true rfl) (Nat.le_of_ble_eq_true rfl) dX9_purse_89 (⟨hok, (show (if kF n (nI (24 + jb)) then c 19 (tn (nI (24 + jb)) - 24) 3 else -1) = c 19 jb 3 from by rw [if_pos hkf, tn_nI (show 24 + jb < 20000 by omega), Nat.add_sub_cancel_left]).symm, rfl⟩)
        · subst h
          refine j_tableIn C 90 dX9_purse_35 (by decide) (by decide) rfl (by decide) ?_
          refine j_aload C 4 dX9_purse_90 rfl ?_
          refine j_ifnonnull C 99 dX9_purse_92 (by decide) ?_
          refine j_aload_n C 0 dX9_purse_99 rfl rfl ?_
          refine j_aload C 4 dX9_purse_100 rfl ?_
          refine j_iload_n C 1 dX9_purse_102 rfl rfl ?_
          refine j_callV_i C 2 0 (cc_X9_isKept l d ad adK adV al a n op c hn jb (24 + jb) hjb (by omega)) cG_0 rfl gX9_purse_X9_isKept rfl rfl rfl (by decide +kernel) ⟨(Nat.le_of_ble_eq_true rfl), (Nat.le_of_ble_eq_true rfl)⟩ ⟨(Nat.le_of_ble_eq_true rfl), (Nat.le_of_ble_eq_true rfl)⟩ rfl rfl (Nat.le_of_ble_eq_true rfl) dX9_purse_103 (fun r103 u103 h103 => ?_)
          obtain ⟨rfl, rfl⟩ := h103
          refine j_if_eq C 113 dX9_purse_106 (by decide) (fun c106 => ?_) (fun c106 => ?_)
          · refine j_iconst C 0 dX9_purse_113 (by decide) ?_
            exact j_iretT C hQ (Nat.le_of_ble_eq_true rfl) (Nat.le_of_ble_eq_true rfl) dX9_purse_114 (⟨hok, (show (if kF n (nI (24 + jb)) then bI (zKept n c (tn (nI (24 + jb)) - 24) (tn (nI (24 + jb)))) else -1) = _ from by rw [if_pos hkf, tn_nI (show 24 + jb < 20000 by omega), Nat.add_sub_cancel_left]; exact (bI_f (bI_0.mp c106)).symm).symm, rfl⟩)
          · refine j_iconst C 1 dX9_purse_109 (by decide) ?_
            refine j_goto C 114 dX9_purse_110 (by decide) ?_
            exact j_iretT C hQ (Nat.le_of_ble_eq_true rfl) (Nat.le_of_ble_eq_true rfl) dX9_purse_114 (⟨hok, (show (if kF n (nI (24 + jb)) then bI (zKept n c (tn (nI (24 + jb)) - 24) (tn (nI (24 + jb)))) else -1) = _ from by rw [if_pos hkf, tn_nI (show 24 + jb < 20000 by omega), Nat.add_sub_cancel_left]; exact (bI_t (bI_n0.mp c106)).symm).symm, rfl⟩)
        · refine j_tableOut C 115 dX9_purse_35 h (by decide) ?_
          refine j_aload_n C 0 dX9_purse_115 rfl rfl ?_
          refine j_iload_n C 1 dX9_purse_116 rfl rfl ?_
          refine j_callV_i C 1 0 (cc_X9_sharesHeldBy l d ad adK adV al a n op c hn (24 + jb) (by omega)) cG_0 rfl gX9_purse_X9_sharesHeldBy rfl rfl rfl (by decide +kernel) ⟨(Nat.le_of_ble_eq_true rfl), (Nat.le_of_ble_eq_true rfl)⟩ ⟨(Nat.le_of_ble_eq_true rfl), (Nat.le_of_ble_eq_true rfl)⟩ rfl rfl (Nat.le_of_ble_eq_true rfl) dX9_purse_117 (fun r117 u117 h117 => ?_)
          obtain ⟨rfl, rfl⟩ := h117
          exact j_iretT C hQ (Nat.le_of_ble_eq_true rfl) (Nat.le_of_ble_eq_true rfl) dX9_purse_120 (⟨hok, by simp only [zPurse, if_neg (show ¬ y = 0 from sw_ne h (by decide) (j := 0) (by decide)), if_neg (show ¬ y = 1 from sw_ne h (by decide) (j := 1) (by decide)), if_neg (show ¬ y = 2 from sw_ne h (by decide) (j := 2) (by decide)), if_neg (show ¬ y = 3 from sw_ne h (by decide) (j := 3) (by decide)), tn_nI (show 24 + jb < 20000 by omega)], rfl⟩)
      · exact j_throw C hls hN hQ.x (by decide +kernel) (by decide +kernel) hnw dX9_purse_19 dX9_purse_22 dX9_purse_23 dX9_purse_26 ⟨by decide, by decide, by decide, by decide⟩ ⟨by decide, by decide⟩ ⟨fun h => bI_0.mp c16 h.2, rfl⟩
    · refine j_st (st2 := [.null]) (congrArg (fun z => va_rf z :: _) (show oB a n x = none by rw [oB, if_neg h2p]; exact if_neg h2f)) ?_
      refine j_astore_nN C [(0, .ref (a 0 0)), (1, .int x), (2, .int y), (3, .null)] [1, 2, 3, 0] dX9_purse_5 rfl (by decide) rfl ?_
      refine j_aload_nN C 3 dX9_purse_6 rfl rfl ?_
      refine j_ifnullN C 19 dX9_purse_7 (by decide) ?_
      exact j_throw C hls hN hQ.x (by decide +kernel) (by decide +kernel) hnw dX9_purse_19 dX9_purse_22 dX9_purse_23 dX9_purse_26 ⟨by decide, by decide, by decide, by decide⟩ ⟨by decide, by decide⟩ ⟨fun h => (fun h => Or.elim h h2p h2f) h.1, rfl⟩

set_option maxHeartbeats 4000000 in
set_option maxRecDepth 100000 in
theorem cc_X9_owned (l : Launch) (d : jD) (ad adK adV : Nat → Nat) (al : Nat) (a : Nat → Nat → Nat) (n : Nat → Nat) (op : Option Nat) (c : Nat → Nat → Nat → Int32) (hn : nOK n) (hrn : c 0 0 9 < 50) (p x r k : Int32) (hls : l.stackTraces = false) : jTl (cEf ad adK adV al) d l yX9_owned wsX9_owned ({ frames := 6, cells := 1, slots := 6, locals := 103 } : Room) 1 6 [.ref (a 0 0), .int p, .int x, .int r, .int k] (cW a d n op ad c) (fun r1 u => okOc n c p x r k ∧ r1 = zOwned n c p x r k ∧ u = cW a d n op ad c) (fun u => ¬ okOc n c p x r k ∧ u = cW a d n op ad c) := by
  refine jTl.mk (cEf_k ad adK adV al) (by decide) rfl (Nat.le_of_ble_eq_true rfl) (fun X A C hN hQ => ?_)
  have hnw : ∀ w ∈ nseL.filter goodWord, w ∈ wsX9_owned := fun w h => List.mem_cons_of_mem _ (List.mem_append_right _ h)
  have hinX9 : ∀ w ∈ u_ws RX9 TX9 11, w ∈ wsX9_owned := fun w h => List.mem_cons_of_mem _ (List.mem_append_left _ (List.mem_append_left _ (List.mem_append_left _ (List.mem_append_left _ (List.mem_append_right _ h)))))
  have hn0 := hn.1
  have hn1 := hn.2.1
  have hn2 := hn.2.2
  have hinX2 : ∀ w ∈ u_ws RX2 TX2 2, w ∈ wsX9_owned := fun w h => List.mem_cons_of_mem _ (List.mem_append_left _ (List.mem_append_left _ (List.mem_append_left _ (List.mem_append_right _ h))))
  refine j_lvq (lv2 := [(0, .ref (a 0 0)), (1, .int p), (2, .int x), (3, .int r), (4, .int k)]) rfl ?_
  refine j_aload_n C 0 dX9_owned_0 rfl rfl ?_
  refine j_iload_n C 2 dX9_owned_1 rfl rfl ?_
  refine j_callV_q C 1 0 (cc_X9_workAt l d ad adK adV al a n op c hn x) cG_0 rfl gX9_owned_X9_workAt rfl rfl rfl (by decide +kernel) ⟨(Nat.le_of_ble_eq_true rfl), (Nat.le_of_ble_eq_true rfl)⟩ ⟨(Nat.le_of_ble_eq_true rfl), (Nat.le_of_ble_eq_true rfl)⟩ rfl rfl (Nat.le_of_ble_eq_true rfl) dX9_owned_2 (fun r2 u2 h2 => ?_)
  obtain ⟨rfl, rfl⟩ := h2
  by_cases h2k : kW n x
  · obtain ⟨jx, hjx, rfl⟩ := kW_nI hn h2k
    refine j_st (st2 := [.ref (a 13 jx)]) (congrArg (fun z => va_rf z :: _) (oW_j hn hjx)) ?_
    refine j_astore C [(0, .ref (a 0 0)), (1, .int p), (2, .int (nI jx)), (3, .int r), (4, .int k), (5, .ref (a 13 jx))] [1, 2, 3, 4, 5, 0] dX9_owned_5 (by decide) rfl ?_
    refine j_aload_n C 0 dX9_owned_7 rfl rfl ?_
    refine j_iload_n C 1 dX9_owned_8 rfl rfl ?_
    refine j_callV_q C 1 0 (cc_X9_personAt l d ad adK adV al a n op c hn p) cG_0 rfl gX9_owned_X9_personAt rfl rfl rfl (by decide +kernel) ⟨(Nat.le_of_ble_eq_true rfl), (Nat.le_of_ble_eq_true rfl)⟩ ⟨(Nat.le_of_ble_eq_true rfl), (Nat.le_of_ble_eq_true rfl)⟩ rfl rfl (Nat.le_of_ble_eq_true rfl) dX9_owned_9 (fun r9 u9 h9 => ?_)
    obtain ⟨rfl, rfl⟩ := h9
    by_cases h9k : kP n p
    · obtain ⟨jp, hjp, rfl⟩ := kP_nI hn h9k
      refine j_st (st2 := [.ref (a 18 jp)]) (congrArg (fun z => va_rf z :: _) (oP_j hn hjp)) ?_
      refine j_ifnull C dX9_owned_12 ?_
      refine j_aload C 5 dX9_owned_15 rfl ?_
      refine j_ifnull C dX9_owned_17 ?_
      refine j_iload_n C 3 dX9_owned_20 rfl rfl ?_
      refine j_iconst C 0 dX9_owned_21 (by decide) ?_
      refine j_aload_n C 0 dX9_owned_22 rfl rfl ?_
      refine kg_0_roundNow C hinX9 (by decide +kernel) dX9_owned_23 ?_
      refine j_callS_i C 3 (cc_X9_isWithin (cEf ad adK adV al) (cEf_k ad adK adV al) l d _ r 0 (c 0 0 9)) gX9_owned_X9_isWithin rfl rfl rfl (by decide +kernel) ⟨(Nat.le_of_ble_eq_true rfl), (Nat.le_of_ble_eq_true rfl)⟩ ⟨(Nat.le_of_ble_eq_true rfl), (Nat.le_of_ble_eq_true rfl)⟩ rfl rfl (Nat.le_of_ble_eq_true rfl) dX9_owned_26 (fun r26 u26 h26 => ?_)
      obtain ⟨rfl, rfl⟩ := h26
      refine j_if_eq C 42 dX9_owned_29 (by decide) (fun c29 => ?_) (fun c29 => ?_)
      · exact j_throw C hls hN hQ.x (by decide +kernel) (by decide +kernel) hnw dX9_owned_42 dX9_owned_45 dX9_owned_46 dX9_owned_49 ⟨by decide, by decide, by decide, by decide⟩ ⟨by decide, by decide⟩ ⟨fun h => bI_0.mp c29 h.2.2.1, rfl⟩
      · refine j_iload C 4 dX9_owned_32 rfl ?_
        refine j_iconst C 0 dX9_owned_34 (by decide) ?_
        refine j_iconst C 1 dX9_owned_35 (by decide) ?_
        refine j_callS_i C 3 (cc_X9_isWithin (cEf ad adK adV al) (cEf_k ad adK adV al) l d _ k 0 1) gX9_owned_X9_isWithin rfl rfl rfl (by decide +kernel) ⟨(Nat.le_of_ble_eq_true rfl), (Nat.le_of_ble_eq_true rfl)⟩ ⟨(Nat.le_of_ble_eq_true rfl), (Nat.le_of_ble_eq_true rfl)⟩ rfl rfl (Nat.le_of_ble_eq_true rfl) dX9_owned_36 (fun r36 u36 h36 => ?_)
        obtain ⟨rfl, rfl⟩ := h36
        refine j_if_ne C 50 dX9_owned_39 (by decide) (fun c39 => ?_) (fun c39 => ?_)
        · have hr := bI_n0.mp c29
          have hk := bI_n0.mp c39
          have hok : okOc n c (nI jp) (nI jx) r k := ⟨h9k, h2k, hr, hk⟩
          obtain ⟨jr, hjr, rfl⟩ := nI_in2 (n := 50) hr.1 (Int32.lt_of_le_of_lt hr.2 hrn) (by decide)
          refine j_aload_n C 0 dX9_owned_50 rfl rfl ?_
          refine j_iload_n C 1 dX9_owned_51 rfl rfl ?_
          refine j_aload C 5 dX9_owned_52 rfl ?_
          refine j_iload_n C 3 dX9_owned_54 rfl rfl ?_
          refine j_callV_q C 3 0 (cc_X9_partOwned l d ad adK adV al a n op c hn jp jx jr (by omega) hjx (by omega)) cG_0 rfl gX9_owned_X9_partOwned rfl rfl rfl (by decide +kernel) ⟨(Nat.le_of_ble_eq_true rfl), (Nat.le_of_ble_eq_true rfl)⟩ ⟨(Nat.le_of_ble_eq_true rfl), (Nat.le_of_ble_eq_true rfl)⟩ rfl rfl (Nat.le_of_ble_eq_true rfl) dX9_owned_55 (fun r55 u55 h55 => ?_)
          obtain ⟨f, rfl, rfl⟩ := h55
          refine j_st (st2 := [.ref f]) rfl ?_
          refine j_astore C [(0, .ref (a 0 0)), (1, .int (nI jp)), (2, .int (nI jx)), (3, .int (nI jr)), (4, .int k), (5, .ref (a 13 jx)), (6, .ref f)] [1, 2, 3, 4, 5, 6, 0] dX9_owned_58 (by decide) rfl ?_
          refine j_iload C 4 dX9_owned_60 rfl ?_
          refine j_if_ne C 73 dX9_owned_62 (by decide) (fun c62 => ?_) (fun c62 => ?_)
          · refine j_aload C 6 dX9_owned_73 rfl ?_
            refine j_getN C hinX2 (cW a d n op ad c).length 1 fr_get rfl (by decide) nst_X9_181 rfl dX9_owned_75 ?_
            refine j_drop rfl ?_
            exact j_lretT C hQ (Nat.le_of_ble_eq_true rfl) (Nat.le_of_ble_eq_true rfl) dX9_owned_78 (⟨hok, by rw [zOwned, tn_nI (show jp < 20000 by omega), tn_nI (show jx < 20000 by omega), tn_nI (show jr < 20000 by omega), if_neg c62], rfl⟩)
          · refine j_aload C 6 dX9_owned_65 rfl ?_
            refine j_getN C hinX2 (cW a d n op ad c).length 0 fr_get rfl (by decide) nst_X9_175 rfl dX9_owned_67 ?_
            refine j_goto C 78 dX9_owned_70 (by decide) ?_
            refine j_drop rfl ?_
            exact j_lretT C hQ (Nat.le_of_ble_eq_true rfl) (Nat.le_of_ble_eq_true rfl) dX9_owned_78 (⟨hok, by rw [zOwned, tn_nI (show jp < 20000 by omega), tn_nI (show jx < 20000 by omega), tn_nI (show jr < 20000 by omega), if_pos c62], rfl⟩)
        · exact j_throw C hls hN hQ.x (by decide +kernel) (by decide +kernel) hnw dX9_owned_42 dX9_owned_45 dX9_owned_46 dX9_owned_49 ⟨by decide, by decide, by decide, by decide⟩ ⟨by decide, by decide⟩ ⟨fun h => bI_0.mp c39 h.2.2.2, rfl⟩
    · refine j_st (st2 := [.null]) (congrArg (fun z => va_rf z :: _) (if_neg h9k)) ?_
      refine j_ifnullN C 42 dX9_owned_12 (by decide) ?_
      exact j_throw C hls hN hQ.x (by decide +kernel) (by decide +kernel) hnw dX9_owned_42 dX9_owned_45 dX9_owned_46 dX9_owned_49 ⟨by decide, by decide, by decide, by decide⟩ ⟨by decide, by decide⟩ ⟨fun h => h9k h.1, rfl⟩
  · refine j_st (st2 := [.null]) (congrArg (fun z => va_rf z :: _) (if_neg h2k)) ?_
    refine j_astoreN C [(0, .ref (a 0 0)), (1, .int p), (2, .int x), (3, .int r), (4, .int k), (5, .null)] [1, 2, 3, 4, 5, 0] dX9_owned_5 (by decide) rfl ?_
    refine j_aload_n C 0 dX9_owned_7 rfl rfl ?_
    refine j_iload_n C 1 dX9_owned_8 rfl rfl ?_
    refine j_callV_q C 1 0 (cc_X9_personAt l d ad adK adV al a n op c hn p) cG_0 rfl gX9_owned_X9_personAt rfl rfl rfl (by decide +kernel) ⟨(Nat.le_of_ble_eq_true rfl), (Nat.le_of_ble_eq_true rfl)⟩ ⟨(Nat.le_of_ble_eq_true rfl), (Nat.le_of_ble_eq_true rfl)⟩ rfl rfl (Nat.le_of_ble_eq_true rfl) dX9_owned_9 (fun r9 u9 h9 => ?_)
    obtain ⟨rfl, rfl⟩ := h9
    by_cases h9k : kP n p
    · obtain ⟨jp, hjp, rfl⟩ := kP_nI hn h9k
      refine j_st (st2 := [.ref (a 18 jp)]) (congrArg (fun z => va_rf z :: _) (oP_j hn hjp)) ?_
      refine j_ifnull C dX9_owned_12 ?_
      refine j_aloadN C 5 dX9_owned_15 rfl ?_
      refine j_ifnullN C 42 dX9_owned_17 (by decide) ?_
      exact j_throw C hls hN hQ.x (by decide +kernel) (by decide +kernel) hnw dX9_owned_42 dX9_owned_45 dX9_owned_46 dX9_owned_49 ⟨by decide, by decide, by decide, by decide⟩ ⟨by decide, by decide⟩ ⟨fun h => h2k h.2.1, rfl⟩
    · refine j_st (st2 := [.null]) (congrArg (fun z => va_rf z :: _) (if_neg h9k)) ?_
      refine j_ifnullN C 42 dX9_owned_12 (by decide) ?_
      exact j_throw C hls hN hQ.x (by decide +kernel) (by decide +kernel) hnw dX9_owned_42 dX9_owned_45 dX9_owned_46 dX9_owned_49 ⟨by decide, by decide, by decide, by decide⟩ ⟨by decide, by decide⟩ ⟨fun h => h2k h.2.1, rfl⟩

set_option maxRecDepth 20000 in
theorem ggL_purse_X9_purse : GoodIn wsL_purse wsX9_purse := goodIn_ca (goodIn_r _ [6, 7, 8, 9, 10, 11, 12, 5, 13, 14, 15, 16, 17, 18, 19, 20, 21, 22, 23, 24, 25, 26, 27, 28, 29, 30, 31, 32, 33, 34, 35, 36, 37, 38, 39, 40, 41, 42, 43, 44, 45, 46, 47, 48, 49, 50, 51, 52, 53, 54, 55, 56, 57, 58, 59, 60, 61, 62, 63, 64, 65, 66, 67, 68, 69, 70, 71, 72, 73, 74, 75, 76, 77, 78] rfl (by decide +kernel)) (goodIn_sub (fun _ h => List.mem_cons_of_mem _ (List.mem_append_right _ h)) (by decide +kernel))
set_option maxRecDepth 20000 in
theorem gL_purse_X9_purse : GoodIn wsL_purse (wsV RL 7 RX9 yX9_purse wsX9_purse) := goodIn_app (goodIn_of _ (by decide +kernel)) ggL_purse_X9_purse
set_option maxRecDepth 20000 in
theorem ggL_owned_X9_owned : GoodIn wsL_owned wsX9_owned := goodIn_ca (goodIn_r _ [6, 7, 8, 9, 10, 11, 12, 5, 13, 14, 15, 16, 17, 18, 19, 20, 21, 22, 23, 24, 25, 26, 27, 28, 29, 30, 31, 32, 33, 34, 35, 36, 37, 38, 39, 40, 41, 42, 43, 44, 45, 46, 47, 48, 49, 50, 51, 52, 53, 54, 55, 56, 57, 58, 59, 60, 61, 62, 63, 64, 65, 66, 67, 68, 69, 70, 71, 72, 73, 74, 75, 76, 77, 78, 79, 80, 81, 82, 83, 84, 85, 86, 87, 88, 89, 90, 91] rfl (by decide +kernel)) (goodIn_sub (fun _ h => List.mem_cons_of_mem _ (List.mem_append_right _ h)) (by decide +kernel))
set_option maxRecDepth 20000 in
theorem gL_owned_X9_owned : GoodIn wsL_owned (wsV RL 15 RX9 yX9_owned wsX9_owned) := goodIn_app (goodIn_of _ (by decide +kernel)) ggL_owned_X9_owned
abbrev outC (d : jD) (ob : Nat) (g : Nat → Int64) : Nat × va_E := (ob, .inl (d.2 5, 1, .inr (.inl g)))
def zLP (n : Nat → Nat) (c : Nat → Nat → Nat → Int32) (g : Nat → Int64) (x y : Int32) : Int32 × (Nat → Int64) := if okP n x y then (0, vp_updL g 0 (zPurse n c x y).toInt64) else (1, g)
def zLO (n : Nat → Nat) (c : Nat → Nat → Nat → Int32) (g : Nat → Int64) (p x r k : Int32) : Int32 × (Nat → Int64) := if okOc n c p x r k then (0, vp_updL g 0 (zOwned n c p x r k)) else (1, g)
set_option maxHeartbeats 4000000 in
set_option maxRecDepth 100000 in
theorem cl_purse (l : Launch) (d : jD) (ad adK adV : Nat → Nat) (al : Nat) (a : Nat → Nat → Nat) (n : Nat → Nat) (op : Option Nat) (c : Nat → Nat → Nat → Int32) (hn : nOK n) (ob : Nat) (g : Nat → Int64) (x y : Int32) (hls : l.stackTraces = false) : jMi (cEf ad adK adV al) d l yL_purse wsL_purse ({ frames := 7, cells := 1, slots := 6, locals := 105 } : Room) 1 6 [.ref (a 0 0), .int x, .int y, .ref ob] (cW a d n op ad c ++ [outC d ob g]) (fun r u => r = (zLP n c g x y).1 ∧ u = cW a d n op ad c ++ [outC d ob (zLP n c g x y).2]) := by
  refine jMi.mkH (cEf_k ad adK adV al) (by decide) rfl (Nat.le_of_ble_eq_true rfl) (fun X A C hT hQ => ?_)
  refine j_lvq (lv2 := [(0, .ref (a 0 0)), (1, .int x), (2, .int y), (3, .ref ob)]) rfl ?_
  refine j_aload_n C 3 dL_purse_0 rfl rfl ?_
  refine j_iconst C 0 dL_purse_1 (by decide) ?_
  refine j_aload_n C 0 dL_purse_2 rfl rfl ?_
  refine j_iload_n C 1 dL_purse_3 rfl rfl ?_
  refine j_iload_n C 2 dL_purse_4 rfl rfl ?_
  refine j_try_i C 2 0 (wa := []) (wb := [outC d ob g]) rfl (cc_X9_purse l d ad adK adV al a n op c hn x y hls) cG_0 rfl gL_purse_X9_purse rfl rfl rfl (by decide +kernel) ⟨(Nat.le_of_ble_eq_true rfl), (Nat.le_of_ble_eq_true rfl)⟩ ⟨(Nat.le_of_ble_eq_true rfl), (Nat.le_of_ble_eq_true rfl)⟩ rfl rfl (Nat.le_of_ble_eq_true rfl) dL_purse_5 hT (by decide) (by decide) (by decide +kernel) (fun q u hu => ?_) (fun r u hu => ?_)
  · obtain ⟨hno, rfl⟩ := hu
    refine j_astore C [(0, .ref (a 0 0)), (1, .int x), (2, .int y), (3, .ref ob), (4, .ref q)] [1, 2, 3, 4, 0] dL_purse_13 (by decide) rfl ?_
    refine j_iconst C 1 dL_purse_15 (by decide) ?_
    exact j_iret C hQ dL_purse_16 ⟨by rw [zLP, if_neg hno], by rw [zLP, if_neg hno]; rfl⟩
  · obtain ⟨hok, rfl, rfl⟩ := hu
    refine j_i2l C dL_purse_8 ?_
    refine j_last C (ws2 := cW a d n op ad c ++ [outC d ob (zLP n c g x y).2]) (cW a d n op ad c).length 0 fr_get rfl (by decide) (by decide) (by rw [zLP, if_pos hok]; exact fr_set) dL_purse_9 ?_
    refine j_goto C 17 dL_purse_10 (by decide) ?_
    refine j_iconst C 0 dL_purse_17 (by decide) ?_
    exact j_iret C hQ dL_purse_18 ⟨by rw [zLP, if_pos hok], rfl⟩
set_option maxHeartbeats 4000000 in
set_option maxRecDepth 100000 in
theorem cl_owned (l : Launch) (d : jD) (ad adK adV : Nat → Nat) (al : Nat) (a : Nat → Nat → Nat) (n : Nat → Nat) (op : Option Nat) (c : Nat → Nat → Nat → Int32) (hn : nOK n) (ob : Nat) (g : Nat → Int64) (hrn : c 0 0 9 < 50) (p x r k : Int32) (hls : l.stackTraces = false) : jMi (cEf ad adK adV al) d l yL_owned wsL_owned ({ frames := 7, cells := 1, slots := 6, locals := 129 } : Room) 1 6 [.ref (a 0 0), .int p, .int x, .int r, .int k, .ref ob] (cW a d n op ad c ++ [outC d ob g]) (fun r1 u => r1 = (zLO n c g p x r k).1 ∧ u = cW a d n op ad c ++ [outC d ob (zLO n c g p x r k).2]) := by
  refine jMi.mkH (cEf_k ad adK adV al) (by decide) rfl (Nat.le_of_ble_eq_true rfl) (fun X A C hT hQ => ?_)
  refine j_lvq (lv2 := [(0, .ref (a 0 0)), (1, .int p), (2, .int x), (3, .int r), (4, .int k), (5, .ref ob)]) rfl ?_
  refine j_aload C 5 dL_owned_0 rfl ?_
  refine j_iconst C 0 dL_owned_2 (by decide) ?_
  refine j_aload_n C 0 dL_owned_3 rfl rfl ?_
  refine j_iload_n C 1 dL_owned_4 rfl rfl ?_
  refine j_iload_n C 2 dL_owned_5 rfl rfl ?_
  refine j_iload_n C 3 dL_owned_6 rfl rfl ?_
  refine j_iload C 4 dL_owned_7 rfl ?_
  refine j_try_l C 4 0 (wa := []) (wb := [outC d ob g]) rfl (cc_X9_owned l d ad adK adV al a n op c hn hrn p x r k hls) cG_0 rfl gL_owned_X9_owned rfl rfl rfl (by decide +kernel) ⟨(Nat.le_of_ble_eq_true rfl), (Nat.le_of_ble_eq_true rfl)⟩ ⟨(Nat.le_of_ble_eq_true rfl), (Nat.le_of_ble_eq_true rfl)⟩ rfl rfl (Nat.le_of_ble_eq_true rfl) dL_owned_9 hT (by decide) (by decide) (by decide +kernel) (fun q u hu => ?_) (fun r1 u hu => ?_)
  · obtain ⟨hno, rfl⟩ := hu
    refine j_astore C [(0, .ref (a 0 0)), (1, .int p), (2, .int x), (3, .int r), (4, .int k), (5, .ref ob), (6, .ref q)] [1, 2, 3, 4, 5, 6, 0] dL_owned_16 (by decide) rfl ?_
    refine j_iconst C 1 dL_owned_18 (by decide) ?_
    exact j_iret C hQ dL_owned_19 ⟨by rw [zLO, if_neg hno], by rw [zLO, if_neg hno]; rfl⟩
  · obtain ⟨hok, rfl, rfl⟩ := hu
    refine j_last C (ws2 := cW a d n op ad c ++ [outC d ob (zLO n c g p x r k).2]) (cW a d n op ad c).length 0 fr_get rfl (by decide) (by decide) (by rw [zLO, if_pos hok]; exact fr_set) dL_owned_12 ?_
    refine j_goto C 20 dL_owned_13 (by decide) ?_
    refine j_iconst C 0 dL_owned_20 (by decide) ?_
    exact j_iret C hQ dL_owned_21 ⟨by rw [zLO, if_pos hok], rfl⟩


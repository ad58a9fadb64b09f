section JINV
variable {Ef : jE} {X : jX} {l : Launch} {d : jD} {A : Nat → Prop} {cc bytes : ByteArray} {nL cells slots maxL : Nat} {Ts wy w' : List Cond} {own : String} {rm rmc : Room} {ret : Option FieldType} {ws : va_W} {lv : List (Nat × Value)} {pc : Nat} {st st0 : List Value} {y : MethodName} {mc ms idx : Nat} {As : List Value}
theorem j_callI_v (C : jC Ef X l d A cc nL Ts own rm ret) (nA : Nat) {b : Nat} {post : va_W → Prop} (hM : jMv Ef d l y wy rmc mc ms (.ref b :: As) ws post) (hG : GoodIn Ts wy) (hlk : Cond.methodLink own idx y ∈ Ts) (hini : Cond.initialized y.cls ∈ Ts) (hinst : Cond.instanceMethod y ∈ Ts) (hw : wy = Cond.code y bytes maxL none :: w') (hrc : rmc.cells = mc) (hrs : rmc.slots = ms) (hnm : y.name = "<init>") (hd : y.cls ≠ "java/lang/invoke/MethodHandle" ∧ y.cls ≠ "java/lang/invoke/VarHandle" ∧ (parseMethodDescriptor y.desc).map (fun d => d.parameters.length) = some nA) (hR : rmc.frames + 1 ≤ rm.frames ∧ 8 + (maxL + 11) + rmc.locals ≤ rm.locals) (hroom : cells + mc ≤ rm.cells ∧ slots + ms ≤ rm.slots) (hnA : As.length = nA) (hst : st0 = As.reverse ++ .ref b :: st) (hcat : (st.map fun v => v.category).sum ≤ 8) (hdg : decode cc pc = .ok (.invokespecial idx, 3)) (kk : ∀ u : va_W, post u → jJ X l d A nL (cells + mc) (slots + ms) u lv (pc + 3) st) : jJ X l d A nL cells slots ws lv pc st0 := by
  obtain ⟨p, e, R, s, m, args, below, meth, c, Q⟩ := X
  intro ls H locs hl hP hD hS
  have hr : R = rm := C.2.2.2.1
  subst hr
  have hPc := hP
  have hDc := hD
  have hFc := jfree C.2.2.1 hDc hS
  refine va_callv (va_runI (As := As) (rest := st) C.1 (hM H.size) (cwI nA C.1.2.2.2.2 hG hw hrc hrs (C.1.2.2.2.2 _ hini) (C.1.2.2.2.2 _ hlk) (C.1.2.2.2.2 _ hinst) hnm hd hR) ⟨jfb C.2.2.2.2.2.2.2, jpr C.2.2.2.2.2.2.2 (A' := A) (ws := ws) C.2.2.1 C.2.1 C.2.2.2.2.2.2.1 hPc hDc hS⟩ rfl hnA hl.1 hst (lv_room hcat) hdg hroom) hS (fun q _ h => hFc q h) hFc (fun u t H1 locs1 ht hvm hw2 hB hz1 hk1 hS1 => ?_)
  obtain ⟨hP1, hK1, hD1⟩ := hB
  rw [ht] at hP1
  exact kk u hw2 ls H1 locs1 hl hP1 (hD1.weaken (fun k q _ h => hFc q.1 h)) hS1
theorem j_callI_vF (C : jC Ef X l d A cc nL Ts own rm ret) (nA : Nat) {b : Nat} {post : va_W → Prop} {wa wc wb : va_W} (hws : ws = wa ++ wc ++ wb) (hM : jMv Ef d l y wy rmc mc ms (.ref b :: As) wc post) (hG : GoodIn Ts wy) (hlk : Cond.methodLink own idx y ∈ Ts) (hini : Cond.initialized y.cls ∈ Ts) (hinst : Cond.instanceMethod y ∈ Ts) (hw : wy = Cond.code y bytes maxL none :: w') (hrc : rmc.cells = mc) (hrs : rmc.slots = ms) (hnm : y.name = "<init>") (hd : y.cls ≠ "java/lang/invoke/MethodHandle" ∧ y.cls ≠ "java/lang/invoke/VarHandle" ∧ (parseMethodDescriptor y.desc).map (fun d => d.parameters.length) = some nA) (hR : rmc.frames + 1 ≤ rm.frames ∧ 8 + (maxL + 11) + rmc.locals ≤ rm.locals) (hroom : cells + mc ≤ rm.cells ∧ slots + ms ≤ rm.slots) (hnA : As.length = nA) (hst : st0 = As.reverse ++ .ref b :: st) (hcat : (st.map fun v => v.category).sum ≤ 8) (hdg : decode cc pc = .ok (.invokespecial idx, 3)) (kk : ∀ u : va_W, post u → jJ X l d A nL (cells + mc) (slots + ms) (wa ++ u ++ wb) lv (pc + 3) st) : jJ X l d A nL cells slots ws lv pc st0 := by
  obtain ⟨p, e, R, s, m, args, below, meth, c, Q⟩ := X
  intro ls H locs hl hP hD hS
  have hr : R = rm := C.2.2.2.1
  subst hr
  subst hws
  have hPc := (jap_P hP).2.1
  have hDc := jap_D hD
  have hFc := jfree C.2.2.1 hDc hS
  refine va_callv (va_runI (As := As) (rest := st) C.1 (hM H.size) (cwI nA C.1.2.2.2.2 hG hw hrc hrs (C.1.2.2.2.2 _ hini) (C.1.2.2.2.2 _ hlk) (C.1.2.2.2.2 _ hinst) hnm hd hR) ⟨jfb C.2.2.2.2.2.2.2, jpr C.2.2.2.2.2.2.2 (A' := A) (ws := wc) C.2.2.1 C.2.1 C.2.2.2.2.2.2.1 hPc hDc hS⟩ rfl hnA hl.1 hst (lv_room hcat) hdg hroom) hS (fun q _ h => hFc q h) hFc (fun u t H1 locs1 ht hvm hw2 hB hz1 hk1 hS1 => ?_)
  obtain ⟨hP1, hK1, hD1⟩ := hB
  rw [ht] at hP1
  obtain ⟨hP2, hD2⟩ := jframe hP hD hFc hk1 hP1 hD1
  exact kk u hw2 ls H1 locs1 hl hP2 hD2 hS1
theorem j_callIN_v (C : jC Ef X l d A cc nL Ts own rm ret) (nA : Nat) {b : Nat} {post : va_W → Prop} (hM : jMv Ef d l y wy rmc mc ms (.ref b :: As) ws post) {host : String} (hG : GoodIn Ts wy) (hlk : ∀ (A' : Nat → Prop) (s' : State) (H' : Heap), Ef A' s' H' → va_Nw (Cond.methodLinkNest own idx y host) s') (hini : Cond.initialized y.cls ∈ Ts) (hinst : Cond.instanceMethod y ∈ Ts) (hw : wy = Cond.code y bytes maxL none :: w') (hrc : rmc.cells = mc) (hrs : rmc.slots = ms) (hnm : y.name = "<init>") (hd : y.cls ≠ "java/lang/invoke/MethodHandle" ∧ y.cls ≠ "java/lang/invoke/VarHandle" ∧ (parseMethodDescriptor y.desc).map (fun d => d.parameters.length) = some nA) (hR : rmc.frames + 1 ≤ rm.frames ∧ 8 + (maxL + 11) + rmc.locals ≤ rm.locals) (hroom : cells + mc ≤ rm.cells ∧ slots + ms ≤ rm.slots) (hnA : As.length = nA) (hst : st0 = As.reverse ++ .ref b :: st) (hcat : (st.map fun v => v.category).sum ≤ 8) (hdg : decode cc pc = .ok (.invokespecial idx, 3)) (kk : ∀ u : va_W, post u → jJ X l d A nL (cells + mc) (slots + ms) u lv (pc + 3) st) : jJ X l d A nL cells slots ws lv pc st0 := by
  obtain ⟨p, e, R, s, m, args, below, meth, c, Q⟩ := X
  intro ls H locs hl hP hD hS
  have hr : R = rm := C.2.2.2.1
  subst hr
  have hPc := hP
  have hDc := hD
  have hFc := jfree C.2.2.1 hDc hS
  refine va_callv (va_runIN (As := As) (rest := st) C.1 (hM H.size) ⟨va_cnB nA C.1.2.2.2.2 hG hw hrc hrs (hlk _ _ _ C.2.2.2.2.2.2.1) (C.1.2.2.2.2 _ hini) hd hR, hnm, C.1.2.2.2.2 _ hinst⟩ ⟨jfb C.2.2.2.2.2.2.2, jpr C.2.2.2.2.2.2.2 (A' := A) (ws := ws) C.2.2.1 C.2.1 C.2.2.2.2.2.2.1 hPc hDc hS⟩ rfl hnA hl.1 hst (lv_room hcat) hdg hroom) hS (fun q _ h => hFc q h) hFc (fun u t H1 locs1 ht hvm hw2 hB hz1 hk1 hS1 => ?_)
  obtain ⟨hP1, hK1, hD1⟩ := hB
  rw [ht] at hP1
  exact kk u hw2 ls H1 locs1 hl hP1 (hD1.weaken (fun k q _ h => hFc q.1 h)) hS1
theorem j_callIN_vF (C : jC Ef X l d A cc nL Ts own rm ret) (nA : Nat) {b : Nat} {post : va_W → Prop} {wa wc wb : va_W} (hws : ws = wa ++ wc ++ wb) (hM : jMv Ef d l y wy rmc mc ms (.ref b :: As) wc post) {host : String} (hG : GoodIn Ts wy) (hlk : ∀ (A' : Nat → Prop) (s' : State) (H' : Heap), Ef A' s' H' → va_Nw (Cond.methodLinkNest own idx y host) s') (hini : Cond.initialized y.cls ∈ Ts) (hinst : Cond.instanceMethod y ∈ Ts) (hw : wy = Cond.code y bytes maxL none :: w') (hrc : rmc.cells = mc) (hrs : rmc.slots = ms) (hnm : y.name = "<init>") (hd : y.cls ≠ "java/lang/invoke/MethodHandle" ∧ y.cls ≠ "java/lang/invoke/VarHandle" ∧ (parseMethodDescriptor y.desc).map (fun d => d.parameters.length) = some nA) (hR : rmc.frames + 1 ≤ rm.frames ∧ 8 + (maxL + 11) + rmc.locals ≤ rm.locals) (hroom : cells + mc ≤ rm.cells ∧ slots + ms ≤ rm.slots) (hnA : As.length = nA) (hst : st0 = As.reverse ++ .ref b :: st) (hcat : (st.map fun v => v.category).sum ≤ 8) (hdg : decode cc pc = .ok (.invokespecial idx, 3)) (kk : ∀ u : va_W, post u → jJ X l d A nL (cells + mc) (slots + ms) (wa ++ u ++ wb) lv (pc + 3) st) : jJ X l d A nL cells slots ws lv pc st0 := by
  obtain ⟨p, e, R, s, m, args, below, meth, c, Q⟩ := X
  intro ls H locs hl hP hD hS
  have hr : R = rm := C.2.2.2.1
  subst hr
  subst hws
  have hPc := (jap_P hP).2.1
  have hDc := jap_D hD
  have hFc := jfree C.2.2.1 hDc hS
  refine va_callv (va_runIN (As := As) (rest := st) C.1 (hM H.size) ⟨va_cnB nA C.1.2.2.2.2 hG hw hrc hrs (hlk _ _ _ C.2.2.2.2.2.2.1) (C.1.2.2.2.2 _ hini) hd hR, hnm, C.1.2.2.2.2 _ hinst⟩ ⟨jfb C.2.2.2.2.2.2.2, jpr C.2.2.2.2.2.2.2 (A' := A) (ws := wc) C.2.2.1 C.2.1 C.2.2.2.2.2.2.1 hPc hDc hS⟩ rfl hnA hl.1 hst (lv_room hcat) hdg hroom) hS (fun q _ h => hFc q h) hFc (fun u t H1 locs1 ht hvm hw2 hB hz1 hk1 hS1 => ?_)
  obtain ⟨hP1, hK1, hD1⟩ := hB
  rw [ht] at hP1
  obtain ⟨hP2, hD2⟩ := jframe hP hD hFc hk1 hP1 hD1
  exact kk u hw2 ls H1 locs1 hl hP2 hD2 hS1
theorem j_new (C : jC Ef X l d A cc nL Ts own rm ret) {Cn : String} {T : u_T} {N ci : Nat} {ty0 : Nat → FieldType} (fs : List Value) (hin : ∀ w ∈ u_ws Cn T N, w ∈ Ts) (hty : ∀ k, k < N → parseFieldDescriptor (T k).2.2.1 = some (ty0 k)) (hcl : Cond.classLink own idx Cn ∈ Ts) (hinst : Cond.instantiable Cn N ∈ Ts) (hini : Cond.initialized Cn ∈ Ts) (hc : vwCl[ci]? = some (Cn, T, N)) (hfs : ∀ j, j < N → defaultValue (ty0 j) = vp_V fs j) (hroom : cells + 1 ≤ rm.cells ∧ slots + N ≤ rm.slots) (hdg : decode cc pc = .ok (.new idx, 3)) (kk : ∀ q : Nat, jJ X l d A nL (cells + 1) (slots + N) (ws ++ [(q, .inr (ci, fs))]) lv (pc + 3) (.ref q :: st)) : jJ X l d A nL cells slots ws lv pc st := by
  obtain ⟨p, e, R, s, m, args, below, meth, c, Q⟩ := X
  intro ls H locs hl hP hD hS
  have hr : R = rm := C.2.2.2.1
  subst hr
  exact va_new C.1.1 C.1.2.1 C.1.2.2.2.2 hin ty0 hty C.1.2.2.2.1 (C.1.2.2.2.2 _ hcl) (C.1.2.2.2.2 _ hinst) (C.1.2.2.2.2 _ hini) C.2.1 hP hD hS C.2.2.1 hc hfs hroom.1 hroom.2 hdg (fun q H1 hP hD hS => kk q ls H1 locs hl hP hD hS)
theorem j_newq (C : jC Ef X l d A cc nL Ts own rm ret) {Cn : String} {n : Int32} (N t0 : Nat) (cA : ClassId) (hcl : Cond.classLink own idx Cn ∈ Ts) (hover : ∀ (A' : Nat → Prop) (s' : State) (H' : Heap), Ef A' s' H' → va_AO Cn s') (ht : (jtys d)[t0]? = some (cA, .object Cn)) (hn : n = nI N) (hN : N ≤ 100000) (hroom : cells + 1 ≤ rm.cells ∧ slots + N ≤ rm.slots) (hdg : decode cc pc = .ok (.anewarray idx, 3)) (kk : ∀ q : Nat, jJ X l d A nL (cells + 1) (slots + N) (ws ++ [(q, .inl (cA, N, .inr (.inr (.inr (.inr (fun _ => none))))))]) lv (pc + 3) (.ref q :: st)) : jJ X l d A nL cells slots ws lv pc (.int n :: st) := by
  obtain ⟨p, e, R, s, m, args, below, meth, c, Q⟩ := X
  intro ls H locs hl hP hD hS
  have hr : R = rm := C.2.2.2.1
  subst hr
  subst hn
  refine va_newq C.1.1 C.1.2.1 C.1.2.2.2.1 (C.1.2.2.2.2 _ hcl) (hover _ _ _ C.2.2.2.2.2.2.1) C.2.1 hP hD hS C.2.2.1 (N' := N) (nI_pos (by omega)) (nI_clamp (by omega)) (by omega) hroom.1 hroom.2 hdg (fun q cA2 H1 hK1 hP1 hD1 hS1 => ?_)
  obtain ⟨k1, c1, -, -, -, e1⟩ := (hK1.2 6 (cA2, .object Cn) rfl).2
  obtain ⟨k2, c2, -, -, -, e2⟩ := (C.2.1.2 t0 _ ht).2
  have e3 : cA2 = cA := Option.some.inj (e1.symm.trans e2)
  subst e3
  exact kk q ls H1 locs hl hP1 hD1 hS1
/-- cells are forgotten -/
theorem j_drop {w1 w2 : va_W} (h : ws = w1 ++ w2) (k : jJ X l d A nL cells slots w1 lv pc st) : jJ X l d A nL cells slots ws lv pc st := by
  obtain ⟨p, e, R, s, m, args, below, meth, c, Q⟩ := X
  subst h
  intro ls H locs hl hP hD hS
  have h3 := jap_P (a := []) (b := w1) (c := w2) (by simpa using hP)
  exact k ls H locs hl h3.2.1 (jap_D (a := []) (c := w2) (by simpa using hD)) hS
/-- the cells may stand in another order -/
theorem j_perm {w2 : va_W} (h : ws.Perm w2) (k : jJ X l d A nL cells slots w2 lv pc st) : jJ X l d A nL cells slots ws lv pc st := by
  obtain ⟨p, e, R, s, m, args, below, meth, c, Q⟩ := X
  intro ls H locs hl hP hD hS
  have hm : ∀ q ∈ ws, va_at d.1 vwCl q H := fun q hq => by
    obtain ⟨i, hi⟩ := List.getElem?_of_mem hq
    exact hP i q hi
  have hA : ∀ q ∈ ws, A q.1 := fun q hq => by
    obtain ⟨i, hi⟩ := List.getElem?_of_mem hq
    exact hD.2 i q hi
  have hpw : ws.Pairwise (fun p q => p.1 ≠ q.1) := by
    rw [List.pairwise_iff_getElem]
    intro i j hi hj hij he
    have := hD.1 i j _ _ (List.getElem?_eq_getElem hi) (List.getElem?_eq_getElem hj) he
    omega
  have hpw2 : w2.Pairwise (fun p q => p.1 ≠ q.1) := (h.pairwise_iff (fun {x y} hxy => Ne.symm hxy)).mp hpw
  rw [List.pairwise_iff_getElem] at hpw2
  refine k ls H locs hl (fun i q hi => hm q (h.mem_iff.mpr (List.mem_of_getElem? hi))) ⟨fun i j p q hi hj hpq => ?_, fun i q hi => hA q (h.mem_iff.mpr (List.mem_of_getElem? hi))⟩ hS
  obtain ⟨hil, hie⟩ := List.getElem?_eq_some_iff.mp hi
  obtain ⟨hjl, hje⟩ := List.getElem?_eq_some_iff.mp hj
  rcases Nat.lt_trichotomy i j with hlt | heq | hgt
  · exact absurd (by rw [hie, hje]; exact hpq) (hpw2 i j hil hjl hlt)
  · exact heq
  · exact absurd (by rw [hie, hje]; exact hpq.symm) (hpw2 j i hjl hil hgt)
end JINV
theorem fr_get {ws : va_W} {e : Nat × va_E} : (ws ++ [e])[ws.length]? = some e := by simp
theorem fr_set {ws : va_W} {e e2 : Nat × va_E} : (ws ++ [e]).set ws.length e2 = ws ++ [e2] := by
  rw [List.set_append_right _ _ (Nat.le_refl _), Nat.sub_self]
  rfl

theorem jfb {Ef : jE} (hk : jKp Ef) {d : jD} {av : List Value} {ws : va_W} {sz : Nat} : FrameBlind (va_Pc av (jPr Ef d ws sz)) := fun a U g mk q => by
  obtain ⟨q0, q1, qP, qK, qD, qE⟩ := q
  exact ⟨q0, q1, qP, va_K.moved (u := U) (U := U.calling g mk a) (Vm.Alike.refl U.vm) qK, qD, hk _ _ U (U.calling g mk a) U.heap qE (Or.inr rfl) rfl (Nat.le_refl _) (fun _ _ _ => rfl) (fun _ h => h)⟩
theorem jpr {Ef : jE} (hk : jKp Ef) {d : jD} {av : List Value} {ws wc : va_W} {A A' : Nat → Prop} {s : State} {H : Heap} {locs : List Loc} (hA : ∀ q : Nat, s.heap.size ≤ q → A q) (hK : va_K d.1 vwCl (jtys d) s) (hE : Ef A s s.heap) (hP : va_P d.1 vwCl wc H) (hD : va_D A wc) (hS : va_S A s.heap H locs) : ∀ U : State, U.heap = H → s.WarmedH U.vm → va_Pc av (jPr Ef d wc H.size) av.toArray U := fun U hU hW => by
  refine ⟨rfl, by rw [hU], by rw [hU]; exact hP, va_K.moved hW.alike hK, hD.weaken (fun _ _ _ _ => trivial), ?_⟩
  rw [hU]
  refine hk A _ s U H hE (Or.inl hW) hU hS.1 hS.2.1 (fun q h2 => ?_)
  rcases h2 with ⟨k, e, h⟩ | h
  · exact hD.2 k _ h
  · exact hA q (Nat.le_trans hS.1 h)
theorem jfree {A : Nat → Prop} {s : State} {wc : va_W} {H : Heap} {locs : List Loc} (hA : ∀ q : Nat, s.heap.size ≤ q → A q) (hD : va_D A wc) (hS : va_S A s.heap H locs) : ∀ q, va_A wc H.size q → A q := fun q h => by
  rcases h with ⟨k, e, h⟩ | h
  · exact hD.2 k _ h
  · exact hA q (Nat.le_trans hS.1 h)
theorem jap_P {D : va_G} {cl : List vw_C} {a b c : va_W} {H : Heap} (h : va_P D cl (a ++ b ++ c) H) : va_P D cl a H ∧ va_P D cl b H ∧ va_P D cl c H := by
  have hm : ∀ q ∈ a ++ b ++ c, va_at D cl q H := fun q hq => by
    obtain ⟨i, hi⟩ := List.getElem?_of_mem hq
    exact h i q hi
  exact ⟨fun k q hk => hm q (by simp [List.mem_of_getElem? hk]), fun k q hk => hm q (by simp [List.mem_of_getElem? hk]), fun k q hk => hm q (by simp [List.mem_of_getElem? hk])⟩
theorem ap_a {a b c : va_W} {k : Nat} {q : Nat × va_E} (h : a[k]? = some q) : (a ++ b ++ c)[k]? = some q := by
  have hl : k < a.length := (List.getElem?_eq_some_iff.mp h).1
  rw [List.append_assoc, List.getElem?_append_left hl]
  exact h
theorem ap_b {a b c : va_W} {k : Nat} {q : Nat × va_E} (h : b[k]? = some q) : (a ++ b ++ c)[a.length + k]? = some q := by
  have hl : k < b.length := (List.getElem?_eq_some_iff.mp h).1
  rw [List.append_assoc, List.getElem?_append_right (by omega), Nat.add_sub_cancel_left, List.getElem?_append_left hl]
  exact h
theorem ap_c {a b c : va_W} {k : Nat} {q : Nat × va_E} (h : c[k]? = some q) : (a ++ b ++ c)[a.length + b.length + k]? = some q := by
  rw [List.getElem?_append_right (by rw [List.length_append]; omega), List.length_append, Nat.add_sub_cancel_left]
  exact h
theorem jap_D {A : Nat → Prop} {a b c : va_W} (h : va_D A (a ++ b ++ c)) : va_D A b := by
  refine ⟨fun i j p q hi hj hpq => ?_, fun k q hk => h.2 (a.length + k) q (ap_b hk)⟩
  have := h.1 (a.length + i) (a.length + j) p q (ap_b hi) (ap_b hj) hpq
  omega
/-- the rest of a world stays, and is apart from what a callee gives back -/
theorem jframe {D : va_G} {cl : List vw_C} {A : Nat → Prop} {a b b' c : va_W} {H H1 : Heap} (hP : va_P D cl (a ++ b ++ c) H) (hD : va_D A (a ++ b ++ c)) (hF : ∀ q, va_A b H.size q → A q) (hk : ∀ q : Nat, q < H.size → ¬ va_A b H.size q → H1[q]? = H[q]?) (hP1 : va_P D cl b' H1) (hD1 : va_D (va_A b H.size) b') : va_P D cl (a ++ b' ++ c) H1 ∧ va_D A (a ++ b' ++ c) := by
  obtain ⟨ha, hb, hc⟩ := jap_P hP
  have out : ∀ (i : Nat) (q : Nat × va_E), (a ++ b ++ c)[i]? = some q → (i < a.length ∨ a.length + b.length ≤ i) → ¬ va_A b H.size q.1 := by
    intro i q hi hr hq
    rcases hq with ⟨k, e, h⟩ | h
    · have hkl : k < b.length := (List.getElem?_eq_some_iff.mp h).1
      have := hD.1 i (a.length + k) q (q.1, e) hi (ap_b h) rfl
      omega
    · have := (hP i q hi).lt
      omega
  have oa : ∀ (i : Nat) (q : Nat × va_E), a[i]? = some q → ¬ va_A b H.size q.1 := fun i q h => out i q (ap_a h) (Or.inl (List.getElem?_eq_some_iff.mp h).1)
  have oc : ∀ (i : Nat) (q : Nat × va_E), c[i]? = some q → ¬ va_A b H.size q.1 := fun i q h => out (a.length + b.length + i) q (ap_c h) (Or.inr (by omega))
  refine ⟨va_P.app (va_P.app (ha.kept (fun k q hq => hk _ (ha k q hq).lt (oa k q hq))) hP1) (hc.kept (fun k q hq => hk _ (hc k q hq).lt (oc k q hq))), ?_⟩
  have hDa : va_D A a := jap_D (a := []) (c := b ++ c) (by simpa using hD)
  have hDc : va_D A c := jap_D (a := a ++ b) (c := []) (by simpa using hD)
  have hDb : va_D A b' := hD1.weaken (fun k q _ h => hF q.1 h)
  refine va_D.app (va_D.app hDa hDb (fun i j p q hi hj hpq => oa i p hi (by rw [hpq]; exact hD1.2 j q hj))) hDc (fun i j p q hi hj hpq => ?_)
  rcases List.mem_append.mp (List.mem_of_getElem? hi) with h | h
  · obtain ⟨i2, hi2⟩ := List.getElem?_of_mem h
    have hl : i2 < a.length := (List.getElem?_eq_some_iff.mp hi2).1
    have := hD.1 i2 (a.length + b.length + j) p q (ap_a hi2) (ap_c hj) hpq
    omega
  · obtain ⟨i2, hi2⟩ := List.getElem?_of_mem h
    exact oc j q hj (by rw [← hpq]; exact hD1.2 i2 p hi2)
section JCALL
variable {Ef : jE} {X : jX} {l : Launch} {d : jD} {A : Nat → Prop} {cc bytes : ByteArray} {nL cells slots maxL : Nat} {Ts wy w' : List Cond} {own : String} {rm rmc : Room} {ret ret' : Option FieldType} {ws : va_W} {lv : List (Nat × Value)} {pc : Nat} {st st0 : List Value} {y : MethodName} {mc ms idx : Nat} {As : List Value}
theorem j_callV_i (C : jC Ef X l d A cc nL Ts own rm ret) (nA : Nat) {post : Int32 → va_W → Prop} {b ci N : Nat} {fs : List Value} {Cn : String} {T : u_T} (q0 : Nat) (hM : jMi Ef d l y wy rmc mc ms (.ref b :: As) ws post) (he : ws[q0]? = some (b, .inr (ci, fs))) (hc : vwCl[ci]? = some (Cn, T, N)) (hG : GoodIn Ts (wsV own idx Cn y wy)) (hw : wy = Cond.code y bytes maxL ret' :: w') (hrc : rmc.cells = mc) (hrs : rmc.slots = ms) (hd : y.cls = Cn ∧ y.cls ≠ "java/lang/invoke/MethodHandle" ∧ y.cls ≠ "java/lang/invoke/VarHandle" ∧ (parseMethodDescriptor y.desc).map (fun d => d.parameters.length) = some nA) (hR : rmc.frames + 1 ≤ rm.frames ∧ 8 + (maxL + 11) + rmc.locals ≤ rm.locals) (hroom : cells + mc ≤ rm.cells ∧ slots + ms ≤ rm.slots) (hnA : As.length = nA) (hst : st0 = As.reverse ++ .ref b :: st) (hcat : (st.map fun v => v.category).sum ≤ 8) (hdg : decode cc pc = .ok (.invokevirtual idx, 3)) (kk : ∀ (r : Int32) (u : va_W), post r u → jJ X l d A nL (cells + mc) (slots + ms) u lv (pc + 3) (.int r :: st)) : jJ X l d A nL cells slots ws lv pc st0 := by
  obtain ⟨p, e, R, s, m, args, below, meth, c, Q⟩ := X
  intro ls H locs hl hP hD hS
  have hr : R = rm := C.2.2.2.1
  subst hr
  have hPc := hP
  have hDc := hD
  have hFc := jfree C.2.2.1 hDc hS
  refine va_calli (va_runV (C := Cn) (As := As) (rest := st) C.1 (hM H.size) (cwV nA C.1.2.2.2.2 hG hw hrc hrs hd hR) ⟨jfb C.2.2.2.2.2.2.2, va_recv C.2.1 hPc (ci := ci) (q0 := q0) hc he, jpr C.2.2.2.2.2.2.2 (A' := A) (ws := ws) C.2.2.1 C.2.1 C.2.2.2.2.2.2.1 hPc hDc hS⟩ rfl hnA hl.1 hst (lv_room hcat) hdg hroom) hS (fun q _ h => hFc q h) hFc (fun r u t H1 locs1 ht hvm hw2 hB hz1 hk1 hS1 => ?_)
  obtain ⟨hP1, hK1, hD1⟩ := hB
  rw [ht] at hP1
  exact kk r u hw2 ls H1 locs1 hl hP1 (hD1.weaken (fun k q _ h => hFc q.1 h)) hS1
theorem j_callV_iF (C : jC Ef X l d A cc nL Ts own rm ret) (nA : Nat) {post : Int32 → va_W → Prop} {b ci N : Nat} {fs : List Value} {Cn : String} {T : u_T} (q0 : Nat) {wa wc wb : va_W} (hws : ws = wa ++ wc ++ wb) (hM : jMi Ef d l y wy rmc mc ms (.ref b :: As) wc post) (he : wc[q0]? = some (b, .inr (ci, fs))) (hc : vwCl[ci]? = some (Cn, T, N)) (hG : GoodIn Ts (wsV own idx Cn y wy)) (hw : wy = Cond.code y bytes maxL ret' :: w') (hrc : rmc.cells = mc) (hrs : rmc.slots = ms) (hd : y.cls = Cn ∧ y.cls ≠ "java/lang/invoke/MethodHandle" ∧ y.cls ≠ "java/lang/invoke/VarHandle" ∧ (parseMethodDescriptor y.desc).map (fun d => d.parameters.length) = some nA) (hR : rmc.frames + 1 ≤ rm.frames ∧ 8 + (maxL + 11) + rmc.locals ≤ rm.locals) (hroom : cells + mc ≤ rm.cells ∧ slots + ms ≤ rm.slots) (hnA : As.length = nA) (hst : st0 = As.reverse ++ .ref b :: st) (hcat : (st.map fun v => v.category).sum ≤ 8) (hdg : decode cc pc = .ok (.invokevirtual idx, 3)) (kk : ∀ (r : Int32) (u : va_W), post r u → jJ X l d A nL (cells + mc) (slots + ms) (wa ++ u ++ wb) lv (pc + 3) (.int r :: st)) : jJ X l d A nL cells slots ws lv pc st0 := by
  obtain ⟨p, e, R, s, m, args, below, meth, c, Q⟩ := X
  intro ls H locs hl hP hD hS
  have hr : R = rm := C.2.2.2.1
  subst hr
  subst hws
  have hPc := (jap_P hP).2.1
  have hDc := jap_D hD
  have hFc := jfree C.2.2.1 hDc hS
  refine va_calli (va_runV (C := Cn) (As := As) (rest := st) C.1 (hM H.size) (cwV nA C.1.2.2.2.2 hG hw hrc hrs hd hR) ⟨jfb C.2.2.2.2.2.2.2, va_recv C.2.1 hPc (ci := ci) (q0 := q0) hc he, jpr C.2.2.2.2.2.2.2 (A' := A) (ws := wc) C.2.2.1 C.2.1 C.2.2.2.2.2.2.1 hPc hDc hS⟩ rfl hnA hl.1 hst (lv_room hcat) hdg hroom) hS (fun q _ h => hFc q h) hFc (fun r u t H1 locs1 ht hvm hw2 hB hz1 hk1 hS1 => ?_)
  obtain ⟨hP1, hK1, hD1⟩ := hB
  rw [ht] at hP1
  obtain ⟨hP2, hD2⟩ := jframe hP hD hFc hk1 hP1 hD1
  exact kk r u hw2 ls H1 locs1 hl hP2 hD2 hS1
theorem j_callV_l (C : jC Ef X l d A cc nL Ts own rm ret) (nA : Nat) {post : Int64 → va_W → Prop} {b ci N : Nat} {fs : List Value} {Cn : String} {T : u_T} (q0 : Nat) (hM : jMl Ef d l y wy rmc mc ms (.ref b :: As) ws post) (he : ws[q0]? = some (b, .inr (ci, fs))) (hc : vwCl[ci]? = some (Cn, T, N)) (hG : GoodIn Ts (wsV own idx Cn y wy)) (hw : wy = Cond.code y bytes maxL ret' :: w') (hrc : rmc.cells = mc) (hrs : rmc.slots = ms) (hd : y.cls = Cn ∧ y.cls ≠ "java/lang/invoke/MethodHandle" ∧ y.cls ≠ "java/lang/invoke/VarHandle" ∧ (parseMethodDescriptor y.desc).map (fun d => d.parameters.length) = some nA) (hR : rmc.frames + 1 ≤ rm.frames ∧ 8 + (maxL + 11) + rmc.locals ≤ rm.locals) (hroom : cells + mc ≤ rm.cells ∧ slots + ms ≤ rm.slots) (hnA : As.length = nA) (hst : st0 = As.reverse ++ .ref b :: st) (hcat : (st.map fun v => v.category).sum ≤ 8) (hdg : decode cc pc = .ok (.invokevirtual idx, 3)) (kk : ∀ (r : Int64) (u : va_W), post r u → jJ X l d A nL (cells + mc) (slots + ms) u lv (pc + 3) (.long r :: st)) : jJ X l d A nL cells slots ws lv pc st0 := by
  obtain ⟨p, e, R, s, m, args, below, meth, c, Q⟩ := X
  intro ls H locs hl hP hD hS
  have hr : R = rm := C.2.2.2.1
  subst hr
  have hPc := hP
  have hDc := hD
  have hFc := jfree C.2.2.1 hDc hS
  refine va_calll (va_runV (C := Cn) (As := As) (rest := st) C.1 (hM H.size) (cwV nA C.1.2.2.2.2 hG hw hrc hrs hd hR) ⟨jfb C.2.2.2.2.2.2.2, va_recv C.2.1 hPc (ci := ci) (q0 := q0) hc he, jpr C.2.2.2.2.2.2.2 (A' := A) (ws := ws) C.2.2.1 C.2.1 C.2.2.2.2.2.2.1 hPc hDc hS⟩ rfl hnA hl.1 hst (lv_room hcat) hdg hroom) hS (fun q _ h => hFc q h) hFc (fun r u t H1 locs1 ht hvm hw2 hB hz1 hk1 hS1 => ?_)
  obtain ⟨hP1, hK1, hD1⟩ := hB
  rw [ht] at hP1
  exact kk r u hw2 ls H1 locs1 hl hP1 (hD1.weaken (fun k q _ h => hFc q.1 h)) hS1
theorem j_callV_lF (C : jC Ef X l d A cc nL Ts own rm ret) (nA : Nat) {post : Int64 → va_W → Prop} {b ci N : Nat} {fs : List Value} {Cn : String} {T : u_T} (q0 : Nat) {wa wc wb : va_W} (hws : ws = wa ++ wc ++ wb) (hM : jMl Ef d l y wy rmc mc ms (.ref b :: As) wc post) (he : wc[q0]? = some (b, .inr (ci, fs))) (hc : vwCl[ci]? = some (Cn, T, N)) (hG : GoodIn Ts (wsV own idx Cn y wy)) (hw : wy = Cond.code y bytes maxL ret' :: w') (hrc : rmc.cells = mc) (hrs : rmc.slots = ms) (hd : y.cls = Cn ∧ y.cls ≠ "java/lang/invoke/MethodHandle" ∧ y.cls ≠ "java/lang/invoke/VarHandle" ∧ (parseMethodDescriptor y.desc).map (fun d => d.parameters.length) = some nA) (hR : rmc.frames + 1 ≤ rm.frames ∧ 8 + (maxL + 11) + rmc.locals ≤ rm.locals) (hroom : cells + mc ≤ rm.cells ∧ slots + ms ≤ rm.slots) (hnA : As.length = nA) (hst : st0 = As.reverse ++ .ref b :: st) (hcat : (st.map fun v => v.category).sum ≤ 8) (hdg : decode cc pc = .ok (.invokevirtual idx, 3)) (kk : ∀ (r : Int64) (u : va_W), post r u → jJ X l d A nL (cells + mc) (slots + ms) (wa ++ u ++ wb) lv (pc + 3) (.long r :: st)) : jJ X l d A nL cells slots ws lv pc st0 := by
  obtain ⟨p, e, R, s, m, args, below, meth, c, Q⟩ := X
  intro ls H locs hl hP hD hS
  have hr : R = rm := C.2.2.2.1
  subst hr
  subst hws
  have hPc := (jap_P hP).2.1
  have hDc := jap_D hD
  have hFc := jfree C.2.2.1 hDc hS
  refine va_calll (va_runV (C := Cn) (As := As) (rest := st) C.1 (hM H.size) (cwV nA C.1.2.2.2.2 hG hw hrc hrs hd hR) ⟨jfb C.2.2.2.2.2.2.2, va_recv C.2.1 hPc (ci := ci) (q0 := q0) hc he, jpr C.2.2.2.2.2.2.2 (A' := A) (ws := wc) C.2.2.1 C.2.1 C.2.2.2.2.2.2.1 hPc hDc hS⟩ rfl hnA hl.1 hst (lv_room hcat) hdg hroom) hS (fun q _ h => hFc q h) hFc (fun r u t H1 locs1 ht hvm hw2 hB hz1 hk1 hS1 => ?_)
  obtain ⟨hP1, hK1, hD1⟩ := hB
  rw [ht] at hP1
  obtain ⟨hP2, hD2⟩ := jframe hP hD hFc hk1 hP1 hD1
  exact kk r u hw2 ls H1 locs1 hl hP2 hD2 hS1
theorem j_callV_v (C : jC Ef X l d A cc nL Ts own rm ret) (nA : Nat) {post : va_W → Prop} {b ci N : Nat} {fs : List Value} {Cn : String} {T : u_T} (q0 : Nat) (hM : jMv Ef d l y wy rmc mc ms (.ref b :: As) ws post) (he : ws[q0]? = some (b, .inr (ci, fs))) (hc : vwCl[ci]? = some (Cn, T, N)) (hG : GoodIn Ts (wsV own idx Cn y wy)) (hw : wy = Cond.code y bytes maxL ret' :: w') (hrc : rmc.cells = mc) (hrs : rmc.slots = ms) (hd : y.cls = Cn ∧ y.cls ≠ "java/lang/invoke/MethodHandle" ∧ y.cls ≠ "java/lang/invoke/VarHandle" ∧ (parseMethodDescriptor y.desc).map (fun d => d.parameters.length) = some nA) (hR : rmc.frames + 1 ≤ rm.frames ∧ 8 + (maxL + 11) + rmc.locals ≤ rm.locals) (hroom : cells + mc ≤ rm.cells ∧ slots + ms ≤ rm.slots) (hnA : As.length = nA) (hst : st0 = As.reverse ++ .ref b :: st) (hcat : (st.map fun v => v.category).sum ≤ 8) (hdg : decode cc pc = .ok (.invokevirtual idx, 3)) (kk : ∀ (u : va_W), post u → jJ X l d A nL (cells + mc) (slots + ms) u lv (pc + 3) st) : jJ X l d A nL cells slots ws lv pc st0 := by
  obtain ⟨p, e, R, s, m, args, below, meth, c, Q⟩ := X
  intro ls H locs hl hP hD hS
  have hr : R = rm := C.2.2.2.1
  subst hr
  have hPc := hP
  have hDc := hD
  have hFc := jfree C.2.2.1 hDc hS
  refine va_callv (va_runV (C := Cn) (As := As) (rest := st) C.1 (hM H.size) (cwV nA C.1.2.2.2.2 hG hw hrc hrs hd hR) ⟨jfb C.2.2.2.2.2.2.2, va_recv C.2.1 hPc (ci := ci) (q0 := q0) hc he, jpr C.2.2.2.2.2.2.2 (A' := A) (ws := ws) C.2.2.1 C.2.1 C.2.2.2.2.2.2.1 hPc hDc hS⟩ rfl hnA hl.1 hst (lv_room hcat) hdg hroom) hS (fun q _ h => hFc q h) hFc (fun u t H1 locs1 ht hvm hw2 hB hz1 hk1 hS1 => ?_)
  obtain ⟨hP1, hK1, hD1⟩ := hB
  rw [ht] at hP1
  exact kk u hw2 ls H1 locs1 hl hP1 (hD1.weaken (fun k q _ h => hFc q.1 h)) hS1
theorem j_callV_vF (C : jC Ef X l d A cc nL Ts own rm ret) (nA : Nat) {post : va_W → Prop} {b ci N : Nat} {fs : List Value} {Cn : String} {T : u_T} (q0 : Nat) {wa wc wb : va_W} (hws : ws = wa ++ wc ++ wb) (hM : jMv Ef d l y wy rmc mc ms (.ref b :: As) wc post) (he : wc[q0]? = some (b, .inr (ci, fs))) (hc : vwCl[ci]? = some (Cn, T, N)) (hG : GoodIn Ts (wsV own idx Cn y wy)) (hw : wy = Cond.code y bytes maxL ret' :: w') (hrc : rmc.cells = mc) (hrs : rmc.slots = ms) (hd : y.cls = Cn ∧ y.cls ≠ "java/lang/invoke/MethodHandle" ∧ y.cls ≠ "java/lang/invoke/VarHandle" ∧ (parseMethodDescriptor y.desc).map (fun d => d.parameters.length) = some nA) (hR : rmc.frames + 1 ≤ rm.frames ∧ 8 + (maxL + 11) + rmc.locals ≤ rm.locals) (hroom : cells + mc ≤ rm.cells ∧ slots + ms ≤ rm.slots) (hnA : As.length = nA) (hst : st0 = As.reverse ++ .ref b :: st) (hcat : (st.map fun v => v.category).sum ≤ 8) (hdg : decode cc pc = .ok (.invokevirtual idx, 3)) (kk : ∀ (u : va_W), post u → jJ X l d A nL (cells + mc) (slots + ms) (wa ++ u ++ wb) lv (pc + 3) st) : jJ X l d A nL cells slots ws lv pc st0 := by
  obtain ⟨p, e, R, s, m, args, below, meth, c, Q⟩ := X
  intro ls H locs hl hP hD hS
  have hr : R = rm := C.2.2.2.1
  subst hr
  subst hws
  have hPc := (jap_P hP).2.1
  have hDc := jap_D hD
  have hFc := jfree C.2.2.1 hDc hS
  refine va_callv (va_runV (C := Cn) (As := As) (rest := st) C.1 (hM H.size) (cwV nA C.1.2.2.2.2 hG hw hrc hrs hd hR) ⟨jfb C.2.2.2.2.2.2.2, va_recv C.2.1 hPc (ci := ci) (q0 := q0) hc he, jpr C.2.2.2.2.2.2.2 (A' := A) (ws := wc) C.2.2.1 C.2.1 C.2.2.2.2.2.2.1 hPc hDc hS⟩ rfl hnA hl.1 hst (lv_room hcat) hdg hroom) hS (fun q _ h => hFc q h) hFc (fun u t H1 locs1 ht hvm hw2 hB hz1 hk1 hS1 => ?_)
  obtain ⟨hP1, hK1, hD1⟩ := hB
  rw [ht] at hP1
  obtain ⟨hP2, hD2⟩ := jframe hP hD hFc hk1 hP1 hD1
  exact kk u hw2 ls H1 locs1 hl hP2 hD2 hS1
theorem j_callV_q (C : jC Ef X l d A cc nL Ts own rm ret) (nA : Nat) {post : Option Nat → va_W → Prop} {b ci N : Nat} {fs : List Value} {Cn : String} {T : u_T} (q0 : Nat) (hM : jMq Ef d l y wy rmc mc ms (.ref b :: As) ws post) (he : ws[q0]? = some (b, .inr (ci, fs))) (hc : vwCl[ci]? = some (Cn, T, N)) (hG : GoodIn Ts (wsV own idx Cn y wy)) (hw : wy = Cond.code y bytes maxL ret' :: w') (hrc : rmc.cells = mc) (hrs : rmc.slots = ms) (hd : y.cls = Cn ∧ y.cls ≠ "java/lang/invoke/MethodHandle" ∧ y.cls ≠ "java/lang/invoke/VarHandle" ∧ (parseMethodDescriptor y.desc).map (fun d => d.parameters.length) = some nA) (hR : rmc.frames + 1 ≤ rm.frames ∧ 8 + (maxL + 11) + rmc.locals ≤ rm.locals) (hroom : cells + mc ≤ rm.cells ∧ slots + ms ≤ rm.slots) (hnA : As.length = nA) (hst : st0 = As.reverse ++ .ref b :: st) (hcat : (st.map fun v => v.category).sum ≤ 8) (hdg : decode cc pc = .ok (.invokevirtual idx, 3)) (kk : ∀ (r : Option Nat) (u : va_W), post r u → jJ X l d A nL (cells + mc) (slots + ms) u lv (pc + 3) (va_rf r :: st)) : jJ X l d A nL cells slots ws lv pc st0 := by
  obtain ⟨p, e, R, s, m, args, below, meth, c, Q⟩ := X
  intro ls H locs hl hP hD hS
  have hr : R = rm := C.2.2.2.1
  subst hr
  have hPc := hP
  have hDc := hD
  have hFc := jfree C.2.2.1 hDc hS
  refine va_callq (va_runV (C := Cn) (As := As) (rest := st) C.1 (hM H.size) (cwV nA C.1.2.2.2.2 hG hw hrc hrs hd hR) ⟨jfb C.2.2.2.2.2.2.2, va_recv C.2.1 hPc (ci := ci) (q0 := q0) hc he, jpr C.2.2.2.2.2.2.2 (A' := A) (ws := ws) C.2.2.1 C.2.1 C.2.2.2.2.2.2.1 hPc hDc hS⟩ rfl hnA hl.1 hst (lv_room hcat) hdg hroom) hS (fun q _ h => hFc q h) hFc (fun r u t H1 locs1 ht hvm hw2 hB hz1 hk1 hS1 => ?_)
  obtain ⟨hP1, hK1, hD1⟩ := hB
  rw [ht] at hP1
  exact kk r u hw2 ls H1 locs1 hl hP1 (hD1.weaken (fun k q _ h => hFc q.1 h)) hS1
theorem j_callV_qF (C : jC Ef X l d A cc nL Ts own rm ret) (nA : Nat) {post : Option Nat → va_W → Prop} {b ci N : Nat} {fs : List Value} {Cn : String} {T : u_T} (q0 : Nat) {wa wc wb : va_W} (hws : ws = wa ++ wc ++ wb) (hM : jMq Ef d l y wy rmc mc ms (.ref b :: As) wc post) (he : wc[q0]? = some (b, .inr (ci, fs))) (hc : vwCl[ci]? = some (Cn, T, N)) (hG : GoodIn Ts (wsV own idx Cn y wy)) (hw : wy = Cond.code y bytes maxL ret' :: w') (hrc : rmc.cells = mc) (hrs : rmc.slots = ms) (hd : y.cls = Cn ∧ y.cls ≠ "java/lang/invoke/MethodHandle" ∧ y.cls ≠ "java/lang/invoke/VarHandle" ∧ (parseMethodDescriptor y.desc).map (fun d => d.parameters.length) = some nA) (hR : rmc.frames + 1 ≤ rm.frames ∧ 8 + (maxL + 11) + rmc.locals ≤ rm.locals) (hroom : cells + mc ≤ rm.cells ∧ slots + ms ≤ rm.slots) (hnA : As.length = nA) (hst : st0 = As.reverse ++ .ref b :: st) (hcat : (st.map fun v => v.category).sum ≤ 8) (hdg : decode cc pc = .ok (.invokevirtual idx, 3)) (kk : ∀ (r : Option Nat) (u : va_W), post r u → jJ X l d A nL (cells + mc) (slots + ms) (wa ++ u ++ wb) lv (pc + 3) (va_rf r :: st)) : jJ X l d A nL cells slots ws lv pc st0 := by
  obtain ⟨p, e, R, s, m, args, below, meth, c, Q⟩ := X
  intro ls H locs hl hP hD hS
  have hr : R = rm := C.2.2.2.1
  subst hr
  subst hws
  have hPc := (jap_P hP).2.1
  have hDc := jap_D hD
  have hFc := jfree C.2.2.1 hDc hS
  refine va_callq (va_runV (C := Cn) (As := As) (rest := st) C.1 (hM H.size) (cwV nA C.1.2.2.2.2 hG hw hrc hrs hd hR) ⟨jfb C.2.2.2.2.2.2.2, va_recv C.2.1 hPc (ci := ci) (q0 := q0) hc he, jpr C.2.2.2.2.2.2.2 (A' := A) (ws := wc) C.2.2.1 C.2.1 C.2.2.2.2.2.2.1 hPc hDc hS⟩ rfl hnA hl.1 hst (lv_room hcat) hdg hroom) hS (fun q _ h => hFc q h) hFc (fun r u t H1 locs1 ht hvm hw2 hB hz1 hk1 hS1 => ?_)
  obtain ⟨hP1, hK1, hD1⟩ := hB
  rw [ht] at hP1
  obtain ⟨hP2, hD2⟩ := jframe hP hD hFc hk1 hP1 hD1
  exact kk r u hw2 ls H1 locs1 hl hP2 hD2 hS1
theorem j_callVN_i (C : jC Ef X l d A cc nL Ts own rm ret) (nA : Nat) {post : Int32 → va_W → Prop} {b ci N : Nat} {fs : List Value} {Cn : String} {T : u_T} (q0 : Nat) (hM : jMi Ef d l y wy rmc mc ms (.ref b :: As) ws post) (he : ws[q0]? = some (b, .inr (ci, fs))) (hc : vwCl[ci]? = some (Cn, T, N)) {host : String} (hG : GoodIn Ts wy) (hlk : ∀ (A' : Nat → Prop) (s' : State) (H' : Heap), Ef A' s' H' → va_Nw (Cond.methodLinkNest own idx y host) s') (hini : Cond.initialized y.cls ∈ Ts) (hinst : Cond.instanceMethod y ∈ Ts) (hsel : Cond.selects Cn y y ∈ Ts) (hw : wy = Cond.code y bytes maxL ret' :: w') (hrc : rmc.cells = mc) (hrs : rmc.slots = ms) (hd : y.cls ≠ "java/lang/invoke/MethodHandle" ∧ y.cls ≠ "java/lang/invoke/VarHandle" ∧ (parseMethodDescriptor y.desc).map (fun d => d.parameters.length) = some nA) (hR : rmc.frames + 1 ≤ rm.frames ∧ 8 + (maxL + 11) + rmc.locals ≤ rm.locals) (hroom : cells + mc ≤ rm.cells ∧ slots + ms ≤ rm.slots) (hnA : As.length = nA) (hst : st0 = As.reverse ++ .ref b :: st) (hcat : (st.map fun v => v.category).sum ≤ 8) (hdg : decode cc pc = .ok (.invokevirtual idx, 3)) (kk : ∀ (r : Int32) (u : va_W), post r u → jJ X l d A nL (cells + mc) (slots + ms) u lv (pc + 3) (.int r :: st)) : jJ X l d A nL cells slots ws lv pc st0 := by
  obtain ⟨p, e, R, s, m, args, below, meth, c, Q⟩ := X
  intro ls H locs hl hP hD hS
  have hr : R = rm := C.2.2.2.1
  subst hr
  have hPc := hP
  have hDc := hD
  have hFc := jfree C.2.2.1 hDc hS
  refine va_calli (va_runVN (C := Cn) (As := As) (rest := st) C.1 (hM H.size) ⟨va_cnB nA C.1.2.2.2.2 hG hw hrc hrs (hlk _ _ _ C.2.2.2.2.2.2.1) (C.1.2.2.2.2 _ hini) hd hR, C.1.2.2.2.2 _ hinst, C.1.2.2.2.2 _ hsel⟩ ⟨jfb C.2.2.2.2.2.2.2, va_recv C.2.1 hPc (ci := ci) (q0 := q0) hc he, jpr C.2.2.2.2.2.2.2 (A' := A) (ws := ws) C.2.2.1 C.2.1 C.2.2.2.2.2.2.1 hPc hDc hS⟩ rfl hnA hl.1 hst (lv_room hcat) hdg hroom) hS (fun q _ h => hFc q h) hFc (fun r u t H1 locs1 ht hvm hw2 hB hz1 hk1 hS1 => ?_)
  obtain ⟨hP1, hK1, hD1⟩ := hB
  rw [ht] at hP1
  exact kk r u hw2 ls H1 locs1 hl hP1 (hD1.weaken (fun k q _ h => hFc q.1 h)) hS1
theorem j_callVN_iF (C : jC Ef X l d A cc nL Ts own rm ret) (nA : Nat) {post : Int32 → va_W → Prop} {b ci N : Nat} {fs : List Value} {Cn : String} {T : u_T} (q0 : Nat) {wa wc wb : va_W} (hws : ws = wa ++ wc ++ wb) (hM : jMi Ef d l y wy rmc mc ms (.ref b :: As) wc post) (he : wc[q0]? = some (b, .inr (ci, fs))) (hc : vwCl[ci]? = some (Cn, T, N)) {host : String} (hG : GoodIn Ts wy) (hlk : ∀ (A' : Nat → Prop) (s' : State) (H' : Heap), Ef A' s' H' → va_Nw (Cond.methodLinkNest own idx y host) s') (hini : Cond.initialized y.cls ∈ Ts) (hinst : Cond.instanceMethod y ∈ Ts) (hsel : Cond.selects Cn y y ∈ Ts) (hw : wy = Cond.code y bytes maxL ret' :: w') (hrc : rmc.cells = mc) (hrs : rmc.slots = ms) (hd : y.cls ≠ "java/lang/invoke/MethodHandle" ∧ y.cls ≠ "java/lang/invoke/VarHandle" ∧ (parseMethodDescriptor y.desc).map (fun d => d.parameters.length) = some nA) (hR : rmc.frames + 1 ≤ rm.frames ∧ 8 + (maxL + 11) + rmc.locals ≤ rm.locals) (hroom : cells + mc ≤ rm.cells ∧ slots + ms ≤ rm.slots) (hnA : As.length = nA) (hst : st0 = As.reverse ++ .ref b :: st) (hcat : (st.map fun v => v.category).sum ≤ 8) (hdg : decode cc pc = .ok (.invokevirtual idx, 3)) (kk : ∀ (r : Int32) (u : va_W), post r u → jJ X l d A nL (cells + mc) (slots + ms) (wa ++ u ++ wb) lv (pc + 3) (.int r :: st)) : jJ X l d A nL cells slots ws lv pc st0 := by
  obtain ⟨p, e, R, s, m, args, below, meth, c, Q⟩ := X
  intro ls H locs hl hP hD hS
  have hr : R = rm := C.2.2.2.1
  subst hr
  subst hws
  have hPc := (jap_P hP).2.1
  have hDc := jap_D hD
  have hFc := jfree C.2.2.1 hDc hS
  refine va_calli (va_runVN (C := Cn) (As := As) (rest := st) C.1 (hM H.size) ⟨va_cnB nA C.1.2.2.2.2 hG hw hrc hrs (hlk _ _ _ C.2.2.2.2.2.2.1) (C.1.2.2.2.2 _ hini) hd hR, C.1.2.2.2.2 _ hinst, C.1.2.2.2.2 _ hsel⟩ ⟨jfb C.2.2.2.2.2.2.2, va_recv C.2.1 hPc (ci := ci) (q0 := q0) hc he, jpr C.2.2.2.2.2.2.2 (A' := A) (ws := wc) C.2.2.1 C.2.1 C.2.2.2.2.2.2.1 hPc hDc hS⟩ rfl hnA hl.1 hst (lv_room hcat) hdg hroom) hS (fun q _ h => hFc q h) hFc (fun r u t H1 locs1 ht hvm hw2 hB hz1 hk1 hS1 => ?_)
  obtain ⟨hP1, hK1, hD1⟩ := hB
  rw [ht] at hP1
  obtain ⟨hP2, hD2⟩ := jframe hP hD hFc hk1 hP1 hD1
  exact kk r u hw2 ls H1 locs1 hl hP2 hD2 hS1
theorem j_callVN_l (C : jC Ef X l d A cc nL Ts own rm ret) (nA : Nat) {post : Int64 → va_W → Prop} {b ci N : Nat} {fs : List Value} {Cn : String} {T : u_T} (q0 : Nat) (hM : jMl Ef d l y wy rmc mc ms (.ref b :: As) ws post) (he : ws[q0]? = some (b, .inr (ci, fs))) (hc : vwCl[ci]? = some (Cn, T, N)) {host : String} (hG : GoodIn Ts wy) (hlk : ∀ (A' : Nat → Prop) (s' : State) (H' : Heap), Ef A' s' H' → va_Nw (Cond.methodLinkNest own idx y host) s') (hini : Cond.initialized y.cls ∈ Ts) (hinst : Cond.instanceMethod y ∈ Ts) (hsel : Cond.selects Cn y y ∈ Ts) (hw : wy = Cond.code y bytes maxL ret' :: w') (hrc : rmc.cells = mc) (hrs : rmc.slots = ms) (hd : y.cls ≠ "java/lang/invoke/MethodHandle" ∧ y.cls ≠ "java/lang/invoke/VarHandle" ∧ (parseMethodDescriptor y.desc).map (fun d => d.parameters.length) = some nA) (hR : rmc.frames + 1 ≤ rm.frames ∧ 8 + (maxL + 11) + rmc.locals ≤ rm.locals) (hroom : cells + mc ≤ rm.cells ∧ slots + ms ≤ rm.slots) (hnA : As.length = nA) (hst : st0 = As.reverse ++ .ref b :: st) (hcat : (st.map fun v => v.category).sum ≤ 8) (hdg : decode cc pc = .ok (.invokevirtual idx, 3)) (kk : ∀ (r : Int64) (u : va_W), post r u → jJ X l d A nL (cells + mc) (slots + ms) u lv (pc + 3) (.long r :: st)) : jJ X l d A nL cells slots ws lv pc st0 := by
  obtain ⟨p, e, R, s, m, args, below, meth, c, Q⟩ := X
  intro ls H locs hl hP hD hS
  have hr : R = rm := C.2.2.2.1
  subst hr
  have hPc := hP
  have hDc := hD
  have hFc := jfree C.2.2.1 hDc hS
  refine va_calll (va_runVN (C := Cn) (As := As) (rest := st) C.1 (hM H.size) ⟨va_cnB nA C.1.2.2.2.2 hG hw hrc hrs (hlk _ _ _ C.2.2.2.2.2.2.1) (C.1.2.2.2.2 _ hini) hd hR, C.1.2.2.2.2 _ hinst, C.1.2.2.2.2 _ hsel⟩ ⟨jfb C.2.2.2.2.2.2.2, va_recv C.2.1 hPc (ci := ci) (q0 := q0) hc he, jpr C.2.2.2.2.2.2.2 (A' := A) (ws := ws) C.2.2.1 C.2.1 C.2.2.2.2.2.2.1 hPc hDc hS⟩ rfl hnA hl.1 hst (lv_room hcat) hdg hroom) hS (fun q _ h => hFc q h) hFc (fun r u t H1 locs1 ht hvm hw2 hB hz1 hk1 hS1 => ?_)
  obtain ⟨hP1, hK1, hD1⟩ := hB
  rw [ht] at hP1
  exact kk r u hw2 ls H1 locs1 hl hP1 (hD1.weaken (fun k q _ h => hFc q.1 h)) hS1
theorem j_callVN_lF (C : jC Ef X l d A cc nL Ts own rm ret) (nA : Nat) {post : Int64 → va_W → Prop} {b ci N : Nat} {fs : List Value} {Cn : String} {T : u_T} (q0 : Nat) {wa wc wb : va_W} (hws : ws = wa ++ wc ++ wb) (hM : jMl Ef d l y wy rmc mc ms (.ref b :: As) wc post) (he : wc[q0]? = some (b, .inr (ci, fs))) (hc : vwCl[ci]? = some (Cn, T, N)) {host : String} (hG : GoodIn Ts wy) (hlk : ∀ (A' : Nat → Prop) (s' : State) (H' : Heap), Ef A' s' H' → va_Nw (Cond.methodLinkNest own idx y host) s') (hini : Cond.initialized y.cls ∈ Ts) (hinst : Cond.instanceMethod y ∈ Ts) (hsel : Cond.selects Cn y y ∈ Ts) (hw : wy = Cond.code y bytes maxL ret' :: w') (hrc : rmc.cells = mc) (hrs : rmc.slots = ms) (hd : y.cls ≠ "java/lang/invoke/MethodHandle" ∧ y.cls ≠ "java/lang/invoke/VarHandle" ∧ (parseMethodDescriptor y.desc).map (fun d => d.parameters.length) = some nA) (hR : rmc.frames + 1 ≤ rm.frames ∧ 8 + (maxL + 11) + rmc.locals ≤ rm.locals) (hroom : cells + mc ≤ rm.cells ∧ slots + ms ≤ rm.slots) (hnA : As.length = nA) (hst : st0 = As.reverse ++ .ref b :: st) (hcat : (st.map fun v => v.category).sum ≤ 8) (hdg : decode cc pc = .ok (.invokevirtual idx, 3)) (kk : ∀ (r : Int64) (u : va_W), post r u → jJ X l d A nL (cells + mc) (slots + ms) (wa ++ u ++ wb) lv (pc + 3) (.long r :: st)) : jJ X l d A nL cells slots ws lv pc st0 := by
  obtain ⟨p, e, R, s, m, args, below, meth, c, Q⟩ := X
  intro ls H locs hl hP hD hS
  have hr : R = rm := C.2.2.2.1
  subst hr
  subst hws
  have hPc := (jap_P hP).2.1
  have hDc := jap_D hD
  have hFc := jfree C.2.2.1 hDc hS
  refine va_calll (va_runVN (C := Cn) (As := As) (rest := st) C.1 (hM H.size) ⟨va_cnB nA C.1.2.2.2.2 hG hw hrc hrs (hlk _ _ _ C.2.2.2.2.2.2.1) (C.1.2.2.2.2 _ hini) hd hR, C.1.2.2.2.2 _ hinst, C.1.2.2.2.2 _ hsel⟩ ⟨jfb C.2.2.2.2.2.2.2, va_recv C.2.1 hPc (ci := ci) (q0 := q0) hc he, jpr C.2.2.2.2.2.2.2 (A' := A) (ws := wc) C.2.2.1 C.2.1 C.2.2.2.2.2.2.1 hPc hDc hS⟩ rfl hnA hl.1 hst (lv_room hcat) hdg hroom) hS (fun q _ h => hFc q h) hFc (fun r u t H1 locs1 ht hvm hw2 hB hz1 hk1 hS1 => ?_)
  obtain ⟨hP1, hK1, hD1⟩ := hB
  rw [ht] at hP1
  obtain ⟨hP2, hD2⟩ := jframe hP hD hFc hk1 hP1 hD1
  exact kk r u hw2 ls H1 locs1 hl hP2 hD2 hS1
theorem j_callVN_v (C : jC Ef X l d A cc nL Ts own rm ret) (nA : Nat) {post : va_W → Prop} {b ci N : Nat} {fs : List Value} {Cn : String} {T : u_T} (q0 : Nat) (hM : jMv Ef d l y wy rmc mc ms (.ref b :: As) ws post) (he : ws[q0]? = some (b, .inr (ci, fs))) (hc : vwCl[ci]? = some (Cn, T, N)) {host : String} (hG : GoodIn Ts wy) (hlk : ∀ (A' : Nat → Prop) (s' : State) (H' : Heap), Ef A' s' H' → va_Nw (Cond.methodLinkNest own idx y host) s') (hini : Cond.initialized y.cls ∈ Ts) (hinst : Cond.instanceMethod y ∈ Ts) (hsel : Cond.selects Cn y y ∈ Ts) (hw : wy = Cond.code y bytes maxL ret' :: w') (hrc : rmc.cells = mc) (hrs : rmc.slots = ms) (hd : y.cls ≠ "java/lang/invoke/MethodHandle" ∧ y.cls ≠ "java/lang/invoke/VarHandle" ∧ (parseMethodDescriptor y.desc).map (fun d => d.parameters.length) = some nA) (hR : rmc.frames + 1 ≤ rm.frames ∧ 8 + (maxL + 11) + rmc.locals ≤ rm.locals) (hroom : cells + mc ≤ rm.cells ∧ slots + ms ≤ rm.slots) (hnA : As.length = nA) (hst : st0 = As.reverse ++ .ref b :: st) (hcat : (st.map fun v => v.category).sum ≤ 8) (hdg : decode cc pc = .ok (.invokevirtual idx, 3)) (kk : ∀ (u : va_W), post u → jJ X l d A nL (cells + mc) (slots + ms) u lv (pc + 3) st) : jJ X l d A nL cells slots ws lv pc st0 := by
  obtain ⟨p, e, R, s, m, args, below, meth, c, Q⟩ := X
  intro ls H locs hl hP hD hS
  have hr : R = rm := C.2.2.2.1
  subst hr
  have hPc := hP
  have hDc := hD
  have hFc := jfree C.2.2.1 hDc hS
  refine va_callv (va_runVN (C := Cn) (As := As) (rest := st) C.1 (hM H.size) ⟨va_cnB nA C.1.2.2.2.2 hG hw hrc hrs (hlk _ _ _ C.2.2.2.2.2.2.1) (C.1.2.2.2.2 _ hini) hd hR, C.1.2.2.2.2 _ hinst, C.1.2.2.2.2 _ hsel⟩ ⟨jfb C.2.2.2.2.2.2.2, va_recv C.2.1 hPc (ci := ci) (q0 := q0) hc he, jpr C.2.2.2.2.2.2.2 (A' := A) (ws := ws) C.2.2.1 C.2.1 C.2.2.2.2.2.2.1 hPc hDc hS⟩ rfl hnA hl.1 hst (lv_room hcat) hdg hroom) hS (fun q _ h => hFc q h) hFc (fun u t H1 locs1 ht hvm hw2 hB hz1 hk1 hS1 => ?_)
  obtain ⟨hP1, hK1, hD1⟩ := hB
  rw [ht] at hP1
  exact kk u hw2 ls H1 locs1 hl hP1 (hD1.weaken (fun k q _ h => hFc q.1 h)) hS1
theorem j_callVN_vF (C : jC Ef X l d A cc nL Ts own rm ret) (nA : Nat) {post : va_W → Prop} {b ci N : Nat} {fs : List Value} {Cn : String} {T : u_T} (q0 : Nat) {wa wc wb : va_W} (hws : ws = wa ++ wc ++ wb) (hM : jMv Ef d l y wy rmc mc ms (.ref b :: As) wc post) (he : wc[q0]? = some (b, .inr (ci, fs))) (hc : vwCl[ci]? = some (Cn, T, N)) {host : String} (hG : GoodIn Ts wy) (hlk : ∀ (A' : Nat → Prop) (s' : State) (H' : Heap), Ef A' s' H' → va_Nw (Cond.methodLinkNest own idx y host) s') (hini : Cond.initialized y.cls ∈ Ts) (hinst : Cond.instanceMethod y ∈ Ts) (hsel : Cond.selects Cn y y ∈ Ts) (hw : wy = Cond.code y bytes maxL ret' :: w') (hrc : rmc.cells = mc) (hrs : rmc.slots = ms) (hd : y.cls ≠ "java/lang/invoke/MethodHandle" ∧ y.cls ≠ "java/lang/invoke/VarHandle" ∧ (parseMethodDescriptor y.desc).map (fun d => d.parameters.length) = some nA) (hR : rmc.frames + 1 ≤ rm.frames ∧ 8 + (maxL + 11) + rmc.locals ≤ rm.locals) (hroom : cells + mc ≤ rm.cells ∧ slots + ms ≤ rm.slots) (hnA : As.length = nA) (hst : st0 = As.reverse ++ .ref b :: st) (hcat : (st.map fun v => v.category).sum ≤ 8) (hdg : decode cc pc = .ok (.invokevirtual idx, 3)) (kk : ∀ (u : va_W), post u → jJ X l d A nL (cells + mc) (slots + ms) (wa ++ u ++ wb) lv (pc + 3) st) : jJ X l d A nL cells slots ws lv pc st0 := by
  obtain ⟨p, e, R, s, m, args, below, meth, c, Q⟩ := X
  intro ls H locs hl hP hD hS
  have hr : R = rm := C.2.2.2.1
  subst hr
  subst hws
  have hPc := (jap_P hP).2.1
  have hDc := jap_D hD
  have hFc := jfree C.2.2.1 hDc hS
  refine va_callv (va_runVN (C := Cn) (As := As) (rest := st) C.1 (hM H.size) ⟨va_cnB nA C.1.2.2.2.2 hG hw hrc hrs (hlk _ _ _ C.2.2.2.2.2.2.1) (C.1.2.2.2.2 _ hini) hd hR, C.1.2.2.2.2 _ hinst, C.1.2.2.2.2 _ hsel⟩ ⟨jfb C.2.2.2.2.2.2.2, va_recv C.2.1 hPc (ci := ci) (q0 := q0) hc he, jpr C.2.2.2.2.2.2.2 (A' := A) (ws := wc) C.2.2.1 C.2.1 C.2.2.2.2.2.2.1 hPc hDc hS⟩ rfl hnA hl.1 hst (lv_room hcat) hdg hroom) hS (fun q _ h => hFc q h) hFc (fun u t H1 locs1 ht hvm hw2 hB hz1 hk1 hS1 => ?_)
  obtain ⟨hP1, hK1, hD1⟩ := hB
  rw [ht] at hP1
  obtain ⟨hP2, hD2⟩ := jframe hP hD hFc hk1 hP1 hD1
  exact kk u hw2 ls H1 locs1 hl hP2 hD2 hS1
theorem j_callVN_q (C : jC Ef X l d A cc nL Ts own rm ret) (nA : Nat) {post : Option Nat → va_W → Prop} {b ci N : Nat} {fs : List Value} {Cn : String} {T : u_T} (q0 : Nat) (hM : jMq Ef d l y wy rmc mc ms (.ref b :: As) ws post) (he : ws[q0]? = some (b, .inr (ci, fs))) (hc : vwCl[ci]? = some (Cn, T, N)) {host : String} (hG : GoodIn Ts wy) (hlk : ∀ (A' : Nat → Prop) (s' : State) (H' : Heap), Ef A' s' H' → va_Nw (Cond.methodLinkNest own idx y host) s') (hini : Cond.initialized y.cls ∈ Ts) (hinst : Cond.instanceMethod y ∈ Ts) (hsel : Cond.selects Cn y y ∈ Ts) (hw : wy = Cond.code y bytes maxL ret' :: w') (hrc : rmc.cells = mc) (hrs : rmc.slots = ms) (hd : y.cls ≠ "java/lang/invoke/MethodHandle" ∧ y.cls ≠ "java/lang/invoke/VarHandle" ∧ (parseMethodDescriptor y.desc).map (fun d => d.parameters.length) = some nA) (hR : rmc.frames + 1 ≤ rm.frames ∧ 8 + (maxL + 11) + rmc.locals ≤ rm.locals) (hroom : cells + mc ≤ rm.cells ∧ slots + ms ≤ rm.slots) (hnA : As.length = nA) (hst : st0 = As.reverse ++ .ref b :: st) (hcat : (st.map fun v => v.category).sum ≤ 8) (hdg : decode cc pc = .ok (.invokevirtual idx, 3)) (kk : ∀ (r : Option Nat) (u : va_W), post r u → jJ X l d A nL (cells + mc) (slots + ms) u lv (pc + 3) (va_rf r :: st)) : jJ X l d A nL cells slots ws lv pc st0 := by
  obtain ⟨p, e, R, s, m, args, below, meth, c, Q⟩ := X
  intro ls H locs hl hP hD hS
  have hr : R = rm := C.2.2.2.1
  subst hr
  have hPc := hP
  have hDc := hD
  have hFc := jfree C.2.2.1 hDc hS
  refine va_callq (va_runVN (C := Cn) (As := As) (rest := st) C.1 (hM H.size) ⟨va_cnB nA C.1.2.2.2.2 hG hw hrc hrs (hlk _ _ _ C.2.2.2.2.2.2.1) (C.1.2.2.2.2 _ hini) hd hR, C.1.2.2.2.2 _ hinst, C.1.2.2.2.2 _ hsel⟩ ⟨jfb C.2.2.2.2.2.2.2, va_recv C.2.1 hPc (ci := ci) (q0 := q0) hc he, jpr C.2.2.2.2.2.2.2 (A' := A) (ws := ws) C.2.2.1 C.2.1 C.2.2.2.2.2.2.1 hPc hDc hS⟩ rfl hnA hl.1 hst (lv_room hcat) hdg hroom) hS (fun q _ h => hFc q h) hFc (fun r u t H1 locs1 ht hvm hw2 hB hz1 hk1 hS1 => ?_)
  obtain ⟨hP1, hK1, hD1⟩ := hB
  rw [ht] at hP1
  exact kk r u hw2 ls H1 locs1 hl hP1 (hD1.weaken (fun k q _ h => hFc q.1 h)) hS1
theorem j_callVN_qF (C : jC Ef X l d A cc nL Ts own rm ret) (nA : Nat) {post : Option Nat → va_W → Prop} {b ci N : Nat} {fs : List Value} {Cn : String} {T : u_T} (q0 : Nat) {wa wc wb : va_W} (hws : ws = wa ++ wc ++ wb) (hM : jMq Ef d l y wy rmc mc ms (.ref b :: As) wc post) (he : wc[q0]? = some (b, .inr (ci, fs))) (hc : vwCl[ci]? = some (Cn, T, N)) {host : String} (hG : GoodIn Ts wy) (hlk : ∀ (A' : Nat → Prop) (s' : State) (H' : Heap), Ef A' s' H' → va_Nw (Cond.methodLinkNest own idx y host) s') (hini : Cond.initialized y.cls ∈ Ts) (hinst : Cond.instanceMethod y ∈ Ts) (hsel : Cond.selects Cn y y ∈ Ts) (hw : wy = Cond.code y bytes maxL ret' :: w') (hrc : rmc.cells = mc) (hrs : rmc.slots = ms) (hd : y.cls ≠ "java/lang/invoke/MethodHandle" ∧ y.cls ≠ "java/lang/invoke/VarHandle" ∧ (parseMethodDescriptor y.desc).map (fun d => d.parameters.length) = some nA) (hR : rmc.frames + 1 ≤ rm.frames ∧ 8 + (maxL + 11) + rmc.locals ≤ rm.locals) (hroom : cells + mc ≤ rm.cells ∧ slots + ms ≤ rm.slots) (hnA : As.length = nA) (hst : st0 = As.reverse ++ .ref b :: st) (hcat : (st.map fun v => v.category).sum ≤ 8) (hdg : decode cc pc = .ok (.invokevirtual idx, 3)) (kk : ∀ (r : Option Nat) (u : va_W), post r u → jJ X l d A nL (cells + mc) (slots + ms) (wa ++ u ++ wb) lv (pc + 3) (va_rf r :: st)) : jJ X l d A nL cells slots ws lv pc st0 := by
  obtain ⟨p, e, R, s, m, args, below, meth, c, Q⟩ := X
  intro ls H locs hl hP hD hS
  have hr : R = rm := C.2.2.2.1
  subst hr
  subst hws
  have hPc := (jap_P hP).2.1
  have hDc := jap_D hD
  have hFc := jfree C.2.2.1 hDc hS
  refine va_callq (va_runVN (C := Cn) (As := As) (rest := st) C.1 (hM H.size) ⟨va_cnB nA C.1.2.2.2.2 hG hw hrc hrs (hlk _ _ _ C.2.2.2.2.2.2.1) (C.1.2.2.2.2 _ hini) hd hR, C.1.2.2.2.2 _ hinst, C.1.2.2.2.2 _ hsel⟩ ⟨jfb C.2.2.2.2.2.2.2, va_recv C.2.1 hPc (ci := ci) (q0 := q0) hc he, jpr C.2.2.2.2.2.2.2 (A' := A) (ws := wc) C.2.2.1 C.2.1 C.2.2.2.2.2.2.1 hPc hDc hS⟩ rfl hnA hl.1 hst (lv_room hcat) hdg hroom) hS (fun q _ h => hFc q h) hFc (fun r u t H1 locs1 ht hvm hw2 hB hz1 hk1 hS1 => ?_)
  obtain ⟨hP1, hK1, hD1⟩ := hB
  rw [ht] at hP1
  obtain ⟨hP2, hD2⟩ := jframe hP hD hFc hk1 hP1 hD1
  exact kk r u hw2 ls H1 locs1 hl hP2 hD2 hS1
theorem j_callS_i (C : jC Ef X l d A cc nL Ts own rm ret) (nA : Nat) {post : Int32 → va_W → Prop} (hM : jMi Ef d l y wy rmc mc ms As ws post) (hG : GoodIn Ts (wsS own idx y wy)) (hw : wy = Cond.code y bytes maxL ret' :: w') (hrc : rmc.cells = mc) (hrs : rmc.slots = ms) (hd : y.cls = own ∧ y.cls ≠ "java/lang/invoke/MethodHandle" ∧ y.cls ≠ "java/lang/invoke/VarHandle" ∧ (parseMethodDescriptor y.desc).map (fun d => d.parameters.length) = some nA) (hR : rmc.frames + 1 ≤ rm.frames ∧ 8 + (maxL + 11) + rmc.locals ≤ rm.locals) (hroom : cells + mc ≤ rm.cells ∧ slots + ms ≤ rm.slots) (hnA : As.length = nA) (hst : st0 = As.reverse ++ st) (hcat : (st.map fun v => v.category).sum ≤ 8) (hdg : decode cc pc = .ok (.invokestatic idx, 3)) (kk : ∀ (r : Int32) (u : va_W), post r u → jJ X l d A nL (cells + mc) (slots + ms) u lv (pc + 3) (.int r :: st)) : jJ X l d A nL cells slots ws lv pc st0 := by
  obtain ⟨p, e, R, s, m, args, below, meth, c, Q⟩ := X
  intro ls H locs hl hP hD hS
  have hr : R = rm := C.2.2.2.1
  subst hr
  have hPc := hP
  have hDc := hD
  have hFc := jfree C.2.2.1 hDc hS
  refine va_calli (va_runS (As := As) (rest := st) C.1 (hM H.size) (cwS nA C.1.2.2.2.2 hG hw hrc hrs hd hR) ⟨jfb C.2.2.2.2.2.2.2, jpr C.2.2.2.2.2.2.2 (A' := A) (ws := ws) C.2.2.1 C.2.1 C.2.2.2.2.2.2.1 hPc hDc hS⟩ rfl hnA hl.1 hst (lv_room hcat) hdg hroom) hS (fun q _ h => hFc q h) hFc (fun r u t H1 locs1 ht hvm hw2 hB hz1 hk1 hS1 => ?_)
  obtain ⟨hP1, hK1, hD1⟩ := hB
  rw [ht] at hP1
  exact kk r u hw2 ls H1 locs1 hl hP1 (hD1.weaken (fun k q _ h => hFc q.1 h)) hS1
theorem j_callS_iF (C : jC Ef X l d A cc nL Ts own rm ret) (nA : Nat) {post : Int32 → va_W → Prop} {wa wc wb : va_W} (hws : ws = wa ++ wc ++ wb) (hM : jMi Ef d l y wy rmc mc ms As wc post) (hG : GoodIn Ts (wsS own idx y wy)) (hw : wy = Cond.code y bytes maxL ret' :: w') (hrc : rmc.cells = mc) (hrs : rmc.slots = ms) (hd : y.cls = own ∧ y.cls ≠ "java/lang/invoke/MethodHandle" ∧ y.cls ≠ "java/lang/invoke/VarHandle" ∧ (parseMethodDescriptor y.desc).map (fun d => d.parameters.length) = some nA) (hR : rmc.frames + 1 ≤ rm.frames ∧ 8 + (maxL + 11) + rmc.locals ≤ rm.locals) (hroom : cells + mc ≤ rm.cells ∧ slots + ms ≤ rm.slots) (hnA : As.length = nA) (hst : st0 = As.reverse ++ st) (hcat : (st.map fun v => v.category).sum ≤ 8) (hdg : decode cc pc = .ok (.invokestatic idx, 3)) (kk : ∀ (r : Int32) (u : va_W), post r u → jJ X l d A nL (cells + mc) (slots + ms) (wa ++ u ++ wb) lv (pc + 3) (.int r :: st)) : jJ X l d A nL cells slots ws lv pc st0 := by
  obtain ⟨p, e, R, s, m, args, below, meth, c, Q⟩ := X
  intro ls H locs hl hP hD hS
  have hr : R = rm := C.2.2.2.1
  subst hr
  subst hws
  have hPc := (jap_P hP).2.1
  have hDc := jap_D hD
  have hFc := jfree C.2.2.1 hDc hS
  refine va_calli (va_runS (As := As) (rest := st) C.1 (hM H.size) (cwS nA C.1.2.2.2.2 hG hw hrc hrs hd hR) ⟨jfb C.2.2.2.2.2.2.2, jpr C.2.2.2.2.2.2.2 (A' := A) (ws := wc) C.2.2.1 C.2.1 C.2.2.2.2.2.2.1 hPc hDc hS⟩ rfl hnA hl.1 hst (lv_room hcat) hdg hroom) hS (fun q _ h => hFc q h) hFc (fun r u t H1 locs1 ht hvm hw2 hB hz1 hk1 hS1 => ?_)
  obtain ⟨hP1, hK1, hD1⟩ := hB
  rw [ht] at hP1
  obtain ⟨hP2, hD2⟩ := jframe hP hD hFc hk1 hP1 hD1
  exact kk r u hw2 ls H1 locs1 hl hP2 hD2 hS1
theorem j_callS_l (C : jC Ef X l d A cc nL Ts own rm ret) (nA : Nat) {post : Int64 → va_W → Prop} (hM : jMl Ef d l y wy rmc mc ms As ws post) (hG : GoodIn Ts (wsS own idx y wy)) (hw : wy = Cond.code y bytes maxL ret' :: w') (hrc : rmc.cells = mc) (hrs : rmc.slots = ms) (hd : y.cls = own ∧ y.cls ≠ "java/lang/invoke/MethodHandle" ∧ y.cls ≠ "java/lang/invoke/VarHandle" ∧ (parseMethodDescriptor y.desc).map (fun d => d.parameters.length) = some nA) (hR : rmc.frames + 1 ≤ rm.frames ∧ 8 + (maxL + 11) + rmc.locals ≤ rm.locals) (hroom : cells + mc ≤ rm.cells ∧ slots + ms ≤ rm.slots) (hnA : As.length = nA) (hst : st0 = As.reverse ++ st) (hcat : (st.map fun v => v.category).sum ≤ 8) (hdg : decode cc pc = .ok (.invokestatic idx, 3)) (kk : ∀ (r : Int64) (u : va_W), post r u → jJ X l d A nL (cells + mc) (slots + ms) u lv (pc + 3) (.long r :: st)) : jJ X l d A nL cells slots ws lv pc st0 := by
  obtain ⟨p, e, R, s, m, args, below, meth, c, Q⟩ := X
  intro ls H locs hl hP hD hS
  have hr : R = rm := C.2.2.2.1
  subst hr
  have hPc := hP
  have hDc := hD
  have hFc := jfree C.2.2.1 hDc hS
  refine va_calll (va_runS (As := As) (rest := st) C.1 (hM H.size) (cwS nA C.1.2.2.2.2 hG hw hrc hrs hd hR) ⟨jfb C.2.2.2.2.2.2.2, jpr C.2.2.2.2.2.2.2 (A' := A) (ws := ws) C.2.2.1 C.2.1 C.2.2.2.2.2.2.1 hPc hDc hS⟩ rfl hnA hl.1 hst (lv_room hcat) hdg hroom) hS (fun q _ h => hFc q h) hFc (fun r u t H1 locs1 ht hvm hw2 hB hz1 hk1 hS1 => ?_)
  obtain ⟨hP1, hK1, hD1⟩ := hB
  rw [ht] at hP1
  exact kk r u hw2 ls H1 locs1 hl hP1 (hD1.weaken (fun k q _ h => hFc q.1 h)) hS1
theorem j_callS_lF (C : jC Ef X l d A cc nL Ts own rm ret) (nA : Nat) {post : Int64 → va_W → Prop} {wa wc wb : va_W} (hws : ws = wa ++ wc ++ wb) (hM : jMl Ef d l y wy rmc mc ms As wc post) (hG : GoodIn Ts (wsS own idx y wy)) (hw : wy = Cond.code y bytes maxL ret' :: w') (hrc : rmc.cells = mc) (hrs : rmc.slots = ms) (hd : y.cls = own ∧ y.cls ≠ "java/lang/invoke/MethodHandle" ∧ y.cls ≠ "java/lang/invoke/VarHandle" ∧ (parseMethodDescriptor y.desc).map (fun d => d.parameters.length) = some nA) (hR : rmc.frames + 1 ≤ rm.frames ∧ 8 + (maxL + 11) + rmc.locals ≤ rm.locals) (hroom : cells + mc ≤ rm.cells ∧ slots + ms ≤ rm.slots) (hnA : As.length = nA) (hst : st0 = As.reverse ++ st) (hcat : (st.map fun v => v.category).sum ≤ 8) (hdg : decode cc pc = .ok (.invokestatic idx, 3)) (kk : ∀ (r : Int64) (u : va_W), post r u → jJ X l d A nL (cells + mc) (slots + ms) (wa ++ u ++ wb) lv (pc + 3) (.long r :: st)) : jJ X l d A nL cells slots ws lv pc st0 := by
  obtain ⟨p, e, R, s, m, args, below, meth, c, Q⟩ := X
  intro ls H locs hl hP hD hS
  have hr : R = rm := C.2.2.2.1
  subst hr
  subst hws
  have hPc := (jap_P hP).2.1
  have hDc := jap_D hD
  have hFc := jfree C.2.2.1 hDc hS
  refine va_calll (va_runS (As := As) (rest := st) C.1 (hM H.size) (cwS nA C.1.2.2.2.2 hG hw hrc hrs hd hR) ⟨jfb C.2.2.2.2.2.2.2, jpr C.2.2.2.2.2.2.2 (A' := A) (ws := wc) C.2.2.1 C.2.1 C.2.2.2.2.2.2.1 hPc hDc hS⟩ rfl hnA hl.1 hst (lv_room hcat) hdg hroom) hS (fun q _ h => hFc q h) hFc (fun r u t H1 locs1 ht hvm hw2 hB hz1 hk1 hS1 => ?_)
  obtain ⟨hP1, hK1, hD1⟩ := hB
  rw [ht] at hP1
  obtain ⟨hP2, hD2⟩ := jframe hP hD hFc hk1 hP1 hD1
  exact kk r u hw2 ls H1 locs1 hl hP2 hD2 hS1
theorem j_callS_v (C : jC Ef X l d A cc nL Ts own rm ret) (nA : Nat) {post : va_W → Prop} (hM : jMv Ef d l y wy rmc mc ms As ws post) (hG : GoodIn Ts (wsS own idx y wy)) (hw : wy = Cond.code y bytes maxL ret' :: w') (hrc : rmc.cells = mc) (hrs : rmc.slots = ms) (hd : y.cls = own ∧ y.cls ≠ "java/lang/invoke/MethodHandle" ∧ y.cls ≠ "java/lang/invoke/VarHandle" ∧ (parseMethodDescriptor y.desc).map (fun d => d.parameters.length) = some nA) (hR : rmc.frames + 1 ≤ rm.frames ∧ 8 + (maxL + 11) + rmc.locals ≤ rm.locals) (hroom : cells + mc ≤ rm.cells ∧ slots + ms ≤ rm.slots) (hnA : As.length = nA) (hst : st0 = As.reverse ++ st) (hcat : (st.map fun v => v.category).sum ≤ 8) (hdg : decode cc pc = .ok (.invokestatic idx, 3)) (kk : ∀ (u : va_W), post u → jJ X l d A nL (cells + mc) (slots + ms) u lv (pc + 3) st) : jJ X l d A nL cells slots ws lv pc st0 := by
  obtain ⟨p, e, R, s, m, args, below, meth, c, Q⟩ := X
  intro ls H locs hl hP hD hS
  have hr : R = rm := C.2.2.2.1
  subst hr
  have hPc := hP
  have hDc := hD
  have hFc := jfree C.2.2.1 hDc hS
  refine va_callv (va_runS (As := As) (rest := st) C.1 (hM H.size) (cwS nA C.1.2.2.2.2 hG hw hrc hrs hd hR) ⟨jfb C.2.2.2.2.2.2.2, jpr C.2.2.2.2.2.2.2 (A' := A) (ws := ws) C.2.2.1 C.2.1 C.2.2.2.2.2.2.1 hPc hDc hS⟩ rfl hnA hl.1 hst (lv_room hcat) hdg hroom) hS (fun q _ h => hFc q h) hFc (fun u t H1 locs1 ht hvm hw2 hB hz1 hk1 hS1 => ?_)
  obtain ⟨hP1, hK1, hD1⟩ := hB
  rw [ht] at hP1
  exact kk u hw2 ls H1 locs1 hl hP1 (hD1.weaken (fun k q _ h => hFc q.1 h)) hS1
theorem j_callS_vF (C : jC Ef X l d A cc nL Ts own rm ret) (nA : Nat) {post : va_W → Prop} {wa wc wb : va_W} (hws : ws = wa ++ wc ++ wb) (hM : jMv Ef d l y wy rmc mc ms As wc post) (hG : GoodIn Ts (wsS own idx y wy)) (hw : wy = Cond.code y bytes maxL ret' :: w') (hrc : rmc.cells = mc) (hrs : rmc.slots = ms) (hd : y.cls = own ∧ y.cls ≠ "java/lang/invoke/MethodHandle" ∧ y.cls ≠ "java/lang/invoke/VarHandle" ∧ (parseMethodDescriptor y.desc).map (fun d => d.parameters.length) = some nA) (hR : rmc.frames + 1 ≤ rm.frames ∧ 8 + (maxL + 11) + rmc.locals ≤ rm.locals) (hroom : cells + mc ≤ rm.cells ∧ slots + ms ≤ rm.slots) (hnA : As.length = nA) (hst : st0 = As.reverse ++ st) (hcat : (st.map fun v => v.category).sum ≤ 8) (hdg : decode cc pc = .ok (.invokestatic idx, 3)) (kk : ∀ (u : va_W), post u → jJ X l d A nL (cells + mc) (slots + ms) (wa ++ u ++ wb) lv (pc + 3) st) : jJ X l d A nL cells slots ws lv pc st0 := by
  obtain ⟨p, e, R, s, m, args, below, meth, c, Q⟩ := X
  intro ls H locs hl hP hD hS
  have hr : R = rm := C.2.2.2.1
  subst hr
  subst hws
  have hPc := (jap_P hP).2.1
  have hDc := jap_D hD
  have hFc := jfree C.2.2.1 hDc hS
  refine va_callv (va_runS (As := As) (rest := st) C.1 (hM H.size) (cwS nA C.1.2.2.2.2 hG hw hrc hrs hd hR) ⟨jfb C.2.2.2.2.2.2.2, jpr C.2.2.2.2.2.2.2 (A' := A) (ws := wc) C.2.2.1 C.2.1 C.2.2.2.2.2.2.1 hPc hDc hS⟩ rfl hnA hl.1 hst (lv_room hcat) hdg hroom) hS (fun q _ h => hFc q h) hFc (fun u t H1 locs1 ht hvm hw2 hB hz1 hk1 hS1 => ?_)
  obtain ⟨hP1, hK1, hD1⟩ := hB
  rw [ht] at hP1
  obtain ⟨hP2, hD2⟩ := jframe hP hD hFc hk1 hP1 hD1
  exact kk u hw2 ls H1 locs1 hl hP2 hD2 hS1
theorem j_callS_q (C : jC Ef X l d A cc nL Ts own rm ret) (nA : Nat) {post : Option Nat → va_W → Prop} (hM : jMq Ef d l y wy rmc mc ms As ws post) (hG : GoodIn Ts (wsS own idx y wy)) (hw : wy = Cond.code y bytes maxL ret' :: w') (hrc : rmc.cells = mc) (hrs : rmc.slots = ms) (hd : y.cls = own ∧ y.cls ≠ "java/lang/invoke/MethodHandle" ∧ y.cls ≠ "java/lang/invoke/VarHandle" ∧ (parseMethodDescriptor y.desc).map (fun d => d.parameters.length) = some nA) (hR : rmc.frames + 1 ≤ rm.frames ∧ 8 + (maxL + 11) + rmc.locals ≤ rm.locals) (hroom : cells + mc ≤ rm.cells ∧ slots + ms ≤ rm.slots) (hnA : As.length = nA) (hst : st0 = As.reverse ++ st) (hcat : (st.map fun v => v.category).sum ≤ 8) (hdg : decode cc pc = .ok (.invokestatic idx, 3)) (kk : ∀ (r : Option Nat) (u : va_W), post r u → jJ X l d A nL (cells + mc) (slots + ms) u lv (pc + 3) (va_rf r :: st)) : jJ X l d A nL cells slots ws lv pc st0 := by
  obtain ⟨p, e, R, s, m, args, below, meth, c, Q⟩ := X
  intro ls H locs hl hP hD hS
  have hr : R = rm := C.2.2.2.1
  subst hr
  have hPc := hP
  have hDc := hD
  have hFc := jfree C.2.2.1 hDc hS
  refine va_callq (va_runS (As := As) (rest := st) C.1 (hM H.size) (cwS nA C.1.2.2.2.2 hG hw hrc hrs hd hR) ⟨jfb C.2.2.2.2.2.2.2, jpr C.2.2.2.2.2.2.2 (A' := A) (ws := ws) C.2.2.1 C.2.1 C.2.2.2.2.2.2.1 hPc hDc hS⟩ rfl hnA hl.1 hst (lv_room hcat) hdg hroom) hS (fun q _ h => hFc q h) hFc (fun r u t H1 locs1 ht hvm hw2 hB hz1 hk1 hS1 => ?_)
  obtain ⟨hP1, hK1, hD1⟩ := hB
  rw [ht] at hP1
  exact kk r u hw2 ls H1 locs1 hl hP1 (hD1.weaken (fun k q _ h => hFc q.1 h)) hS1
theorem j_callS_qF (C : jC Ef X l d A cc nL Ts own rm ret) (nA : Nat) {post : Option Nat → va_W → Prop} {wa wc wb : va_W} (hws : ws = wa ++ wc ++ wb) (hM : jMq Ef d l y wy rmc mc ms As wc post) (hG : GoodIn Ts (wsS own idx y wy)) (hw : wy = Cond.code y bytes maxL ret' :: w') (hrc : rmc.cells = mc) (hrs : rmc.slots = ms) (hd : y.cls = own ∧ y.cls ≠ "java/lang/invoke/MethodHandle" ∧ y.cls ≠ "java/lang/invoke/VarHandle" ∧ (parseMethodDescriptor y.desc).map (fun d => d.parameters.length) = some nA) (hR : rmc.frames + 1 ≤ rm.frames ∧ 8 + (maxL + 11) + rmc.locals ≤ rm.locals) (hroom : cells + mc ≤ rm.cells ∧ slots + ms ≤ rm.slots) (hnA : As.length = nA) (hst : st0 = As.reverse ++ st) (hcat : (st.map fun v => v.category).sum ≤ 8) (hdg : decode cc pc = .ok (.invokestatic idx, 3)) (kk : ∀ (r : Option Nat) (u : va_W), post r u → jJ X l d A nL (cells + mc) (slots + ms) (wa ++ u ++ wb) lv (pc + 3) (va_rf r :: st)) : jJ X l d A nL cells slots ws lv pc st0 := by
  obtain ⟨p, e, R, s, m, args, below, meth, c, Q⟩ := X
  intro ls H locs hl hP hD hS
  have hr : R = rm := C.2.2.2.1
  subst hr
  subst hws
  have hPc := (jap_P hP).2.1
  have hDc := jap_D hD
  have hFc := jfree C.2.2.1 hDc hS
  refine va_callq (va_runS (As := As) (rest := st) C.1 (hM H.size) (cwS nA C.1.2.2.2.2 hG hw hrc hrs hd hR) ⟨jfb C.2.2.2.2.2.2.2, jpr C.2.2.2.2.2.2.2 (A' := A) (ws := wc) C.2.2.1 C.2.1 C.2.2.2.2.2.2.1 hPc hDc hS⟩ rfl hnA hl.1 hst (lv_room hcat) hdg hroom) hS (fun q _ h => hFc q h) hFc (fun r u t H1 locs1 ht hvm hw2 hB hz1 hk1 hS1 => ?_)
  obtain ⟨hP1, hK1, hD1⟩ := hB
  rw [ht] at hP1
  obtain ⟨hP2, hD2⟩ := jframe hP hD hFc hk1 hP1 hD1
  exact kk r u hw2 ls H1 locs1 hl hP2 hD2 hS1
theorem j_callSN_i (C : jC Ef X l d A cc nL Ts own rm ret) (nA : Nat) {post : Int32 → va_W → Prop} (hM : jMi Ef d l y wy rmc mc ms As ws post) {host : String} (hG : GoodIn Ts wy) (hlk : ∀ (A' : Nat → Prop) (s' : State) (H' : Heap), Ef A' s' H' → va_Nw (Cond.methodLinkNest own idx y host) s') (hini : Cond.initialized y.cls ∈ Ts) (hstat : Cond.static y ∈ Ts) (hw : wy = Cond.code y bytes maxL ret' :: w') (hrc : rmc.cells = mc) (hrs : rmc.slots = ms) (hd : y.cls ≠ "java/lang/invoke/MethodHandle" ∧ y.cls ≠ "java/lang/invoke/VarHandle" ∧ (parseMethodDescriptor y.desc).map (fun d => d.parameters.length) = some nA) (hR : rmc.frames + 1 ≤ rm.frames ∧ 8 + (maxL + 11) + rmc.locals ≤ rm.locals) (hroom : cells + mc ≤ rm.cells ∧ slots + ms ≤ rm.slots) (hnA : As.length = nA) (hst : st0 = As.reverse ++ st) (hcat : (st.map fun v => v.category).sum ≤ 8) (hdg : decode cc pc = .ok (.invokestatic idx, 3)) (kk : ∀ (r : Int32) (u : va_W), post r u → jJ X l d A nL (cells + mc) (slots + ms) u lv (pc + 3) (.int r :: st)) : jJ X l d A nL cells slots ws lv pc st0 := by
  obtain ⟨p, e, R, s, m, args, below, meth, c, Q⟩ := X
  intro ls H locs hl hP hD hS
  have hr : R = rm := C.2.2.2.1
  subst hr
  have hPc := hP
  have hDc := hD
  have hFc := jfree C.2.2.1 hDc hS
  refine va_calli (va_runSN (As := As) (rest := st) C.1 (hM H.size) ⟨va_cnB nA C.1.2.2.2.2 hG hw hrc hrs (hlk _ _ _ C.2.2.2.2.2.2.1) (C.1.2.2.2.2 _ hini) hd hR, C.1.2.2.2.2 _ hstat, trivial⟩ ⟨jfb C.2.2.2.2.2.2.2, jpr C.2.2.2.2.2.2.2 (A' := A) (ws := ws) C.2.2.1 C.2.1 C.2.2.2.2.2.2.1 hPc hDc hS⟩ rfl hnA hl.1 hst (lv_room hcat) hdg hroom) hS (fun q _ h => hFc q h) hFc (fun r u t H1 locs1 ht hvm hw2 hB hz1 hk1 hS1 => ?_)
  obtain ⟨hP1, hK1, hD1⟩ := hB
  rw [ht] at hP1
  exact kk r u hw2 ls H1 locs1 hl hP1 (hD1.weaken (fun k q _ h => hFc q.1 h)) hS1
theorem j_callSN_l (C : jC Ef X l d A cc nL Ts own rm ret) (nA : Nat) {post : Int64 → va_W → Prop} (hM : jMl Ef d l y wy rmc mc ms As ws post) {host : String} (hG : GoodIn Ts wy) (hlk : ∀ (A' : Nat → Prop) (s' : State) (H' : Heap), Ef A' s' H' → va_Nw (Cond.methodLinkNest own idx y host) s') (hini : Cond.initialized y.cls ∈ Ts) (hstat : Cond.static y ∈ Ts) (hw : wy = Cond.code y bytes maxL ret' :: w') (hrc : rmc.cells = mc) (hrs : rmc.slots = ms) (hd : y.cls ≠ "java/lang/invoke/MethodHandle" ∧ y.cls ≠ "java/lang/invoke/VarHandle" ∧ (parseMethodDescriptor y.desc).map (fun d => d.parameters.length) = some nA) (hR : rmc.frames + 1 ≤ rm.frames ∧ 8 + (maxL + 11) + rmc.locals ≤ rm.locals) (hroom : cells + mc ≤ rm.cells ∧ slots + ms ≤ rm.slots) (hnA : As.length = nA) (hst : st0 = As.reverse ++ st) (hcat : (st.map fun v => v.category).sum ≤ 8) (hdg : decode cc pc = .ok (.invokestatic idx, 3)) (kk : ∀ (r : Int64) (u : va_W), post r u → jJ X l d A nL (cells + mc) (slots + ms) u lv (pc + 3) (.long r :: st)) : jJ X l d A nL cells slots ws lv pc st0 := by
  obtain ⟨p, e, R, s, m, args, below, meth, c, Q⟩ := X
  intro ls H locs hl hP hD hS
  have hr : R = rm := C.2.2.2.1
  subst hr
  have hPc := hP
  have hDc := hD
  have hFc := jfree C.2.2.1 hDc hS
  refine va_calll (va_runSN (As := As) (rest := st) C.1 (hM H.size) ⟨va_cnB nA C.1.2.2.2.2 hG hw hrc hrs (hlk _ _ _ C.2.2.2.2.2.2.1) (C.1.2.2.2.2 _ hini) hd hR, C.1.2.2.2.2 _ hstat, trivial⟩ ⟨jfb C.2.2.2.2.2.2.2, jpr C.2.2.2.2.2.2.2 (A' := A) (ws := ws) C.2.2.1 C.2.1 C.2.2.2.2.2.2.1 hPc hDc hS⟩ rfl hnA hl.1 hst (lv_room hcat) hdg hroom) hS (fun q _ h => hFc q h) hFc (fun r u t H1 locs1 ht hvm hw2 hB hz1 hk1 hS1 => ?_)
  obtain ⟨hP1, hK1, hD1⟩ := hB
  rw [ht] at hP1
  exact kk r u hw2 ls H1 locs1 hl hP1 (hD1.weaken (fun k q _ h => hFc q.1 h)) hS1
theorem j_callSN_v (C : jC Ef X l d A cc nL Ts own rm ret) (nA : Nat) {post : va_W → Prop} (hM : jMv Ef d l y wy rmc mc ms As ws post) {host : String} (hG : GoodIn Ts wy) (hlk : ∀ (A' : Nat → Prop) (s' : State) (H' : Heap), Ef A' s' H' → va_Nw (Cond.methodLinkNest own idx y host) s') (hini : Cond.initialized y.cls ∈ Ts) (hstat : Cond.static y ∈ Ts) (hw : wy = Cond.code y bytes maxL ret' :: w') (hrc : rmc.cells = mc) (hrs : rmc.slots = ms) (hd : y.cls ≠ "java/lang/invoke/MethodHandle" ∧ y.cls ≠ "java/lang/invoke/VarHandle" ∧ (parseMethodDescriptor y.desc).map (fun d => d.parameters.length) = some nA) (hR : rmc.frames + 1 ≤ rm.frames ∧ 8 + (maxL + 11) + rmc.locals ≤ rm.locals) (hroom : cells + mc ≤ rm.cells ∧ slots + ms ≤ rm.slots) (hnA : As.length = nA) (hst : st0 = As.reverse ++ st) (hcat : (st.map fun v => v.category).sum ≤ 8) (hdg : decode cc pc = .ok (.invokestatic idx, 3)) (kk : ∀ (u : va_W), post u → jJ X l d A nL (cells + mc) (slots + ms) u lv (pc + 3) st) : jJ X l d A nL cells slots ws lv pc st0 := by
  obtain ⟨p, e, R, s, m, args, below, meth, c, Q⟩ := X
  intro ls H locs hl hP hD hS
  have hr : R = rm := C.2.2.2.1
  subst hr
  have hPc := hP
  have hDc := hD
  have hFc := jfree C.2.2.1 hDc hS
  refine va_callv (va_runSN (As := As) (rest := st) C.1 (hM H.size) ⟨va_cnB nA C.1.2.2.2.2 hG hw hrc hrs (hlk _ _ _ C.2.2.2.2.2.2.1) (C.1.2.2.2.2 _ hini) hd hR, C.1.2.2.2.2 _ hstat, trivial⟩ ⟨jfb C.2.2.2.2.2.2.2, jpr C.2.2.2.2.2.2.2 (A' := A) (ws := ws) C.2.2.1 C.2.1 C.2.2.2.2.2.2.1 hPc hDc hS⟩ rfl hnA hl.1 hst (lv_room hcat) hdg hroom) hS (fun q _ h => hFc q h) hFc (fun u t H1 locs1 ht hvm hw2 hB hz1 hk1 hS1 => ?_)
  obtain ⟨hP1, hK1, hD1⟩ := hB
  rw [ht] at hP1
  exact kk u hw2 ls H1 locs1 hl hP1 (hD1.weaken (fun k q _ h => hFc q.1 h)) hS1
theorem j_callSN_q (C : jC Ef X l d A cc nL Ts own rm ret) (nA : Nat) {post : Option Nat → va_W → Prop} (hM : jMq Ef d l y wy rmc mc ms As ws post) {host : String} (hG : GoodIn Ts wy) (hlk : ∀ (A' : Nat → Prop) (s' : State) (H' : Heap), Ef A' s' H' → va_Nw (Cond.methodLinkNest own idx y host) s') (hini : Cond.initialized y.cls ∈ Ts) (hstat : Cond.static y ∈ Ts) (hw : wy = Cond.code y bytes maxL ret' :: w') (hrc : rmc.cells = mc) (hrs : rmc.slots = ms) (hd : y.cls ≠ "java/lang/invoke/MethodHandle" ∧ y.cls ≠ "java/lang/invoke/VarHandle" ∧ (parseMethodDescriptor y.desc).map (fun d => d.parameters.length) = some nA) (hR : rmc.frames + 1 ≤ rm.frames ∧ 8 + (maxL + 11) + rmc.locals ≤ rm.locals) (hroom : cells + mc ≤ rm.cells ∧ slots + ms ≤ rm.slots) (hnA : As.length = nA) (hst : st0 = As.reverse ++ st) (hcat : (st.map fun v => v.category).sum ≤ 8) (hdg : decode cc pc = .ok (.invokestatic idx, 3)) (kk : ∀ (r : Option Nat) (u : va_W), post r u → jJ X l d A nL (cells + mc) (slots + ms) u lv (pc + 3) (va_rf r :: st)) : jJ X l d A nL cells slots ws lv pc st0 := by
  obtain ⟨p, e, R, s, m, args, below, meth, c, Q⟩ := X
  intro ls H locs hl hP hD hS
  have hr : R = rm := C.2.2.2.1
  subst hr
  have hPc := hP
  have hDc := hD
  have hFc := jfree C.2.2.1 hDc hS
  refine va_callq (va_runSN (As := As) (rest := st) C.1 (hM H.size) ⟨va_cnB nA C.1.2.2.2.2 hG hw hrc hrs (hlk _ _ _ C.2.2.2.2.2.2.1) (C.1.2.2.2.2 _ hini) hd hR, C.1.2.2.2.2 _ hstat, trivial⟩ ⟨jfb C.2.2.2.2.2.2.2, jpr C.2.2.2.2.2.2.2 (A' := A) (ws := ws) C.2.2.1 C.2.1 C.2.2.2.2.2.2.1 hPc hDc hS⟩ rfl hnA hl.1 hst (lv_room hcat) hdg hroom) hS (fun q _ h => hFc q h) hFc (fun r u t H1 locs1 ht hvm hw2 hB hz1 hk1 hS1 => ?_)
  obtain ⟨hP1, hK1, hD1⟩ := hB
  rw [ht] at hP1
  exact kk r u hw2 ls H1 locs1 hl hP1 (hD1.weaken (fun k q _ h => hFc q.1 h)) hS1
end JCALL

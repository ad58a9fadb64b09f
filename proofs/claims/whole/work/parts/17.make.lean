/-! making objects and arrays; constructors -/
def jNm (X : jX) (nm : String) : Prop :=
  match X with
  | (p, e, R, s, m, args, below, meth, c, Q) => meth.name = nm
theorem jMv.mkI {Ef : jE} {d : jD} {l : Launch} {y : MethodName} {wy ws' : List Cond} {rm : Room} {mc ms maxL : Nat} {av : List Value} {ws : va_W} {cc : ByteArray} {ret : Option FieldType} {post : va_W → Prop} (hk : jKp Ef) (hy : plainName y.cls = true) (hw : wy = Cond.code y cc maxL ret :: ws') (hlen : (lg_sl av).length ≤ maxL) (body : ∀ (X : jX) (A : Nat → Prop), jC Ef X l d A cc maxL wy y.cls rm ret → jQv X d A mc ms post → jNm X y.name → jJ X l d A maxL 0 0 ws (lv_args 0 av) 0 []) : jMv Ef d l y wy rm mc ms av ws post := by
  intro sz
  refine Met.ofW (cc := cc) (maxL := maxL) (ret := ret) hy hw ?_
  intro p e s m args below meth c s₁ B hml hv
  obtain ⟨rfl, hsz, hP, hK, hD0, hE⟩ := hv
  subst hsz
  have hl := lv_entry av (n := maxL) hlen
  rw [lg_entry_eq]
  generalize (lg_sl av ++ List.replicate (maxL - (lg_sl av).length) Slot.unset).toArray = ls at hl ⊢
  exact body (p, e, rm, s, m, av.toArray, below, meth, c, _) (va_A ws s.heap.size) ⟨⟨B.exec, B.bytes, hml, findClass_of_methodNamed B.named, atoms_spec (ws := wy) B.pre⟩, hK, fun q h => Or.inr h, rfl, B.returns, B.notSynchronized, hE, hk⟩ rfl (name_of_methodNamed B.named B.method).1 ls s.heap [] hl hP hD0.self va_S.rf
section JMAKE
variable {Ef : jE} {X : jX} {l : Launch} {d : jD} {A : Nat → Prop} {cc : ByteArray} {nL cells slots : Nat} {Ts : List Cond} {own : String} {rm : Room} {ret : Option FieldType} {ws : va_W} {lv : List (Nat × Value)} {pc : Nat} {st : List Value}
theorem j_putF (C : jC Ef X l d A cc nL Ts own rm ret) (hN : jNm X "<init>") {a ci idx : Nat} {fs : List Value} {v : Value} {Cn : String} {T : u_T} {N : Nat} {ty0 : Nat → FieldType} {ty : FieldType} {ws2 : va_W} (hin : ∀ w ∈ u_ws Cn T N, w ∈ Ts) (hty : ∀ k, k < N → parseFieldDescriptor (T k).2.2.1 = some (ty0 k)) (hnm : ∀ a, a < N → ∀ b, b < N → a ≠ b → (T a).2.1 ≠ (T b).2.1) (q0 k : Nat) (he : ws[q0]? = some (a, .inr (ci, fs))) (hc : vwCl[ci]? = some (Cn, T, N)) (hk : k < N) (hlink : Cond.fieldLink own idx (T k).1 (T k).2.1 (T k).2.2.1 ∈ Ts) (hfin : (T k).2.2.2 = true) (hdecl : (T k).1 = own) (hd : ty0 k = ty) (hn : narrow ty v = v) (hfit : fits ty v = true) (hlf : k < fs.length) (hw : ws.set q0 (a, .inr (ci, fs.set k v)) = ws2) (hdg : decode cc pc = .ok (.putfield idx, 3)) (kk : jJ X l d A nL cells slots ws2 lv (pc + 3) st) : jJ X l d A nL cells slots ws lv pc (v :: .ref a :: st) := by
  obtain ⟨p, e, R, s, m, args, below, meth, c, Q⟩ := X
  subst hw
  exact fun ls H locs hl hP hD hS => va_putF C.1.1 C.1.2.1 C.1.2.2.2.2 hin ty0 hty hnm C.1.2.2.2.1 C.2.1 hP hD hS q0 he hc k hk (C.1.2.2.2.2 _ hlink) (fun _ h => h) hfin hN hdecl (hd ▸ hty k hk) hn hfit hlf hdg (fun H1 locs1 hP hD hS => kk ls H1 locs1 hl hP hD hS)
theorem j_objInit (C : jC Ef X l d A cc nL Ts own rm ret) {idx a : Nat} (hlink : Cond.methodLink own idx Lib.objectInit ∈ Ts) (hinst : Cond.instanceMethod Lib.objectInit ∈ Ts) (hcode : Cond.code Lib.objectInit ⟨#[0xb1]⟩ 1 none ∈ Ts) (hR : 1 ≤ rm.frames ∧ 20 ≤ rm.locals) (hst : (st.map fun v => v.category).sum ≤ 8) (hdg : decode cc pc = .ok (.invokespecial idx, 3)) (kk : jJ X l d A nL cells slots ws lv (pc + 3) st) : jJ X l d A nL cells slots ws lv pc (.ref a :: st) := by
  obtain ⟨p, e, R, s, m, args, below, meth, c, Q⟩ := X
  intro ls H locs hl hP hD hS
  have hr : R = rm := C.2.2.2.1
  subst hr
  exact W.objInit C.1.1 C.1.2.1 C.1.2.2.2.1 (C.1.2.2.2.2 _ hlink) (C.1.2.2.2.2 _ hinst) (C.1.2.2.2.2 _ hcode) rfl (by rw [C.1.2.2.1]; exact hl.1) rfl hdg hR.1 (by have := lv_room (m := m) (pc := pc) (ls := ls) (rest := .ref a :: st) hst; omega) (kk ls H locs hl hP hD hS)
theorem j_newi (C : jC Ef X l d A cc nL Ts own rm ret) {n : Int32} (N : Nat) (harr : Cond.arrayClass .int ∈ Ts) (hn : n = nI N) (hN : N ≤ 100000) (hroom : cells + 1 ≤ rm.cells ∧ slots + N ≤ rm.slots) (hdg : decode cc pc = .ok (.newarray .int, 2)) (kk : ∀ q : Nat, jJ X l d A nL (cells + 1) (slots + N) (ws ++ [(q, .inl (d.2 1, N, .inl (fun _ => 0)))]) lv (pc + 2) (.ref q :: st)) : jJ X l d A nL cells slots ws lv pc (.int n :: st) := by
  obtain ⟨p, e, R, s, m, args, below, meth, c, Q⟩ := X
  intro ls H locs hl hP hD hS
  have hr : R = rm := C.2.2.2.1
  subst hr
  subst hn
  refine va_newa (ty := .int) C.1.1 C.1.2.1 (atype := .int) (C.1.2.2.2.2 _ harr) rfl C.2.1 hP hD hS C.2.2.1 (N' := N) (a0 := (N, .inl (fun _ => 0))) (fun cA => rfl) (nI_pos (by omega)) (nI_clamp (by omega)) (by show N * 4 ≤ _; omega) hroom.1 hroom.2 hdg (fun q cA H1 hK1 hP1 hD1 hS1 => ?_)
  have e1 := (hK1.2 6 (cA, .int) rfl).2
  have e2 := (C.2.1.2 1 (d.2 1, .int) rfl).2
  have e3 : cA = d.2 1 := Option.some.inj (e1.symm.trans e2)
  subst e3
  exact kk q ls H1 locs hl hP1 hD1 hS1
theorem j_newb (C : jC Ef X l d A cc nL Ts own rm ret) {n : Int32} (N : Nat) (harr : Cond.arrayClass .byte ∈ Ts) (hn : n = nI N) (hN : N ≤ 100000) (hroom : cells + 1 ≤ rm.cells ∧ slots + N ≤ rm.slots) (hdg : decode cc pc = .ok (.newarray .byte, 2)) (kk : ∀ q : Nat, jJ X l d A nL (cells + 1) (slots + N) (ws ++ [(q, .inl (d.2 0, N, .inl (fun _ => 0)))]) lv (pc + 2) (.ref q :: st)) : jJ X l d A nL cells slots ws lv pc (.int n :: st) := by
  obtain ⟨p, e, R, s, m, args, below, meth, c, Q⟩ := X
  intro ls H locs hl hP hD hS
  have hr : R = rm := C.2.2.2.1
  subst hr
  subst hn
  refine va_newa (ty := .byte) C.1.1 C.1.2.1 (atype := .byte) (C.1.2.2.2.2 _ harr) rfl C.2.1 hP hD hS C.2.2.1 (N' := N) (a0 := (N, .inl (fun _ => 0))) (fun cA => rfl) (nI_pos (by omega)) (nI_clamp (by omega)) (by show N * 1 ≤ _; omega) hroom.1 hroom.2 hdg (fun q cA H1 hK1 hP1 hD1 hS1 => ?_)
  have e1 := (hK1.2 6 (cA, .byte) rfl).2
  have e2 := (C.2.1.2 0 (d.2 0, .byte) rfl).2
  have e3 : cA = d.2 0 := Option.some.inj (e1.symm.trans e2)
  subst e3
  exact kk q ls H1 locs hl hP1 hD1 hS1
theorem j_newl (C : jC Ef X l d A cc nL Ts own rm ret) {n : Int32} (N : Nat) (harr : Cond.arrayClass .long ∈ Ts) (hn : n = nI N) (hN : N ≤ 100000) (hroom : cells + 1 ≤ rm.cells ∧ slots + N ≤ rm.slots) (hdg : decode cc pc = .ok (.newarray .long, 2)) (kk : ∀ q : Nat, jJ X l d A nL (cells + 1) (slots + N) (ws ++ [(q, .inl (d.2 5, N, .inr (.inl (fun _ => 0))))]) lv (pc + 2) (.ref q :: st)) : jJ X l d A nL cells slots ws lv pc (.int n :: st) := by
  obtain ⟨p, e, R, s, m, args, below, meth, c, Q⟩ := X
  intro ls H locs hl hP hD hS
  have hr : R = rm := C.2.2.2.1
  subst hr
  subst hn
  refine va_newa (ty := .long) C.1.1 C.1.2.1 (atype := .long) (C.1.2.2.2.2 _ harr) rfl C.2.1 hP hD hS C.2.2.1 (N' := N) (a0 := (N, .inr (.inl (fun _ => 0)))) (fun cA => rfl) (nI_pos (by omega)) (nI_clamp (by omega)) (by show N * 8 ≤ _; omega) hroom.1 hroom.2 hdg (fun q cA H1 hK1 hP1 hD1 hS1 => ?_)
  have e1 := (hK1.2 6 (cA, .long) rfl).2
  have e2 := (C.2.1.2 5 (d.2 5, .long) rfl).2
  have e3 : cA = d.2 5 := Option.some.inj (e1.symm.trans e2)
  subst e3
  exact kk q ls H1 locs hl hP1 hD1 hS1
end JMAKE

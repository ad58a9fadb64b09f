/-! A WALK OVER PURE DATA: jJ says of a world (cells), locals, pc and stack that the machine comes to its end from there; a row an instruction. -/
abbrev jX : Type := Program × Env × Room × State × MethodId × Array Value × List Frame × Method × Code × (State → Prop)
abbrev jD : Type := va_G × (Nat → ClassId)
abbrev jE : Type := (Nat → Prop) → State → Heap → Prop
def jtys (d : jD) : List (ClassId × FieldType) := [(d.2 0, .byte), (d.2 1, .int), (d.2 2, .object RX8), (d.2 3, .object RX4), (d.2 4, .object RX3), (d.2 5, .long)]
/-- facts of cells that no walk touches: they stay -/
def jKp (Ef : jE) : Prop := ∀ (A A' : Nat → Prop) (s U : State) (H : Heap), Ef A s s.heap → (s.WarmedH U.vm ∨ s.vm = U.vm) → U.heap = H → s.heap.size ≤ H.size → (∀ q : Nat, q < s.heap.size → ¬ A q → H[q]? = s.heap[q]?) → (∀ q : Nat, A' q → A q) → Ef A' U H
def jJ (X : jX) (l : Launch) (d : jD) (A : Nat → Prop) (nL cells slots : Nat) (ws : va_W) (lv : List (Nat × Value)) (pc : Nat) (st : List Value) : Prop :=
  match X with
  | (p, e, R, s, m, args, below, meth, c, Q) => ∀ (ls : Array Slot) (H : Heap) (locs : List Loc), lv_has ls nL lv → va_P d.1 vwCl ws H → va_D A ws → va_S A s.heap H locs → W p l e R s m args below meth c H locs cells slots Q (F0 m pc ls st)
/-- what holds all along a walk -/
def jC (Ef : jE) (X : jX) (l : Launch) (d : jD) (A : Nat → Prop) (cc : ByteArray) (nL : Nat) (Ts : List Cond) (own : String) (rm : Room) (ret : Option FieldType) : Prop :=
  match X with
  | (p, e, R, s, m, args, below, meth, c, Q) => CallFix p m c cc nL s args Ts own ∧ va_K d.1 vwCl (jtys d) s ∧ (∀ q : Nat, s.heap.size ≤ q → A q) ∧ R = rm ∧ meth.sig.returnType = ret ∧ meth.locks = false ∧ Ef A s s.heap ∧ jKp Ef
def jB (d : jD) (A : Nat → Prop) (ws : va_W) (t : State) : Prop := va_P d.1 vwCl ws t.heap ∧ va_K d.1 vwCl (jtys d) t ∧ va_D A ws
def jPr (Ef : jE) (d : jD) (ws : va_W) (sz : Nat) (U : State) : Prop := U.heap.size = sz ∧ va_P d.1 vwCl ws U.heap ∧ va_K d.1 vwCl (jtys d) U ∧ va_D (fun _ => True) ws ∧ Ef (va_A ws sz) U U.heap
/-- contracts: an int (or boolean), a long, nothing, a reference or null -/
def jMi (Ef : jE) (d : jD) (l : Launch) (y : MethodName) (wy : List Cond) (rm : Room) (mc ms : Nat) (av : List Value) (ws : va_W) (post : Int32 → va_W → Prop) : Prop :=
  ∀ sz : Nat, Met l y wy rm (va_Pc av (jPr Ef d ws sz)) (va_Qi post (jB d (va_A ws sz)) (va_A ws sz)) mc ms (va_A ws sz)
def jMl (Ef : jE) (d : jD) (l : Launch) (y : MethodName) (wy : List Cond) (rm : Room) (mc ms : Nat) (av : List Value) (ws : va_W) (post : Int64 → va_W → Prop) : Prop :=
  ∀ sz : Nat, Met l y wy rm (va_Pc av (jPr Ef d ws sz)) (va_Ql post (jB d (va_A ws sz)) (va_A ws sz)) mc ms (va_A ws sz)
def jMv (Ef : jE) (d : jD) (l : Launch) (y : MethodName) (wy : List Cond) (rm : Room) (mc ms : Nat) (av : List Value) (ws : va_W) (post : va_W → Prop) : Prop :=
  ∀ sz : Nat, Met l y wy rm (va_Pc av (jPr Ef d ws sz)) (va_Qv post (jB d (va_A ws sz)) (va_A ws sz)) mc ms (va_A ws sz)
def jMq (Ef : jE) (d : jD) (l : Launch) (y : MethodName) (wy : List Cond) (rm : Room) (mc ms : Nat) (av : List Value) (ws : va_W) (post : Option Nat → va_W → Prop) : Prop :=
  ∀ sz : Nat, Met l y wy rm (va_Pc av (jPr Ef d ws sz)) (va_Qq post (jB d (va_A ws sz)) (va_A ws sz)) mc ms (va_A ws sz)
def jQi (X : jX) (d : jD) (A : Nat → Prop) (mc ms : Nat) (post : Int32 → va_W → Prop) : Prop :=
  match X with
  | (p, e, R, s, m, args, below, meth, c, Q) => Q = MQ below (va_Qi post (jB d A) A) args s mc ms A
def jQl (X : jX) (d : jD) (A : Nat → Prop) (mc ms : Nat) (post : Int64 → va_W → Prop) : Prop :=
  match X with
  | (p, e, R, s, m, args, below, meth, c, Q) => Q = MQ below (va_Ql post (jB d A) A) args s mc ms A
def jQv (X : jX) (d : jD) (A : Nat → Prop) (mc ms : Nat) (post : va_W → Prop) : Prop :=
  match X with
  | (p, e, R, s, m, args, below, meth, c, Q) => Q = MQ below (va_Qv post (jB d A) A) args s mc ms A
def jQq (X : jX) (d : jD) (A : Nat → Prop) (mc ms : Nat) (post : Option Nat → va_W → Prop) : Prop :=
  match X with
  | (p, e, R, s, m, args, below, meth, c, Q) => Q = MQ below (va_Qq post (jB d A) A) args s mc ms A
section JIN
variable {Ef : jE} {d : jD} {l : Launch} {y : MethodName} {wy ws' : List Cond} {rm : Room} {mc ms maxL : Nat} {av : List Value} {ws : va_W} {cc : ByteArray} {ret : Option FieldType}
theorem jMi.mk {post : Int32 → va_W → Prop} (hk : jKp Ef) (hy : plainName y.cls = true) (hw : wy = Cond.code y cc maxL ret :: ws') (hlen : (lg_sl av).length ≤ maxL) (body : ∀ (X : jX) (A : Nat → Prop), jC Ef X l d A cc maxL wy y.cls rm ret → jQi X d A mc ms post → jJ X l d A maxL 0 0 ws (lv_args 0 av) 0 []) : jMi Ef d l y wy rm mc ms av ws post := by
  intro sz
  refine Met.ofW (cc := cc) (maxL := maxL) (ret := ret) hy hw ?_
  intro p e s m args below meth c s₁ B hml hv
  obtain ⟨rfl, hsz, hP, hK, hD0, hE⟩ := hv
  subst hsz
  have hl := lv_entry av (n := maxL) hlen
  rw [lg_entry_eq]
  generalize (lg_sl av ++ List.replicate (maxL - (lg_sl av).length) Slot.unset).toArray = ls at hl ⊢
  exact body (p, e, rm, s, m, av.toArray, below, meth, c, _) (va_A ws s.heap.size) ⟨⟨B.exec, B.bytes, hml, findClass_of_methodNamed B.named, atoms_spec (ws := wy) B.pre⟩, hK, fun q h => Or.inr h, rfl, B.returns, B.notSynchronized, hE, hk⟩ rfl ls s.heap [] hl hP hD0.self va_S.rf
theorem jMl.mk {post : Int64 → va_W → Prop} (hk : jKp Ef) (hy : plainName y.cls = true) (hw : wy = Cond.code y cc maxL ret :: ws') (hlen : (lg_sl av).length ≤ maxL) (body : ∀ (X : jX) (A : Nat → Prop), jC Ef X l d A cc maxL wy y.cls rm ret → jQl X d A mc ms post → jJ X l d A maxL 0 0 ws (lv_args 0 av) 0 []) : jMl Ef d l y wy rm mc ms av ws post := by
  intro sz
  refine Met.ofW (cc := cc) (maxL := maxL) (ret := ret) hy hw ?_
  intro p e s m args below meth c s₁ B hml hv
  obtain ⟨rfl, hsz, hP, hK, hD0, hE⟩ := hv
  subst hsz
  have hl := lv_entry av (n := maxL) hlen
  rw [lg_entry_eq]
  generalize (lg_sl av ++ List.replicate (maxL - (lg_sl av).length) Slot.unset).toArray = ls at hl ⊢
  exact body (p, e, rm, s, m, av.toArray, below, meth, c, _) (va_A ws s.heap.size) ⟨⟨B.exec, B.bytes, hml, findClass_of_methodNamed B.named, atoms_spec (ws := wy) B.pre⟩, hK, fun q h => Or.inr h, rfl, B.returns, B.notSynchronized, hE, hk⟩ rfl ls s.heap [] hl hP hD0.self va_S.rf
theorem jMv.mk {post : va_W → Prop} (hk : jKp Ef) (hy : plainName y.cls = true) (hw : wy = Cond.code y cc maxL ret :: ws') (hlen : (lg_sl av).length ≤ maxL) (body : ∀ (X : jX) (A : Nat → Prop), jC Ef X l d A cc maxL wy y.cls rm ret → jQv X d A mc ms post → jJ X l d A maxL 0 0 ws (lv_args 0 av) 0 []) : jMv Ef d l y wy rm mc ms av ws post := by
  intro sz
  refine Met.ofW (cc := cc) (maxL := maxL) (ret := ret) hy hw ?_
  intro p e s m args below meth c s₁ B hml hv
  obtain ⟨rfl, hsz, hP, hK, hD0, hE⟩ := hv
  subst hsz
  have hl := lv_entry av (n := maxL) hlen
  rw [lg_entry_eq]
  generalize (lg_sl av ++ List.replicate (maxL - (lg_sl av).length) Slot.unset).toArray = ls at hl ⊢
  exact body (p, e, rm, s, m, av.toArray, below, meth, c, _) (va_A ws s.heap.size) ⟨⟨B.exec, B.bytes, hml, findClass_of_methodNamed B.named, atoms_spec (ws := wy) B.pre⟩, hK, fun q h => Or.inr h, rfl, B.returns, B.notSynchronized, hE, hk⟩ rfl ls s.heap [] hl hP hD0.self va_S.rf
theorem jMq.mk {post : Option Nat → va_W → Prop} (hk : jKp Ef) (hy : plainName y.cls = true) (hw : wy = Cond.code y cc maxL ret :: ws') (hlen : (lg_sl av).length ≤ maxL) (body : ∀ (X : jX) (A : Nat → Prop), jC Ef X l d A cc maxL wy y.cls rm ret → jQq X d A mc ms post → jJ X l d A maxL 0 0 ws (lv_args 0 av) 0 []) : jMq Ef d l y wy rm mc ms av ws post := by
  intro sz
  refine Met.ofW (cc := cc) (maxL := maxL) (ret := ret) hy hw ?_
  intro p e s m args below meth c s₁ B hml hv
  obtain ⟨rfl, hsz, hP, hK, hD0, hE⟩ := hv
  subst hsz
  have hl := lv_entry av (n := maxL) hlen
  rw [lg_entry_eq]
  generalize (lg_sl av ++ List.replicate (maxL - (lg_sl av).length) Slot.unset).toArray = ls at hl ⊢
  exact body (p, e, rm, s, m, av.toArray, below, meth, c, _) (va_A ws s.heap.size) ⟨⟨B.exec, B.bytes, hml, findClass_of_methodNamed B.named, atoms_spec (ws := wy) B.pre⟩, hK, fun q h => Or.inr h, rfl, B.returns, B.notSynchronized, hE, hk⟩ rfl ls s.heap [] hl hP hD0.self va_S.rf
end JIN
section JROWS
variable {Ef : jE} {X : jX} {l : Launch} {d : jD} {A : Nat → Prop} {cc : ByteArray} {nL cells slots : Nat} {Ts : List Cond} {own : String} {rm : Room} {ret : Option FieldType} {ws : va_W} {lv : List (Nat × Value)} {pc : Nat} {st : List Value}
theorem j_iconst (C : jC Ef X l d A cc nL Ts own rm ret) {n : Int} (v : Int32) (hdg : decode cc pc = .ok (.iconst n, 1)) (hv : Int32.ofInt n = v) (k : jJ X l d A nL cells slots ws lv (pc + 1) (.int v :: st)) : jJ X l d A nL cells slots ws lv pc st := by
  obtain ⟨p, e, R, s, m, args, below, meth, c, Q⟩ := X
  exact fun ls H locs hl hP hD hS => lv_iconst C.1.1 C.1.2.1 hdg hv (k ls H locs hl hP hD hS)
theorem j_bipush (C : jC Ef X l d A cc nL Ts own rm ret) {n : Int} (v : Int32) (hdg : decode cc pc = .ok (.bipush n, 2)) (hv : (Int8.ofInt n).toInt32 = v) (k : jJ X l d A nL cells slots ws lv (pc + 2) (.int v :: st)) : jJ X l d A nL cells slots ws lv pc st := by
  obtain ⟨p, e, R, s, m, args, below, meth, c, Q⟩ := X
  exact fun ls H locs hl hP hD hS => lv_bipush C.1.1 C.1.2.1 hdg hv (k ls H locs hl hP hD hS)
theorem j_sipush (C : jC Ef X l d A cc nL Ts own rm ret) {n : Int} (v : Int32) (hdg : decode cc pc = .ok (.sipush n, 3)) (hv : (Int16.ofInt n).toInt32 = v) (k : jJ X l d A nL cells slots ws lv (pc + 3) (.int v :: st)) : jJ X l d A nL cells slots ws lv pc st := by
  obtain ⟨p, e, R, s, m, args, below, meth, c, Q⟩ := X
  exact fun ls H locs hl hP hD hS => lv_sipush C.1.1 C.1.2.1 hdg hv (k ls H locs hl hP hD hS)
theorem j_lconst (C : jC Ef X l d A cc nL Ts own rm ret) {n : Fin 2} (v : Int64) (hdg : decode cc pc = .ok (.lconst n, 1)) (hv : Int64.ofNat (n : Nat) = v) (k : jJ X l d A nL cells slots ws lv (pc + 1) (.long v :: st)) : jJ X l d A nL cells slots ws lv pc st := by
  obtain ⟨p, e, R, s, m, args, below, meth, c, Q⟩ := X
  exact fun ls H locs hl hP hD hS => lv_lconst C.1.1 C.1.2.1 hdg hv (k ls H locs hl hP hD hS)
theorem j_ldc2 (C : jC Ef X l d A cc nL Ts own rm ret) {index : Nat} (v : Int64) (hm : Jvm.Cond.constantLong own index v ∈ Ts) (hdg : decode cc pc = .ok (.ldc2_w index, 3)) (k : jJ X l d A nL cells slots ws lv (pc + 3) (.long v :: st)) : jJ X l d A nL cells slots ws lv pc st := by
  obtain ⟨p, e, R, s, m, args, below, meth, c, Q⟩ := X
  exact fun ls H locs hl hP hD hS => lv_ldc2 C.1.1 C.1.2.1 C.1.2.2.2.1 (C.1.2.2.2.2 _ hm) hdg (k ls H locs hl hP hD hS)
theorem lvAt {ls : Array Slot} {n i : Nat} {v : Value} (h : lv_has ls n lv) (k : Nat) (hk : lv[k]? = some (i, v)) : ls[i]? = some (.val v) := lv_at h k hk
theorem j_iload_n (C : jC Ef X l d A cc nL Ts own rm ret) {n : Fin 4} {i : Nat} {x : Int32} (k : Nat) (hdg : decode cc pc = .ok (.iload_n n, 1)) (hi : (n : Nat) = i) (hk : lv[k]? = some (i, .int x)) (kk : jJ X l d A nL cells slots ws lv (pc + 1) (.int x :: st)) : jJ X l d A nL cells slots ws lv pc st := by
  obtain ⟨p, e, R, s, m, args, below, meth, c, Q⟩ := X
  exact fun ls H locs hl hP hD hS => lv_iload_n C.1.1 C.1.2.1 hdg hi (lvAt hl k hk) (kk ls H locs hl hP hD hS)
theorem j_iload (C : jC Ef X l d A cc nL Ts own rm ret) {i : Nat} {x : Int32} (k : Nat) (hdg : decode cc pc = .ok (.iload i, 2)) (hk : lv[k]? = some (i, .int x)) (kk : jJ X l d A nL cells slots ws lv (pc + 2) (.int x :: st)) : jJ X l d A nL cells slots ws lv pc st := by
  obtain ⟨p, e, R, s, m, args, below, meth, c, Q⟩ := X
  exact fun ls H locs hl hP hD hS => lv_iload C.1.1 C.1.2.1 hdg (lvAt hl k hk) (kk ls H locs hl hP hD hS)
theorem j_lload_n (C : jC Ef X l d A cc nL Ts own rm ret) {n : Fin 4} {i : Nat} {x : Int64} (k : Nat) (hdg : decode cc pc = .ok (.lload_n n, 1)) (hi : (n : Nat) = i) (hk : lv[k]? = some (i, .long x)) (kk : jJ X l d A nL cells slots ws lv (pc + 1) (.long x :: st)) : jJ X l d A nL cells slots ws lv pc st := by
  obtain ⟨p, e, R, s, m, args, below, meth, c, Q⟩ := X
  exact fun ls H locs hl hP hD hS => lv_lload_n C.1.1 C.1.2.1 hdg hi (lvAt hl k hk) (kk ls H locs hl hP hD hS)
theorem j_lload (C : jC Ef X l d A cc nL Ts own rm ret) {i : Nat} {x : Int64} (k : Nat) (hdg : decode cc pc = .ok (.lload i, 2)) (hk : lv[k]? = some (i, .long x)) (kk : jJ X l d A nL cells slots ws lv (pc + 2) (.long x :: st)) : jJ X l d A nL cells slots ws lv pc st := by
  obtain ⟨p, e, R, s, m, args, below, meth, c, Q⟩ := X
  exact fun ls H locs hl hP hD hS => lv_lload C.1.1 C.1.2.1 hdg (lvAt hl k hk) (kk ls H locs hl hP hD hS)
theorem j_aload_n (C : jC Ef X l d A cc nL Ts own rm ret) {n : Fin 4} {i : Nat} {x : Nat} (k : Nat) (hdg : decode cc pc = .ok (.aload_n n, 1)) (hi : (n : Nat) = i) (hk : lv[k]? = some (i, .ref x)) (kk : jJ X l d A nL cells slots ws lv (pc + 1) (.ref x :: st)) : jJ X l d A nL cells slots ws lv pc st := by
  obtain ⟨p, e, R, s, m, args, below, meth, c, Q⟩ := X
  exact fun ls H locs hl hP hD hS => lv_aload_n C.1.1 C.1.2.1 hdg hi (lvAt hl k hk) (kk ls H locs hl hP hD hS)
theorem j_aload (C : jC Ef X l d A cc nL Ts own rm ret) {i : Nat} {x : Nat} (k : Nat) (hdg : decode cc pc = .ok (.aload i, 2)) (hk : lv[k]? = some (i, .ref x)) (kk : jJ X l d A nL cells slots ws lv (pc + 2) (.ref x :: st)) : jJ X l d A nL cells slots ws lv pc st := by
  obtain ⟨p, e, R, s, m, args, below, meth, c, Q⟩ := X
  exact fun ls H locs hl hP hD hS => lv_aload C.1.1 C.1.2.1 hdg (lvAt hl k hk) (kk ls H locs hl hP hD hS)
theorem j_aload_nN (C : jC Ef X l d A cc nL Ts own rm ret) {n : Fin 4} {i : Nat} (k : Nat) (hdg : decode cc pc = .ok (.aload_n n, 1)) (hi : (n : Nat) = i) (hk : lv[k]? = some (i, .null)) (kk : jJ X l d A nL cells slots ws lv (pc + 1) (.null :: st)) : jJ X l d A nL cells slots ws lv pc st := by
  obtain ⟨p, e, R, s, m, args, below, meth, c, Q⟩ := X
  exact fun ls H locs hl hP hD hS => lv_aload_nN C.1.1 C.1.2.1 hdg hi (lvAt hl k hk) (kk ls H locs hl hP hD hS)
theorem j_aloadN (C : jC Ef X l d A cc nL Ts own rm ret) {i : Nat} (k : Nat) (hdg : decode cc pc = .ok (.aload i, 2)) (hk : lv[k]? = some (i, .null)) (kk : jJ X l d A nL cells slots ws lv (pc + 2) (.null :: st)) : jJ X l d A nL cells slots ws lv pc st := by
  obtain ⟨p, e, R, s, m, args, below, meth, c, Q⟩ := X
  exact fun ls H locs hl hP hD hS => lv_aloadN C.1.1 C.1.2.1 hdg (lvAt hl k hk) (kk ls H locs hl hP hD hS)
/-- the locals may be listed otherwise -/
theorem j_lv {lv' : List (Nat × Value)} (is : List Nat) (h : lv_pick lv is = lv') (k : jJ X l d A nL cells slots ws lv' pc st) : jJ X l d A nL cells slots ws lv pc st := by
  obtain ⟨p, e, R, s, m, args, below, meth, c, Q⟩ := X
  exact fun ls H locs hl hP hD hS => k ls H locs (lv_sub hl is h) hP hD hS
theorem j_istore_n (C : jC Ef X l d A cc nL Ts own rm ret) {n : Fin 4} {i : Nat} {x : Int32} (lv' : List (Nat × Value)) (is : List Nat) (hdg : decode cc pc = .ok (.istore_n n, 1)) (hi : (n : Nat) = i) (hn : i < nL) (hl' : lv_pick ((i, Value.int x) :: lv.filter (fun q => !(q.1 == i) && !(q.1 + 1 == i && q.2.category == 2))) is = lv') (kk : jJ X l d A nL cells slots ws lv' (pc + 1) st) : jJ X l d A nL cells slots ws lv pc (.int x :: st) := by
  obtain ⟨p, e, R, s, m, args, below, meth, c, Q⟩ := X
  exact fun ls H locs hl hP hD hS => lv_istore_n C.1.1 C.1.2.1 hdg hi hl hn rfl (fun ls' h => kk ls' H locs (lv_sub h is hl') hP hD hS)
theorem j_istore (C : jC Ef X l d A cc nL Ts own rm ret) {i : Nat} {x : Int32} (lv' : List (Nat × Value)) (is : List Nat) (hdg : decode cc pc = .ok (.istore i, 2)) (hn : i < nL) (hl' : lv_pick ((i, Value.int x) :: lv.filter (fun q => !(q.1 == i) && !(q.1 + 1 == i && q.2.category == 2))) is = lv') (kk : jJ X l d A nL cells slots ws lv' (pc + 2) st) : jJ X l d A nL cells slots ws lv pc (.int x :: st) := by
  obtain ⟨p, e, R, s, m, args, below, meth, c, Q⟩ := X
  exact fun ls H locs hl hP hD hS => lv_istore C.1.1 C.1.2.1 hdg hl hn rfl (fun ls' h => kk ls' H locs (lv_sub h is hl') hP hD hS)
theorem j_lstore_n (C : jC Ef X l d A cc nL Ts own rm ret) {n : Fin 4} {i : Nat} {x : Int64} (lv' : List (Nat × Value)) (is : List Nat) (hdg : decode cc pc = .ok (.lstore_n n, 1)) (hi : (n : Nat) = i) (hn : i + 1 < nL) (hl' : lv_pick ((i, Value.long x) :: lv.filter (fun q => !(q.1 == i) && (!(q.1 == i + 1) && !(q.1 + 1 == i && q.2.category == 2)))) is = lv') (kk : jJ X l d A nL cells slots ws lv' (pc + 1) st) : jJ X l d A nL cells slots ws lv pc (.long x :: st) := by
  obtain ⟨p, e, R, s, m, args, below, meth, c, Q⟩ := X
  exact fun ls H locs hl hP hD hS => lv_lstore_n C.1.1 C.1.2.1 hdg hi hl hn rfl (fun ls' h => kk ls' H locs (lv_sub h is hl') hP hD hS)
theorem j_lstore (C : jC Ef X l d A cc nL Ts own rm ret) {i : Nat} {x : Int64} (lv' : List (Nat × Value)) (is : List Nat) (hdg : decode cc pc = .ok (.lstore i, 2)) (hn : i + 1 < nL) (hl' : lv_pick ((i, Value.long x) :: lv.filter (fun q => !(q.1 == i) && (!(q.1 == i + 1) && !(q.1 + 1 == i && q.2.category == 2)))) is = lv') (kk : jJ X l d A nL cells slots ws lv' (pc + 2) st) : jJ X l d A nL cells slots ws lv pc (.long x :: st) := by
  obtain ⟨p, e, R, s, m, args, below, meth, c, Q⟩ := X
  exact fun ls H locs hl hP hD hS => lv_lstore C.1.1 C.1.2.1 hdg hl hn rfl (fun ls' h => kk ls' H locs (lv_sub h is hl') hP hD hS)
theorem j_astore_n (C : jC Ef X l d A cc nL Ts own rm ret) {n : Fin 4} {i : Nat} {x : Nat} (lv' : List (Nat × Value)) (is : List Nat) (hdg : decode cc pc = .ok (.astore_n n, 1)) (hi : (n : Nat) = i) (hn : i < nL) (hl' : lv_pick ((i, Value.ref x) :: lv.filter (fun q => !(q.1 == i) && !(q.1 + 1 == i && q.2.category == 2))) is = lv') (kk : jJ X l d A nL cells slots ws lv' (pc + 1) st) : jJ X l d A nL cells slots ws lv pc (.ref x :: st) := by
  obtain ⟨p, e, R, s, m, args, below, meth, c, Q⟩ := X
  exact fun ls H locs hl hP hD hS => lv_astore_n C.1.1 C.1.2.1 hdg hi hl hn rfl (fun ls' h => kk ls' H locs (lv_sub h is hl') hP hD hS)
theorem j_astore (C : jC Ef X l d A cc nL Ts own rm ret) {i : Nat} {x : Nat} (lv' : List (Nat × Value)) (is : List Nat) (hdg : decode cc pc = .ok (.astore i, 2)) (hn : i < nL) (hl' : lv_pick ((i, Value.ref x) :: lv.filter (fun q => !(q.1 == i) && !(q.1 + 1 == i && q.2.category == 2))) is = lv') (kk : jJ X l d A nL cells slots ws lv' (pc + 2) st) : jJ X l d A nL cells slots ws lv pc (.ref x :: st) := by
  obtain ⟨p, e, R, s, m, args, below, meth, c, Q⟩ := X
  exact fun ls H locs hl hP hD hS => lv_astore C.1.1 C.1.2.1 hdg hl hn rfl (fun ls' h => kk ls' H locs (lv_sub h is hl') hP hD hS)
theorem j_astore_nN (C : jC Ef X l d A cc nL Ts own rm ret) {n : Fin 4} {i : Nat} (lv' : List (Nat × Value)) (is : List Nat) (hdg : decode cc pc = .ok (.astore_n n, 1)) (hi : (n : Nat) = i) (hn : i < nL) (hl' : lv_pick ((i, Value.null) :: lv.filter (fun q => !(q.1 == i) && !(q.1 + 1 == i && q.2.category == 2))) is = lv') (kk : jJ X l d A nL cells slots ws lv' (pc + 1) st) : jJ X l d A nL cells slots ws lv pc (.null :: st) := by
  obtain ⟨p, e, R, s, m, args, below, meth, c, Q⟩ := X
  exact fun ls H locs hl hP hD hS => lv_astore_nN C.1.1 C.1.2.1 hdg hi hl hn rfl (fun ls' h => kk ls' H locs (lv_sub h is hl') hP hD hS)
theorem j_astoreN (C : jC Ef X l d A cc nL Ts own rm ret) {i : Nat} (lv' : List (Nat × Value)) (is : List Nat) (hdg : decode cc pc = .ok (.astore i, 2)) (hn : i < nL) (hl' : lv_pick ((i, Value.null) :: lv.filter (fun q => !(q.1 == i) && !(q.1 + 1 == i && q.2.category == 2))) is = lv') (kk : jJ X l d A nL cells slots ws lv' (pc + 2) st) : jJ X l d A nL cells slots ws lv pc (.null :: st) := by
  obtain ⟨p, e, R, s, m, args, below, meth, c, Q⟩ := X
  exact fun ls H locs hl hP hD hS => lv_astoreN C.1.1 C.1.2.1 hdg hl hn rfl (fun ls' h => kk ls' H locs (lv_sub h is hl') hP hD hS)
theorem j_iinc (C : jC Ef X l d A cc nL Ts own rm ret) {i : Nat} {n : Int} {x : Int32} (v : Int32) (lv' : List (Nat × Value)) (k : Nat) (is : List Nat) (hdg : decode cc pc = .ok (.iinc i n, 3)) (hk : lv[k]? = some (i, .int x)) (hv : x + Int32.ofInt n = v) (hn : i < nL) (hl' : lv_pick ((i, Value.int v) :: lv.filter (fun q => !(q.1 == i) && !(q.1 + 1 == i && q.2.category == 2))) is = lv') (kk : jJ X l d A nL cells slots ws lv' (pc + 3) st) : jJ X l d A nL cells slots ws lv pc st := by
  obtain ⟨p, e, R, s, m, args, below, meth, c, Q⟩ := X
  exact fun ls H locs hl hP hD hS => lv_iinc C.1.1 C.1.2.1 hdg hl hk hv hn rfl (fun ls' h => kk ls' H locs (lv_sub h is hl') hP hD hS)
theorem j_iadd (C : jC Ef X l d A cc nL Ts own rm ret) {x y : Int32} (hdg : decode cc pc = .ok (.iadd, 1)) (k : jJ X l d A nL cells slots ws lv (pc + 1) (.int (x + y) :: st)) : jJ X l d A nL cells slots ws lv pc (.int y :: .int x :: st) := by
  obtain ⟨p, e, R, s, m, args, below, meth, c, Q⟩ := X
  exact fun ls H locs hl hP hD hS => lv_iadd C.1.1 C.1.2.1 hdg (k ls H locs hl hP hD hS)
theorem j_isub (C : jC Ef X l d A cc nL Ts own rm ret) {x y : Int32} (hdg : decode cc pc = .ok (.isub, 1)) (k : jJ X l d A nL cells slots ws lv (pc + 1) (.int (x - y) :: st)) : jJ X l d A nL cells slots ws lv pc (.int y :: .int x :: st) := by
  obtain ⟨p, e, R, s, m, args, below, meth, c, Q⟩ := X
  exact fun ls H locs hl hP hD hS => lv_isub C.1.1 C.1.2.1 hdg (k ls H locs hl hP hD hS)
theorem j_imul (C : jC Ef X l d A cc nL Ts own rm ret) {x y : Int32} (hdg : decode cc pc = .ok (.imul, 1)) (k : jJ X l d A nL cells slots ws lv (pc + 1) (.int (x * y) :: st)) : jJ X l d A nL cells slots ws lv pc (.int y :: .int x :: st) := by
  obtain ⟨p, e, R, s, m, args, below, meth, c, Q⟩ := X
  exact fun ls H locs hl hP hD hS => lv_imul C.1.1 C.1.2.1 hdg (k ls H locs hl hP hD hS)
theorem j_iand (C : jC Ef X l d A cc nL Ts own rm ret) {x y : Int32} (hdg : decode cc pc = .ok (.iand, 1)) (k : jJ X l d A nL cells slots ws lv (pc + 1) (.int (x &&& y) :: st)) : jJ X l d A nL cells slots ws lv pc (.int y :: .int x :: st) := by
  obtain ⟨p, e, R, s, m, args, below, meth, c, Q⟩ := X
  exact fun ls H locs hl hP hD hS => lv_iand C.1.1 C.1.2.1 hdg (k ls H locs hl hP hD hS)
theorem j_ior (C : jC Ef X l d A cc nL Ts own rm ret) {x y : Int32} (hdg : decode cc pc = .ok (.ior, 1)) (k : jJ X l d A nL cells slots ws lv (pc + 1) (.int (x ||| y) :: st)) : jJ X l d A nL cells slots ws lv pc (.int y :: .int x :: st) := by
  obtain ⟨p, e, R, s, m, args, below, meth, c, Q⟩ := X
  exact fun ls H locs hl hP hD hS => lv_ior C.1.1 C.1.2.1 hdg (k ls H locs hl hP hD hS)
theorem j_ishl (C : jC Ef X l d A cc nL Ts own rm ret) {x y : Int32} (hdg : decode cc pc = .ok (.ishl, 1)) (k : jJ X l d A nL cells slots ws lv (pc + 1) (.int (x <<< (y &&& 31)) :: st)) : jJ X l d A nL cells slots ws lv pc (.int y :: .int x :: st) := by
  obtain ⟨p, e, R, s, m, args, below, meth, c, Q⟩ := X
  exact fun ls H locs hl hP hD hS => lv_ishl C.1.1 C.1.2.1 hdg (k ls H locs hl hP hD hS)
theorem j_ishr (C : jC Ef X l d A cc nL Ts own rm ret) {x y : Int32} (hdg : decode cc pc = .ok (.ishr, 1)) (k : jJ X l d A nL cells slots ws lv (pc + 1) (.int (x >>> (y &&& 31)) :: st)) : jJ X l d A nL cells slots ws lv pc (.int y :: .int x :: st) := by
  obtain ⟨p, e, R, s, m, args, below, meth, c, Q⟩ := X
  exact fun ls H locs hl hP hD hS => lv_ishr C.1.1 C.1.2.1 hdg (k ls H locs hl hP hD hS)
theorem j_idiv (C : jC Ef X l d A cc nL Ts own rm ret) {x y : Int32} (hdg : decode cc pc = .ok (.idiv, 1)) (hne : ¬ y = 0) (k : jJ X l d A nL cells slots ws lv (pc + 1) (.int (x / y) :: st)) : jJ X l d A nL cells slots ws lv pc (.int y :: .int x :: st) := by
  obtain ⟨p, e, R, s, m, args, below, meth, c, Q⟩ := X
  exact fun ls H locs hl hP hD hS => lv_idiv C.1.1 C.1.2.1 hdg hne (k ls H locs hl hP hD hS)
theorem j_irem (C : jC Ef X l d A cc nL Ts own rm ret) {x y : Int32} (hdg : decode cc pc = .ok (.irem, 1)) (hne : ¬ y = 0) (k : jJ X l d A nL cells slots ws lv (pc + 1) (.int (x - x / y * y) :: st)) : jJ X l d A nL cells slots ws lv pc (.int y :: .int x :: st) := by
  obtain ⟨p, e, R, s, m, args, below, meth, c, Q⟩ := X
  exact fun ls H locs hl hP hD hS => lv_irem C.1.1 C.1.2.1 hdg hne (k ls H locs hl hP hD hS)
theorem j_ladd (C : jC Ef X l d A cc nL Ts own rm ret) {x y : Int64} (hdg : decode cc pc = .ok (.ladd, 1)) (k : jJ X l d A nL cells slots ws lv (pc + 1) (.long (x + y) :: st)) : jJ X l d A nL cells slots ws lv pc (.long y :: .long x :: st) := by
  obtain ⟨p, e, R, s, m, args, below, meth, c, Q⟩ := X
  exact fun ls H locs hl hP hD hS => lv_ladd C.1.1 C.1.2.1 hdg (k ls H locs hl hP hD hS)
theorem j_lsub (C : jC Ef X l d A cc nL Ts own rm ret) {x y : Int64} (hdg : decode cc pc = .ok (.lsub, 1)) (k : jJ X l d A nL cells slots ws lv (pc + 1) (.long (x - y) :: st)) : jJ X l d A nL cells slots ws lv pc (.long y :: .long x :: st) := by
  obtain ⟨p, e, R, s, m, args, below, meth, c, Q⟩ := X
  exact fun ls H locs hl hP hD hS => lv_lsub C.1.1 C.1.2.1 hdg (k ls H locs hl hP hD hS)
theorem j_lmul (C : jC Ef X l d A cc nL Ts own rm ret) {x y : Int64} (hdg : decode cc pc = .ok (.lmul, 1)) (k : jJ X l d A nL cells slots ws lv (pc + 1) (.long (x * y) :: st)) : jJ X l d A nL cells slots ws lv pc (.long y :: .long x :: st) := by
  obtain ⟨p, e, R, s, m, args, below, meth, c, Q⟩ := X
  exact fun ls H locs hl hP hD hS => lv_lmul C.1.1 C.1.2.1 hdg (k ls H locs hl hP hD hS)
theorem j_ldiv (C : jC Ef X l d A cc nL Ts own rm ret) {x y : Int64} (hdg : decode cc pc = .ok (.ldiv, 1)) (hne : ¬ y = 0) (k : jJ X l d A nL cells slots ws lv (pc + 1) (.long (x / y) :: st)) : jJ X l d A nL cells slots ws lv pc (.long y :: .long x :: st) := by
  obtain ⟨p, e, R, s, m, args, below, meth, c, Q⟩ := X
  exact fun ls H locs hl hP hD hS => lv_ldiv C.1.1 C.1.2.1 hdg hne (k ls H locs hl hP hD hS)
theorem j_lrem (C : jC Ef X l d A cc nL Ts own rm ret) {x y : Int64} (hdg : decode cc pc = .ok (.lrem, 1)) (hne : ¬ y = 0) (k : jJ X l d A nL cells slots ws lv (pc + 1) (.long (x - x / y * y) :: st)) : jJ X l d A nL cells slots ws lv pc (.long y :: .long x :: st) := by
  obtain ⟨p, e, R, s, m, args, below, meth, c, Q⟩ := X
  exact fun ls H locs hl hP hD hS => lv_lrem C.1.1 C.1.2.1 hdg hne (k ls H locs hl hP hD hS)
theorem j_iushr (C : jC Ef X l d A cc nL Ts own rm ret) {x y : Int32} (hdg : decode cc pc = .ok (.iushr, 1)) (k : jJ X l d A nL cells slots ws lv (pc + 1) (.int ((x.toUInt32 >>> (y.toUInt32 &&& Int32.toUInt32 31)).toInt32) :: st)) : jJ X l d A nL cells slots ws lv pc (.int y :: .int x :: st) := by
  obtain ⟨p, e, R, s, m, args, below, meth, c, Q⟩ := X
  exact fun ls H locs hl hP hD hS => lv_iushr C.1.1 C.1.2.1 hdg rfl (k ls H locs hl hP hD hS)
theorem j_i2l (C : jC Ef X l d A cc nL Ts own rm ret) {x : Int32} (hdg : decode cc pc = .ok (.i2l, 1)) (k : jJ X l d A nL cells slots ws lv (pc + 1) (.long (x.toInt64) :: st)) : jJ X l d A nL cells slots ws lv pc (.int x :: st) := by
  obtain ⟨p, e, R, s, m, args, below, meth, c, Q⟩ := X
  exact fun ls H locs hl hP hD hS => lv_i2l C.1.1 C.1.2.1 hdg rfl (k ls H locs hl hP hD hS)
theorem j_i2b (C : jC Ef X l d A cc nL Ts own rm ret) {x : Int32} (hdg : decode cc pc = .ok (.i2b, 1)) (k : jJ X l d A nL cells slots ws lv (pc + 1) (.int (x.toInt8.toInt32) :: st)) : jJ X l d A nL cells slots ws lv pc (.int x :: st) := by
  obtain ⟨p, e, R, s, m, args, below, meth, c, Q⟩ := X
  exact fun ls H locs hl hP hD hS => lv_i2b C.1.1 C.1.2.1 hdg rfl (k ls H locs hl hP hD hS)
theorem j_lcmp (C : jC Ef X l d A cc nL Ts own rm ret) {x y : Int64} (hdg : decode cc pc = .ok (.lcmp, 1)) (k : jJ X l d A nL cells slots ws lv (pc + 1) (.int (lg_cmp x y) :: st)) : jJ X l d A nL cells slots ws lv pc (.long y :: .long x :: st) := by
  obtain ⟨p, e, R, s, m, args, below, meth, c, Q⟩ := X
  exact fun ls H locs hl hP hD hS => W.lcmp C.1.1 C.1.2.1 hdg (k ls H locs hl hP hD hS)
theorem j_dup (C : jC Ef X l d A cc nL Ts own rm ret) {va : Value} (hdg : decode cc pc = .ok (.dup, 1)) (hva : va.category = 1) (k : jJ X l d A nL cells slots ws lv (pc + 1) (va :: va :: st)) : jJ X l d A nL cells slots ws lv pc (va :: st) := by
  obtain ⟨p, e, R, s, m, args, below, meth, c, Q⟩ := X
  exact fun ls H locs hl hP hD hS => lv_dup C.1.1 C.1.2.1 hdg hva (k ls H locs hl hP hD hS)
theorem j_pop (C : jC Ef X l d A cc nL Ts own rm ret) {va : Value} (hdg : decode cc pc = .ok (.pop, 1)) (hva : va.category = 1) (k : jJ X l d A nL cells slots ws lv (pc + 1) st) : jJ X l d A nL cells slots ws lv pc (va :: st) := by
  obtain ⟨p, e, R, s, m, args, below, meth, c, Q⟩ := X
  exact fun ls H locs hl hP hD hS => lv_pop C.1.1 C.1.2.1 hdg hva (k ls H locs hl hP hD hS)
theorem j_dup_x1 (C : jC Ef X l d A cc nL Ts own rm ret) {va vb : Value} (hdg : decode cc pc = .ok (.dup_x1, 1)) (hva : va.category = 1) (hvb : vb.category = 1) (k : jJ X l d A nL cells slots ws lv (pc + 1) (va :: vb :: va :: st)) : jJ X l d A nL cells slots ws lv pc (va :: vb :: st) := by
  obtain ⟨p, e, R, s, m, args, below, meth, c, Q⟩ := X
  exact fun ls H locs hl hP hD hS => lv_dup_x1 C.1.1 C.1.2.1 hdg hva hvb (k ls H locs hl hP hD hS)
theorem j_dup2 (C : jC Ef X l d A cc nL Ts own rm ret) {va vb : Value} (hdg : decode cc pc = .ok (.dup2, 1)) (hva : va.category = 1) (hvb : vb.category = 1) (k : jJ X l d A nL cells slots ws lv (pc + 1) (va :: vb :: va :: vb :: st)) : jJ X l d A nL cells slots ws lv pc (va :: vb :: st) := by
  obtain ⟨p, e, R, s, m, args, below, meth, c, Q⟩ := X
  exact fun ls H locs hl hP hD hS => lv_dup2_11 C.1.1 C.1.2.1 hdg hva hvb (k ls H locs hl hP hD hS)
theorem j_null (C : jC Ef X l d A cc nL Ts own rm ret) (hdg : decode cc pc = .ok (.aconst_null, 1)) (k : jJ X l d A nL cells slots ws lv (pc + 1) (.null :: st)) : jJ X l d A nL cells slots ws lv pc st := by
  obtain ⟨p, e, R, s, m, args, below, meth, c, Q⟩ := X
  exact fun ls H locs hl hP hD hS => lv_null C.1.1 C.1.2.1 hdg (k ls H locs hl hP hD hS)
theorem j_goto (C : jC Ef X l d A cc nL Ts own rm ret) {off : Int} (tgt : Nat) (hdg : decode cc pc = .ok (.goto off, 3)) (ht : (pc : Int) + off = (tgt : Int)) (k : jJ X l d A nL cells slots ws lv tgt st) : jJ X l d A nL cells slots ws lv pc st := by
  obtain ⟨p, e, R, s, m, args, below, meth, c, Q⟩ := X
  exact fun ls H locs hl hP hD hS => lv_goto C.1.1 C.1.2.1 hdg ht (k ls H locs hl hP hD hS)
theorem j_ifnonnull (C : jC Ef X l d A cc nL Ts own rm ret) {x : Nat} {off : Int} (tgt : Nat) (hdg : decode cc pc = .ok (.ifnonnull off, 3)) (ht : (pc : Int) + off = (tgt : Int)) (k : jJ X l d A nL cells slots ws lv tgt st) : jJ X l d A nL cells slots ws lv pc (.ref x :: st) := by
  obtain ⟨p, e, R, s, m, args, below, meth, c, Q⟩ := X
  exact fun ls H locs hl hP hD hS => lv_ifnonnull C.1.1 C.1.2.1 hdg ht (k ls H locs hl hP hD hS)
theorem j_ifnull (C : jC Ef X l d A cc nL Ts own rm ret) {x : Nat} {off : Int} (hdg : decode cc pc = .ok (.ifnull off, 3)) (k : jJ X l d A nL cells slots ws lv (pc + 3) st) : jJ X l d A nL cells slots ws lv pc (.ref x :: st) := by
  obtain ⟨p, e, R, s, m, args, below, meth, c, Q⟩ := X
  exact fun ls H locs hl hP hD hS => lv_ifnull C.1.1 C.1.2.1 hdg (k ls H locs hl hP hD hS)
theorem j_ifnullN (C : jC Ef X l d A cc nL Ts own rm ret) {off : Int} (tgt : Nat) (hdg : decode cc pc = .ok (.ifnull off, 3)) (ht : (pc : Int) + off = (tgt : Int)) (k : jJ X l d A nL cells slots ws lv tgt st) : jJ X l d A nL cells slots ws lv pc (.null :: st) := by
  obtain ⟨p, e, R, s, m, args, below, meth, c, Q⟩ := X
  exact fun ls H locs hl hP hD hS => lv_ifnullN C.1.1 C.1.2.1 hdg ht (k ls H locs hl hP hD hS)
theorem j_ifnonnullN (C : jC Ef X l d A cc nL Ts own rm ret) {off : Int} (hdg : decode cc pc = .ok (.ifnonnull off, 3)) (k : jJ X l d A nL cells slots ws lv (pc + 3) st) : jJ X l d A nL cells slots ws lv pc (.null :: st) := by
  obtain ⟨p, e, R, s, m, args, below, meth, c, Q⟩ := X
  exact fun ls H locs hl hP hD hS => lv_ifnonnullN C.1.1 C.1.2.1 hdg (k ls H locs hl hP hD hS)
theorem j_if_eq (C : jC Ef X l d A cc nL Ts own rm ret) {x : Int32} {off : Int} (tgt : Nat) (hdg : decode cc pc = .ok (.ifCond .eq off, 3)) (ht : (pc : Int) + off = (tgt : Int)) (kt : x = 0 → jJ X l d A nL cells slots ws lv tgt st) (kf : ¬ x = 0 → jJ X l d A nL cells slots ws lv (pc + 3) st) : jJ X l d A nL cells slots ws lv pc (.int x :: st) := by
  obtain ⟨p, e, R, s, m, args, below, meth, c, Q⟩ := X
  exact fun ls H locs hl hP hD hS => lv_if_eq C.1.1 C.1.2.1 hdg ht (fun h => kt h ls H locs hl hP hD hS) (fun h => kf h ls H locs hl hP hD hS)
theorem j_icmp_eq (C : jC Ef X l d A cc nL Ts own rm ret) {x y : Int32} {off : Int} (tgt : Nat) (hdg : decode cc pc = .ok (.if_icmp .eq off, 3)) (ht : (pc : Int) + off = (tgt : Int)) (kt : x = y → jJ X l d A nL cells slots ws lv tgt st) (kf : ¬ x = y → jJ X l d A nL cells slots ws lv (pc + 3) st) : jJ X l d A nL cells slots ws lv pc (.int y :: .int x :: st) := by
  obtain ⟨p, e, R, s, m, args, below, meth, c, Q⟩ := X
  exact fun ls H locs hl hP hD hS => lv_icmp_eq C.1.1 C.1.2.1 hdg ht (fun h => kt h ls H locs hl hP hD hS) (fun h => kf h ls H locs hl hP hD hS)
theorem j_if_ne (C : jC Ef X l d A cc nL Ts own rm ret) {x : Int32} {off : Int} (tgt : Nat) (hdg : decode cc pc = .ok (.ifCond .ne off, 3)) (ht : (pc : Int) + off = (tgt : Int)) (kt : ¬ x = 0 → jJ X l d A nL cells slots ws lv tgt st) (kf : x = 0 → jJ X l d A nL cells slots ws lv (pc + 3) st) : jJ X l d A nL cells slots ws lv pc (.int x :: st) := by
  obtain ⟨p, e, R, s, m, args, below, meth, c, Q⟩ := X
  exact fun ls H locs hl hP hD hS => lv_if_ne C.1.1 C.1.2.1 hdg ht (fun h => kt h ls H locs hl hP hD hS) (fun h => kf h ls H locs hl hP hD hS)
theorem j_icmp_ne (C : jC Ef X l d A cc nL Ts own rm ret) {x y : Int32} {off : Int} (tgt : Nat) (hdg : decode cc pc = .ok (.if_icmp .ne off, 3)) (ht : (pc : Int) + off = (tgt : Int)) (kt : ¬ x = y → jJ X l d A nL cells slots ws lv tgt st) (kf : x = y → jJ X l d A nL cells slots ws lv (pc + 3) st) : jJ X l d A nL cells slots ws lv pc (.int y :: .int x :: st) := by
  obtain ⟨p, e, R, s, m, args, below, meth, c, Q⟩ := X
  exact fun ls H locs hl hP hD hS => lv_icmp_ne C.1.1 C.1.2.1 hdg ht (fun h => kt h ls H locs hl hP hD hS) (fun h => kf h ls H locs hl hP hD hS)
theorem j_if_lt (C : jC Ef X l d A cc nL Ts own rm ret) {x : Int32} {off : Int} (tgt : Nat) (hdg : decode cc pc = .ok (.ifCond .lt off, 3)) (ht : (pc : Int) + off = (tgt : Int)) (kt : x < 0 → jJ X l d A nL cells slots ws lv tgt st) (kf : ¬ x < 0 → jJ X l d A nL cells slots ws lv (pc + 3) st) : jJ X l d A nL cells slots ws lv pc (.int x :: st) := by
  obtain ⟨p, e, R, s, m, args, below, meth, c, Q⟩ := X
  exact fun ls H locs hl hP hD hS => lv_if_lt C.1.1 C.1.2.1 hdg ht (fun h => kt h ls H locs hl hP hD hS) (fun h => kf h ls H locs hl hP hD hS)
theorem j_icmp_lt (C : jC Ef X l d A cc nL Ts own rm ret) {x y : Int32} {off : Int} (tgt : Nat) (hdg : decode cc pc = .ok (.if_icmp .lt off, 3)) (ht : (pc : Int) + off = (tgt : Int)) (kt : x < y → jJ X l d A nL cells slots ws lv tgt st) (kf : ¬ x < y → jJ X l d A nL cells slots ws lv (pc + 3) st) : jJ X l d A nL cells slots ws lv pc (.int y :: .int x :: st) := by
  obtain ⟨p, e, R, s, m, args, below, meth, c, Q⟩ := X
  exact fun ls H locs hl hP hD hS => lv_icmp_lt C.1.1 C.1.2.1 hdg ht (fun h => kt h ls H locs hl hP hD hS) (fun h => kf h ls H locs hl hP hD hS)
theorem j_if_ge (C : jC Ef X l d A cc nL Ts own rm ret) {x : Int32} {off : Int} (tgt : Nat) (hdg : decode cc pc = .ok (.ifCond .ge off, 3)) (ht : (pc : Int) + off = (tgt : Int)) (kt : 0 ≤ x → jJ X l d A nL cells slots ws lv tgt st) (kf : ¬ 0 ≤ x → jJ X l d A nL cells slots ws lv (pc + 3) st) : jJ X l d A nL cells slots ws lv pc (.int x :: st) := by
  obtain ⟨p, e, R, s, m, args, below, meth, c, Q⟩ := X
  exact fun ls H locs hl hP hD hS => lv_if_ge C.1.1 C.1.2.1 hdg ht (fun h => kt h ls H locs hl hP hD hS) (fun h => kf h ls H locs hl hP hD hS)
theorem j_icmp_ge (C : jC Ef X l d A cc nL Ts own rm ret) {x y : Int32} {off : Int} (tgt : Nat) (hdg : decode cc pc = .ok (.if_icmp .ge off, 3)) (ht : (pc : Int) + off = (tgt : Int)) (kt : y ≤ x → jJ X l d A nL cells slots ws lv tgt st) (kf : ¬ y ≤ x → jJ X l d A nL cells slots ws lv (pc + 3) st) : jJ X l d A nL cells slots ws lv pc (.int y :: .int x :: st) := by
  obtain ⟨p, e, R, s, m, args, below, meth, c, Q⟩ := X
  exact fun ls H locs hl hP hD hS => lv_icmp_ge C.1.1 C.1.2.1 hdg ht (fun h => kt h ls H locs hl hP hD hS) (fun h => kf h ls H locs hl hP hD hS)
theorem j_if_gt (C : jC Ef X l d A cc nL Ts own rm ret) {x : Int32} {off : Int} (tgt : Nat) (hdg : decode cc pc = .ok (.ifCond .gt off, 3)) (ht : (pc : Int) + off = (tgt : Int)) (kt : 0 < x → jJ X l d A nL cells slots ws lv tgt st) (kf : ¬ 0 < x → jJ X l d A nL cells slots ws lv (pc + 3) st) : jJ X l d A nL cells slots ws lv pc (.int x :: st) := by
  obtain ⟨p, e, R, s, m, args, below, meth, c, Q⟩ := X
  exact fun ls H locs hl hP hD hS => lv_if_gt C.1.1 C.1.2.1 hdg ht (fun h => kt h ls H locs hl hP hD hS) (fun h => kf h ls H locs hl hP hD hS)
theorem j_icmp_gt (C : jC Ef X l d A cc nL Ts own rm ret) {x y : Int32} {off : Int} (tgt : Nat) (hdg : decode cc pc = .ok (.if_icmp .gt off, 3)) (ht : (pc : Int) + off = (tgt : Int)) (kt : y < x → jJ X l d A nL cells slots ws lv tgt st) (kf : ¬ y < x → jJ X l d A nL cells slots ws lv (pc + 3) st) : jJ X l d A nL cells slots ws lv pc (.int y :: .int x :: st) := by
  obtain ⟨p, e, R, s, m, args, below, meth, c, Q⟩ := X
  exact fun ls H locs hl hP hD hS => lv_icmp_gt C.1.1 C.1.2.1 hdg ht (fun h => kt h ls H locs hl hP hD hS) (fun h => kf h ls H locs hl hP hD hS)
theorem j_if_le (C : jC Ef X l d A cc nL Ts own rm ret) {x : Int32} {off : Int} (tgt : Nat) (hdg : decode cc pc = .ok (.ifCond .le off, 3)) (ht : (pc : Int) + off = (tgt : Int)) (kt : x ≤ 0 → jJ X l d A nL cells slots ws lv tgt st) (kf : ¬ x ≤ 0 → jJ X l d A nL cells slots ws lv (pc + 3) st) : jJ X l d A nL cells slots ws lv pc (.int x :: st) := by
  obtain ⟨p, e, R, s, m, args, below, meth, c, Q⟩ := X
  exact fun ls H locs hl hP hD hS => lv_if_le C.1.1 C.1.2.1 hdg ht (fun h => kt h ls H locs hl hP hD hS) (fun h => kf h ls H locs hl hP hD hS)
theorem j_icmp_le (C : jC Ef X l d A cc nL Ts own rm ret) {x y : Int32} {off : Int} (tgt : Nat) (hdg : decode cc pc = .ok (.if_icmp .le off, 3)) (ht : (pc : Int) + off = (tgt : Int)) (kt : x ≤ y → jJ X l d A nL cells slots ws lv tgt st) (kf : ¬ x ≤ y → jJ X l d A nL cells slots ws lv (pc + 3) st) : jJ X l d A nL cells slots ws lv pc (.int y :: .int x :: st) := by
  obtain ⟨p, e, R, s, m, args, below, meth, c, Q⟩ := X
  exact fun ls H locs hl hP hD hS => lv_icmp_le C.1.1 C.1.2.1 hdg ht (fun h => kt h ls H locs hl hP hD hS) (fun h => kf h ls H locs hl hP hD hS)
theorem j_tableIn (C : jC Ef X l d A cc nL Ts own rm ret) {dflt lo hi : Int} {offs : Array Int} {len : Nat} {x : Int32} {off : Int} (tgt : Nat) (hdg : decode cc pc = .ok (.tableswitch dflt lo hi offs, len)) (h1 : ¬ x.toInt < lo) (h2 : ¬ hi < x.toInt) (ho : offs[(x.toInt - lo).toNat]? = some off) (ht : (pc : Int) + off = (tgt : Int)) (k : jJ X l d A nL cells slots ws lv tgt st) : jJ X l d A nL cells slots ws lv pc (.int x :: st) := by
  obtain ⟨p, e, R, s, m, args, below, meth, c, Q⟩ := X
  exact fun ls H locs hl hP hD hS => lv_tableIn C.1.1 C.1.2.1 hdg h1 h2 ho ht (k ls H locs hl hP hD hS)
theorem j_tableOut (C : jC Ef X l d A cc nL Ts own rm ret) {dflt lo hi : Int} {offs : Array Int} {len : Nat} {x : Int32} (tgt : Nat) (hdg : decode cc pc = .ok (.tableswitch dflt lo hi offs, len)) (h : x.toInt < lo ∨ hi < x.toInt) (ht : (pc : Int) + dflt = (tgt : Int)) (k : jJ X l d A nL cells slots ws lv tgt st) : jJ X l d A nL cells slots ws lv pc (.int x :: st) := by
  obtain ⟨p, e, R, s, m, args, below, meth, c, Q⟩ := X
  exact fun ls H locs hl hP hD hS => lv_tableOut C.1.1 C.1.2.1 hdg h ht (k ls H locs hl hP hD hS)
theorem j_widen {k1 n1 : Nat} (hk : cells ≤ k1) (hn : slots ≤ n1) (k : jJ X l d A nL k1 n1 ws lv pc st) : jJ X l d A nL cells slots ws lv pc st := by
  obtain ⟨p, e, R, s, m, args, below, meth, c, Q⟩ := X
  exact fun ls H locs hl hP hD hS => W.widen hk hn (k ls H locs hl hP hD hS)
theorem j_ws {ws2 : va_W} (h : ws = ws2) (k : jJ X l d A nL cells slots ws2 lv pc st) : jJ X l d A nL cells slots ws lv pc st := h ▸ k
theorem j_st {st2 : List Value} (h : st = st2) (k : jJ X l d A nL cells slots ws lv pc st2) : jJ X l d A nL cells slots ws lv pc st := h ▸ k
theorem j_lvq {lv2 : List (Nat × Value)} (h : lv = lv2) (k : jJ X l d A nL cells slots ws lv2 pc st) : jJ X l d A nL cells slots ws lv pc st := h ▸ k
theorem j_get (C : jC Ef X l d A cc nL Ts own rm ret) {a ci idx : Nat} {fs : List Value} {v : Value} {Cn : String} {T : u_T} {N : Nat} (hin : ∀ w ∈ u_ws Cn T N, w ∈ Ts) (q0 k : Nat) (he : ws[q0]? = some (a, .inr (ci, fs))) (hc : vwCl[ci]? = some (Cn, T, N)) (hk : k < N) (hlink : Cond.fieldLink own idx (T k).1 (T k).2.1 (T k).2.2.1 ∈ Ts) (hv : fs[k]? = some v) (hdg : decode cc pc = .ok (.getfield idx, 3)) (kk : jJ X l d A nL cells slots ws lv (pc + 3) (v :: st)) : jJ X l d A nL cells slots ws lv pc (.ref a :: st) := by
  obtain ⟨p, e, R, s, m, args, below, meth, c, Q⟩ := X
  exact fun ls H locs hl hP hD hS => va_get C.1.1 C.1.2.1 C.1.2.2.2.2 hin C.1.2.2.2.1 C.2.1 hP q0 he hc k hk (C.1.2.2.2.2 _ hlink) (fun _ h => h) hv hdg (kk ls H locs hl hP hD hS)
theorem j_put (C : jC Ef X l d A cc nL Ts own rm ret) {a ci idx : Nat} {fs : List Value} {v : Value} {Cn : String} {T : u_T} {N : Nat} {ty0 : Nat → FieldType} {ty : FieldType} {ws2 : va_W} (hin : ∀ w ∈ u_ws Cn T N, w ∈ Ts) (hty : ∀ k, k < N → parseFieldDescriptor (T k).2.2.1 = some (ty0 k)) (hnm : ∀ a, a < N → ∀ b, b < N → a ≠ b → (T a).2.1 ≠ (T b).2.1) (q0 k : Nat) (he : ws[q0]? = some (a, .inr (ci, fs))) (hc : vwCl[ci]? = some (Cn, T, N)) (hk : k < N) (hlink : Cond.fieldLink own idx (T k).1 (T k).2.1 (T k).2.2.1 ∈ Ts) (hfin : (T k).2.2.2 = false) (hd : ty0 k = ty) (hn : narrow ty v = v) (hfit : fits ty v = true) (hlf : k < fs.length) (hw : ws.set q0 (a, .inr (ci, fs.set k v)) = ws2) (hdg : decode cc pc = .ok (.putfield idx, 3)) (kk : jJ X l d A nL cells slots ws2 lv (pc + 3) st) : jJ X l d A nL cells slots ws lv pc (v :: .ref a :: st) := by
  obtain ⟨p, e, R, s, m, args, below, meth, c, Q⟩ := X
  subst hw
  exact fun ls H locs hl hP hD hS => va_put C.1.1 C.1.2.1 C.1.2.2.2.2 hin ty0 hty hnm C.1.2.2.2.1 C.2.1 hP hD hS q0 he hc k hk (C.1.2.2.2.2 _ hlink) (fun _ h => h) hfin (hd ▸ hty k hk) hn hfit hlf hdg (fun H1 locs1 hP hD hS => kk ls H1 locs1 hl hP hD hS)
theorem j_getN (C : jC Ef X l d A cc nL Ts own rm ret) {a ci idx : Nat} {fs : List Value} {v : Value} {Cn : String} {T : u_T} {N : Nat} {host : String} (hin : ∀ w ∈ u_ws Cn T N, w ∈ Ts) (q0 k : Nat) (he : ws[q0]? = some (a, .inr (ci, fs))) (hc : vwCl[ci]? = some (Cn, T, N)) (hk : k < N) (hlink : ∀ (A' : Nat → Prop) (s' : State) (H' : Heap), Ef A' s' H' → va_Nw (Cond.fieldLinkNest own idx (T k).1 (T k).2.1 (T k).2.2.1 host) s') (hv : fs[k]? = some v) (hdg : decode cc pc = .ok (.getfield idx, 3)) (kk : jJ X l d A nL cells slots ws lv (pc + 3) (v :: st)) : jJ X l d A nL cells slots ws lv pc (.ref a :: st) := by
  obtain ⟨p, e, R, s, m, args, below, meth, c, Q⟩ := X
  exact fun ls H locs hl hP hD hS => va_getN C.1.1 C.1.2.1 C.1.2.2.2.2 hin C.1.2.2.2.1 C.2.1 hP q0 he hc k hk ((hlink _ _ _ C.2.2.2.2.2.2.1).use rfl) (fun _ h => h) hv hdg (kk ls H locs hl hP hD hS)
theorem j_putN (C : jC Ef X l d A cc nL Ts own rm ret) {a ci idx : Nat} {fs : List Value} {v : Value} {Cn : String} {T : u_T} {N : Nat} {ty0 : Nat → FieldType} {ty : FieldType} {ws2 : va_W} {host : String} (hin : ∀ w ∈ u_ws Cn T N, w ∈ Ts) (hty : ∀ k, k < N → parseFieldDescriptor (T k).2.2.1 = some (ty0 k)) (hnm : ∀ a, a < N → ∀ b, b < N → a ≠ b → (T a).2.1 ≠ (T b).2.1) (q0 k : Nat) (he : ws[q0]? = some (a, .inr (ci, fs))) (hc : vwCl[ci]? = some (Cn, T, N)) (hk : k < N) (hlink : ∀ (A' : Nat → Prop) (s' : State) (H' : Heap), Ef A' s' H' → va_Nw (Cond.fieldLinkNest own idx (T k).1 (T k).2.1 (T k).2.2.1 host) s') (hfin : (T k).2.2.2 = false) (hd : ty0 k = ty) (hn : narrow ty v = v) (hfit : fits ty v = true) (hlf : k < fs.length) (hw : ws.set q0 (a, .inr (ci, fs.set k v)) = ws2) (hdg : decode cc pc = .ok (.putfield idx, 3)) (kk : jJ X l d A nL cells slots ws2 lv (pc + 3) st) : jJ X l d A nL cells slots ws lv pc (v :: .ref a :: st) := by
  obtain ⟨p, e, R, s, m, args, below, meth, c, Q⟩ := X
  subst hw
  exact fun ls H locs hl hP hD hS => va_putN C.1.1 C.1.2.1 C.1.2.2.2.2 hin ty0 hty hnm C.1.2.2.2.1 C.2.1 hP hD hS q0 he hc k hk ((hlink _ _ _ C.2.2.2.2.2.2.1).use rfl) (fun _ h => h) hfin (hd ▸ hty k hk) hn hfit hlf hdg (fun H1 locs1 hP hD hS => kk ls H1 locs1 hl hP hD hS)
theorem j_iald (C : jC Ef X l d A cc nL Ts own rm ret) {a n : Nat} {f : Nat → Int32} {i : Int32} (q0 j : Nat) (he : ws[q0]? = some (a, .inl (d.2 1, n, .inl f))) (hi : i = nI j) (hj : j < n) (hn : n < 2 ^ 31) (hdg : decode cc pc = .ok (.iaload, 1)) (kk : jJ X l d A nL cells slots ws lv (pc + 1) (.int (f j) :: st)) : jJ X l d A nL cells slots ws lv pc (.int i :: .ref a :: st) := by
  obtain ⟨p, e, R, s, m, args, below, meth, c, Q⟩ := X
  subst hi
  exact fun ls H locs hl hP hD hS => va_iald C.1.1 C.1.2.1 C.2.1 hP q0 1 he rfl (vp_in_nI hj hn) hdg (by rw [nI_clamp (Nat.lt_trans hj hn)]; exact kk ls H locs hl hP hD hS)
theorem j_bald (C : jC Ef X l d A cc nL Ts own rm ret) {a n : Nat} {f : Nat → Int32} {i : Int32} (q0 j : Nat) (he : ws[q0]? = some (a, .inl (d.2 0, n, .inl f))) (hi : i = nI j) (hj : j < n) (hn : n < 2 ^ 31) (hdg : decode cc pc = .ok (.baload, 1)) (kk : jJ X l d A nL cells slots ws lv (pc + 1) (.int (f j) :: st)) : jJ X l d A nL cells slots ws lv pc (.int i :: .ref a :: st) := by
  obtain ⟨p, e, R, s, m, args, below, meth, c, Q⟩ := X
  subst hi
  exact fun ls H locs hl hP hD hS => va_bald C.1.1 C.1.2.1 C.2.1 hP q0 0 he rfl (vp_in_nI hj hn) hdg (by rw [nI_clamp (Nat.lt_trans hj hn)]; exact kk ls H locs hl hP hD hS)
theorem j_iast (C : jC Ef X l d A cc nL Ts own rm ret) {a n : Nat} {f : Nat → Int32} {i x : Int32} {ws2 : va_W} (q0 j : Nat) (he : ws[q0]? = some (a, .inl (d.2 1, n, .inl f))) (hi : i = nI j) (hj : j < n) (hn : n < 2 ^ 31) (hw : ws.set q0 (a, .inl (d.2 1, n, .inl (upd f j x))) = ws2) (hdg : decode cc pc = .ok (.iastore, 1)) (kk : jJ X l d A nL cells slots ws2 lv (pc + 1) st) : jJ X l d A nL cells slots ws lv pc (.int x :: .int i :: .ref a :: st) := by
  obtain ⟨p, e, R, s, m, args, below, meth, c, Q⟩ := X
  subst hi; subst hw
  intro ls H locs hl hP hD hS
  refine va_iast C.1.1 C.1.2.1 C.2.1 hP hD hS q0 1 he rfl (vp_in_nI hj hn) hdg (fun H1 locs1 hP hD hS => ?_)
  rw [nI_clamp (Nat.lt_trans hj hn)] at hP hD
  exact kk ls H1 locs1 hl hP hD hS
theorem j_bast (C : jC Ef X l d A cc nL Ts own rm ret) {a n : Nat} {f : Nat → Int32} {i x : Int32} {ws2 : va_W} (q0 j : Nat) (he : ws[q0]? = some (a, .inl (d.2 0, n, .inl f))) (hi : i = nI j) (hj : j < n) (hn : n < 2 ^ 31) (hw : ws.set q0 (a, .inl (d.2 0, n, .inl (upd f j (vp_nar .byte x)))) = ws2) (hdg : decode cc pc = .ok (.bastore, 1)) (kk : jJ X l d A nL cells slots ws2 lv (pc + 1) st) : jJ X l d A nL cells slots ws lv pc (.int x :: .int i :: .ref a :: st) := by
  obtain ⟨p, e, R, s, m, args, below, meth, c, Q⟩ := X
  subst hi; subst hw
  intro ls H locs hl hP hD hS
  refine va_bast C.1.1 C.1.2.1 C.2.1 hP hD hS q0 0 he rfl (vp_in_nI hj hn) hdg (fun H1 locs1 hP hD hS => ?_)
  rw [nI_clamp (Nat.lt_trans hj hn)] at hP hD
  exact kk ls H1 locs1 hl hP hD hS
theorem j_lald (C : jC Ef X l d A cc nL Ts own rm ret) {a n : Nat} {f : Nat → Int64} {i : Int32} (q0 j : Nat) (he : ws[q0]? = some (a, .inl (d.2 5, n, .inr (.inl f)))) (hi : i = nI j) (hj : j < n) (hn : n < 2 ^ 31) (hdg : decode cc pc = .ok (.laload, 1)) (kk : jJ X l d A nL cells slots ws lv (pc + 1) (.long (f j) :: st)) : jJ X l d A nL cells slots ws lv pc (.int i :: .ref a :: st) := by
  obtain ⟨p, e, R, s, m, args, below, meth, c, Q⟩ := X
  subst hi
  exact fun ls H locs hl hP hD hS => va_lald C.1.1 C.1.2.1 C.2.1 hP q0 5 he rfl (vp_in_nI hj hn) hdg (by rw [nI_clamp (Nat.lt_trans hj hn)]; exact kk ls H locs hl hP hD hS)
theorem j_last (C : jC Ef X l d A cc nL Ts own rm ret) {a n : Nat} {f : Nat → Int64} {i : Int32} {x : Int64} {ws2 : va_W} (q0 j : Nat) (he : ws[q0]? = some (a, .inl (d.2 5, n, .inr (.inl f)))) (hi : i = nI j) (hj : j < n) (hn : n < 2 ^ 31) (hw : ws.set q0 (a, .inl (d.2 5, n, .inr (.inl (vp_updL f j x)))) = ws2) (hdg : decode cc pc = .ok (.lastore, 1)) (kk : jJ X l d A nL cells slots ws2 lv (pc + 1) st) : jJ X l d A nL cells slots ws lv pc (.long x :: .int i :: .ref a :: st) := by
  obtain ⟨p, e, R, s, m, args, below, meth, c, Q⟩ := X
  subst hi; subst hw
  intro ls H locs hl hP hD hS
  refine va_last C.1.1 C.1.2.1 C.2.1 hP hD hS q0 5 he rfl (vp_in_nI hj hn) hdg (fun H1 locs1 hP hD hS => ?_)
  rw [nI_clamp (Nat.lt_trans hj hn)] at hP hD
  exact kk ls H1 locs1 hl hP hD hS
theorem j_aldq (C : jC Ef X l d A cc nL Ts own rm ret) {a n : Nat} {f : Nat → Option Nat} {i : Int32} {Cn : String} (q0 t0 j : Nat) {cA : ClassId} (he : ws[q0]? = some (a, .inl (cA, n, .inr (.inr (.inr (.inr f)))))) (ht : (jtys d)[t0]? = some (cA, .object Cn)) (hi : i = nI j) (hj : j < n) (hn : n < 2 ^ 31) (hdg : decode cc pc = .ok (.aaload, 1)) (kk : jJ X l d A nL cells slots ws lv (pc + 1) (va_rf (f j) :: st)) : jJ X l d A nL cells slots ws lv pc (.int i :: .ref a :: st) := by
  obtain ⟨p, e, R, s, m, args, below, meth, c, Q⟩ := X
  subst hi
  exact fun ls H locs hl hP hD hS => va_aldq C.1.1 C.1.2.1 C.2.1 hP q0 t0 he ht (vp_in_nI hj hn) hdg (by rw [nI_clamp (Nat.lt_trans hj hn)]; exact kk ls H locs hl hP hD hS)
theorem j_astq (C : jC Ef X l d A cc nL Ts own rm ret) {a n v : Nat} {f : Nat → Option Nat} {i : Int32} {r : vw_C} {vs : List Value} {ws2 : va_W} (q0 t0 qk ci j : Nat) {cA : ClassId} (he : ws[q0]? = some (a, .inl (cA, n, .inr (.inr (.inr (.inr f)))))) (ht : (jtys d)[t0]? = some (cA, .object r.1)) (hv : ws[qk]? = some (v, .inr (ci, vs))) (hc : vwCl[ci]? = some r) (hi : i = nI j) (hj : j < n) (hn : n < 2 ^ 31) (hw : ws.set q0 (a, .inl (cA, n, .inr (.inr (.inr (.inr (va_up f j (some v))))))) = ws2) (hdg : decode cc pc = .ok (.aastore, 1)) (kk : jJ X l d A nL cells slots ws2 lv (pc + 1) st) : jJ X l d A nL cells slots ws lv pc (.ref v :: .int i :: .ref a :: st) := by
  obtain ⟨p, e, R, s, m, args, below, meth, c, Q⟩ := X
  subst hi; subst hw
  intro ls H locs hl hP hD hS
  refine va_astq C.1.1 C.1.2.1 C.2.1 hP hD hS q0 t0 qk ci he ht hv hc (vp_in_nI hj hn) hdg (fun H1 locs1 hP hD hS => ?_)
  rw [nI_clamp (Nat.lt_trans hj hn)] at hP hD
  exact kk ls H1 locs1 hl hP hD hS
theorem j_alen (C : jC Ef X l d A cc nL Ts own rm ret) {a : Nat} {x : vp_A} {cA : ClassId} {ty : FieldType} (q0 t0 : Nat) (v : Int32) (he : ws[q0]? = some (a, .inl (cA, x))) (ht : (jtys d)[t0]? = some (cA, ty)) (hv : Int32.ofNat x.1 = v) (hdg : decode cc pc = .ok (.arraylength, 1)) (kk : jJ X l d A nL cells slots ws lv (pc + 1) (.int v :: st)) : jJ X l d A nL cells slots ws lv pc (.ref a :: st) := by
  obtain ⟨p, e, R, s, m, args, below, meth, c, Q⟩ := X
  exact fun ls H locs hl hP hD hS => va_alen C.1.1 C.1.2.1 C.2.1 hP q0 t0 he ht hv hdg (kk ls H locs hl hP hD hS)
theorem j_mmax (C : jC Ef X l d A cc nL Ts own rm ret) {idx : Nat} {x y : Int32} (hlink : Cond.methodLink own idx Lib.Math.max.name ∈ Ts) (hstat : Cond.static Lib.Math.max.name ∈ Ts) (hini : Cond.initialized "java/lang/Math" ∈ Ts) (hcode : Cond.code Lib.Math.max.name Lib.Math.max.code 2 (some .int) ∈ Ts) (hR : 1 ≤ rm.frames ∧ 21 ≤ rm.locals) (hst : (st.map fun v => v.category).sum ≤ 8) (hc : cells ≤ rm.cells ∧ slots ≤ rm.slots) (hdg : decode cc pc = .ok (.invokestatic idx, 3)) (kk : jJ X l d A nL cells slots ws lv (pc + 3) (.int (if x < y then y else x) :: st)) : jJ X l d A nL cells slots ws lv pc (.int y :: .int x :: st) := by
  obtain ⟨p, e, R, s, m, args, below, meth, c, Q⟩ := X
  intro ls H locs hl hP hD hS
  have hr : R = rm := C.2.2.2.1
  subst hr
  exact va_mmax C.1.1 C.1.2.1 (C.1.2.2.1.trans hl.1.symm) C.1.2.2.2.1 (C.1.2.2.2.2 _ hlink) (C.1.2.2.2.2 _ hstat) (C.1.2.2.2.2 _ hini) (C.1.2.2.2.2 _ hcode) hR.1 (by omega) hc.1 hc.2 hdg (kk ls H locs hl hP hD hS)
theorem j_mmin (C : jC Ef X l d A cc nL Ts own rm ret) {idx : Nat} {x y : Int32} (hlink : Cond.methodLink own idx Lib.Math.min.name ∈ Ts) (hstat : Cond.static Lib.Math.min.name ∈ Ts) (hini : Cond.initialized "java/lang/Math" ∈ Ts) (hcode : Cond.code Lib.Math.min.name Lib.Math.min.code 2 (some .int) ∈ Ts) (hR : 1 ≤ rm.frames ∧ 21 ≤ rm.locals) (hst : (st.map fun v => v.category).sum ≤ 8) (hc : cells ≤ rm.cells ∧ slots ≤ rm.slots) (hdg : decode cc pc = .ok (.invokestatic idx, 3)) (kk : jJ X l d A nL cells slots ws lv (pc + 3) (.int (if y < x then y else x) :: st)) : jJ X l d A nL cells slots ws lv pc (.int y :: .int x :: st) := by
  obtain ⟨p, e, R, s, m, args, below, meth, c, Q⟩ := X
  intro ls H locs hl hP hD hS
  have hr : R = rm := C.2.2.2.1
  subst hr
  exact va_mmin C.1.1 C.1.2.1 (C.1.2.2.1.trans hl.1.symm) C.1.2.2.2.1 (C.1.2.2.2.2 _ hlink) (C.1.2.2.2.2 _ hstat) (C.1.2.2.2.2 _ hini) (C.1.2.2.2.2 _ hcode) hR.1 (by omega) hc.1 hc.2 hdg (kk ls H locs hl hP hD hS)
theorem j_iret {v : Int32} {post : Int32 → va_W → Prop} (C : jC Ef X l d A cc nL Ts own rm (some .int)) (hQ : jQi X d A cells slots post) (hdg : decode cc pc = .ok (.ireturn, 1)) (hp : post v ws) : jJ X l d A nL cells slots ws lv pc [.int v] := by
  obtain ⟨p, e, R, s, m, args, below, meth, c, Q⟩ := X
  intro ls H locs hl hP hD hS
  have hq : Q = _ := hQ
  subst hq
  exact W.iret C.1.1 C.1.2.1 C.2.2.2.2.1 (fun t ht hW => ⟨⟨v, ws, rfl, hp, by rw [ht]; exact hP, va_K.moved hW.alike C.2.1, hD⟩, hS.F ht⟩) hS.2.2 hdg C.2.2.2.2.2.1
theorem j_zret {v : Int32} {post : Int32 → va_W → Prop} {ty : FieldType} (C : jC Ef X l d A cc nL Ts own rm (some ty)) (hQ : jQi X d A cells slots post) (hn : narrow ty (.int v) = .int v) (hdg : decode cc pc = .ok (.ireturn, 1)) (hp : post v ws) : jJ X l d A nL cells slots ws lv pc [.int v] := by
  obtain ⟨p, e, R, s, m, args, below, meth, c, Q⟩ := X
  intro ls H locs hl hP hD hS
  have hq : Q = _ := hQ
  subst hq
  exact W.zret C.1.1 C.1.2.1 C.2.2.2.2.1 hn (fun t ht hW => ⟨⟨v, ws, rfl, hp, by rw [ht]; exact hP, va_K.moved hW.alike C.2.1, hD⟩, hS.F ht⟩) hS.2.2 hdg C.2.2.2.2.2.1
theorem j_lret {v : Int64} {post : Int64 → va_W → Prop} (C : jC Ef X l d A cc nL Ts own rm (some .long)) (hQ : jQl X d A cells slots post) (hdg : decode cc pc = .ok (.lreturn, 1)) (hp : post v ws) : jJ X l d A nL cells slots ws lv pc [.long v] := by
  obtain ⟨p, e, R, s, m, args, below, meth, c, Q⟩ := X
  intro ls H locs hl hP hD hS
  have hq : Q = _ := hQ
  subst hq
  exact W.lret C.1.1 C.1.2.1 C.2.2.2.2.1 (fun t ht hW => ⟨⟨v, ws, rfl, hp, by rw [ht]; exact hP, va_K.moved hW.alike C.2.1, hD⟩, hS.F ht⟩) hS.2.2 hdg C.2.2.2.2.2.1
theorem j_vret {post : va_W → Prop} (C : jC Ef X l d A cc nL Ts own rm none) (hQ : jQv X d A cells slots post) (hdg : decode cc pc = .ok (.return_, 1)) (hp : post ws) : jJ X l d A nL cells slots ws lv pc [] := by
  obtain ⟨p, e, R, s, m, args, below, meth, c, Q⟩ := X
  intro ls H locs hl hP hD hS
  have hq : Q = _ := hQ
  subst hq
  exact W.vret C.1.1 C.1.2.1 C.2.2.2.2.1 (fun t ht hW => ⟨⟨ws, rfl, hp, by rw [ht]; exact hP, va_K.moved hW.alike C.2.1, hD⟩, hS.F ht⟩) hS.2.2 hdg C.2.2.2.2.2.1
end JROWS

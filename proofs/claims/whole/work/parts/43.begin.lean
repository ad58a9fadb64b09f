/-! THE CLAIM OUT OF ONE WALK OF THE LAW'S BODY. Your part is whole_start (and what it stands on); all else here is the same for every law, but numbers. -/
def R_law : String := "CouponSaleLaw"
def lw_P (b : Addr) (xs : List Int32) (args : Array Value) (s : State) : Prop := args = #[.ref b] ∧ s.IntsAt b xs ∧ xs.length ≤ 3072 ∧ (Jvm.Cond.and given_1 narrow_1).before args s = true
def lw_Q (_ : Array Value) (s : State) (o : Outcome) (t : State) : Prop := o = .returned (some (.int 1)) ∧ Framed s o t [] 601024 7293034
def lw_Z (below : List Frame) (a : Array Value) (s : State) : State → Prop := fun t => ∃ o, t.status = .running ∧ Ended t below o ∧ lw_Q a s o t
/-- the law's own end, with 1 on the stack, nothing written that was there before, its room as the claim has it -/
theorem lw_ret {p : Program} {l : Launch} {e : Env} {s : State} {m : MethodId} {below : List Frame} {meth : Method} {c : Code} {b : Nat} (hx : p.tables.exec = Jvm.exec) (hb : c.code = code) (hr : meth.sig.returnType = ret) (hlocks : meth.locks = false) {pc : Nat} {H : Heap} {ls : Array Slot} (hdg : decode code pc = .ok (.ireturn, 1)) : W p l e room_1 s m #[Value.ref b] below meth c H [] 601024 7293034 (lw_Z below #[Value.ref b] s) (F0 m pc ls [.int 1]) := by
  intro T hT X
  obtain ⟨fs, hret, hrun, hended, hW, hframe⟩ := X.leave (v := some (.int 1)) (hlocks := hlocks) (fun h => by rw [hr] at h; cases h)
  have hmeth' : T.vm.method? m = some meth := X.method'
  refine ⟨T.setFrames fs, ?_, .returned (some (.int 1)), hrun, hended, rfl, ⟨_, rfl⟩, hW, hframe⟩
  jvm_step X.here [X.here.top, hx, hb, hdg, hmeth', hr, ret, narrow_b1]
  (try refine ⟨rfl, ?_⟩); (try refine ⟨rfl, ?_⟩)
  first | (intro acts; rw [hret _ acts rfl rfl rfl]) | rw [hret _ _ rfl rfl rfl]
  exact Steps.refl _
/-- what holds at the law's entry: the machine, the code, the tables' words (any of lw_tbl by 'hts w (by decide +kernel)'), the script of L ints xs at the cell b, what the Statement gives of the start (any of its parts by flat_of_before) -/
def lw_At (p : Program) (s : State) (m : MethodId) (meth : Method) (c : Code) (b L : Nat) (xs : Nat → Int32) : Prop :=
  p.tables.exec = Jvm.exec ∧ c.code = code ∧ meth.sig.returnType = ret ∧ c.maxLocals = 8 ∧ s.vm.findClass R_law = some m.cls ∧ (∀ w ∈ lw_tbl, w.before #[Value.ref b] s = true) ∧ va_X b L xs s s.heap ∧ b < s.heap.size ∧ meth.locks = false ∧ (Jvm.Cond.and given_1 narrow_1).before #[Value.ref b] s = true
theorem lw_flag {l : Launch} (h : l.flags = flags0) : l.stackTraces = false := by
  rw [Launch.stackTraces, h]
  decide +kernel
section START2
variable {args : Array Value} {s : State}
set_option maxRecDepth 100000 in
set_option maxHeartbeats 4000000 in
theorem st_Ef {A : Nat → Prop} (hts : ∀ w ∈ lw_tbl, w.before args s = true) (hg : (Jvm.Cond.and given_1 narrow_1).before args s = true) (hA : ∀ a : Nat, a < s.heap.size → ¬ A a) : ∃ (ad adK adV : Nat → Nat) (al : Nat), cEf ad adK adV al A s s.heap := by
  have fl := flat_of_before _ hg
  obtain ⟨ad, hEn, hev⟩ := st_En hts hg hA
  obtain ⟨adK, adV, hK, hKe⟩ := st_K hg hA
  obtain ⟨al, hal, hT⟩ := va_Tof (tm := .static RX5 "ALL" "[LCouponSale$Rule;") (ty := .object RX5) (N := 6) (f := fun j => .ref (ad j)) (A := A) (by decide) (fl _ (by decide +kernel)) (va_eqv (u := .int 6) (fl _ (by decide +kernel)) rfl)
    (six (va_eqv (u := rST 0) (fl _ (by decide +kernel)) (hev 0 (by decide))) (va_eqv (u := rST 1) (fl _ (by decide +kernel)) (hev 1 (by decide))) (va_eqv (u := rST 2) (fl _ (by decide +kernel)) (hev 2 (by decide))) (va_eqv (u := rST 3) (fl _ (by decide +kernel)) (hev 3 (by decide))) (va_eqv (u := rST 4) (fl _ (by decide +kernel)) (hev 4 (by decide))) (va_eqv (u := rST 5) (fl _ (by decide +kernel)) (hev 5 (by decide)))) hA
  have h5 : va_Ef 6 RX5 "word" "Ljava/lang/String;" (fun i => .ref (adK i)) ad A s s.heap := va_Efof (E := RX5) (d0 := "LCouponSale$Rule;") (nm := ruleNm) (tm := tmK) hev (six (fl _ (by decide +kernel)) (fl _ (by decide +kernel)) (fl _ (by decide +kernel)) (fl _ (by decide +kernel)) (fl _ (by decide +kernel)) (fl _ (by decide +kernel))) hKe hA
  exact ⟨ad, adK, adV, al, st_nest hts, hEn, va_Zof (hts _ (by decide +kernel)) (hts _ (by decide +kernel)) hal hA, hT, h5, hK, va_Zof (hts _ (by decide +kernel)) (hts _ (by decide +kernel)) (va_eqv (u := .int 1) (fl _ (by decide +kernel)) rfl) hA, va_AO.of (hts _ (by decide +kernel)), va_AO.of (hts _ (by decide +kernel)), va_AO.of (hts _ (by decide +kernel)), st_nse hts, vx_Zqof (hts _ (by decide +kernel)) (hts _ (by decide +kernel)) (fl _ (by decide +kernel)) hA, vx_Zqof (hts _ (by decide +kernel)) (hts _ (by decide +kernel)) (fl _ (by decide +kernel)) hA, va_Zqof (hts _ (by decide +kernel)) (hts _ (by decide +kernel)) (fl _ (by decide +kernel)) hA⟩
theorem st_arr {ty : FieldType} (h : (Cond.arrayClass ty).before args s = true) (hp : ∀ C, ty ≠ .object C) : ∃ cA : ClassId, ArrOfT s cA ty ∧ va_RA s cA ty := by
  obtain ⟨c, k, comp, h1, h2, h3⟩ := Cond.arrayClass_spec h
  refine ⟨c, fun n z => ⟨fun k h => (by cases h), k, h2, comp, h3⟩, ?_⟩
  cases ty <;> first | exact absurd rfl (hp _) | exact h1
theorem st_arrO {C : String} (h : (Cond.arrayOver (.object C)).before args s = true) : ∃ cA : ClassId, ArrOfT s cA (.object C) ∧ va_RA s cA (.object C) := by
  obtain ⟨comp, c, k, h1, -, h3, h4, h5⟩ := Cond.arrayOver_spec h
  exact ⟨c, fun n z => ⟨fun k h => (by cases h), k, h3, comp, h4⟩, k, comp, h3, h4, h1, h5⟩
set_option maxRecDepth 100000 in
theorem st_K0 (hts : ∀ w ∈ lw_tbl, w.before args s = true) : ∃ d : jD, va_K d.1 vwCl (jtys d) s := by
  obtain ⟨c0, i0, k0⟩ := u_known (C := RX0) (T := TX0) (N := 3) (n := 3) hts inX0 (hts (.instantiable RX0 3) (by decide +kernel))
  obtain ⟨c1, i1, k1⟩ := u_known (C := RX2) (T := TX2) (N := 2) (n := 2) hts inX2 (hts (.instantiable RX2 2) (by decide +kernel))
  obtain ⟨c2, i2, k2⟩ := u_known (C := RX3) (T := TX3) (N := 4) (n := 4) hts inX3 (hts (.instantiable RX3 4) (by decide +kernel))
  obtain ⟨c3, i3, k3⟩ := u_known (C := RX4) (T := TX4) (N := 2) (n := 2) hts inX4 (hts (.instantiable RX4 2) (by decide +kernel))
  obtain ⟨c4, i4, k4⟩ := u_known (C := RX6) (T := TX6) (N := 7) (n := 7) hts inX6 (hts (.instantiable RX6 7) (by decide +kernel))
  obtain ⟨c5, i5, k5⟩ := u_known (C := RX7) (T := TX7) (N := 2) (n := 2) hts inX7 (hts (.instantiable RX7 2) (by decide +kernel))
  obtain ⟨c6, i6, k6⟩ := u_known (C := RX8) (T := TX8) (N := 8) (n := 8) hts inX8 (hts (.instantiable RX8 8) (by decide +kernel))
  obtain ⟨c7, i7, k7⟩ := u_known (C := RX9) (T := TX9) (N := 11) (n := 11) hts inX9 (hts (.instantiable RX9 11) (by decide +kernel))
  obtain ⟨c8, i8, k8⟩ := u_known (C := RX10) (T := TX10) (N := 37) (n := 37) hts inX10 (hts (.instantiable RX10 37) (by decide +kernel))
  obtain ⟨b0, a0, r0⟩ := st_arr (ty := .byte) (hts (.arrayClass .byte) (by decide +kernel)) (fun C h => by cases h)
  obtain ⟨b1, a1, r1⟩ := st_arr (ty := .int) (hts (.arrayClass .int) (by decide +kernel)) (fun C h => by cases h)
  obtain ⟨b2, a2, r2⟩ := st_arrO (C := RX8) (hts (.arrayOver (.object RX8)) (by decide +kernel))
  obtain ⟨b3, a3, r3⟩ := st_arrO (C := RX4) (hts (.arrayOver (.object RX4)) (by decide +kernel))
  obtain ⟨b4, a4, r4⟩ := st_arrO (C := RX3) (hts (.arrayOver (.object RX3)) (by decide +kernel))
  obtain ⟨b5, a5, r5⟩ := st_arr (ty := .long) (hts (.arrayClass .long) (by decide +kernel)) (fun C h => by cases h)
  refine ⟨((fun k => match k with
    | 0 => c0
    | 1 => c1
    | 2 => c2
    | 3 => c3
    | 4 => c4
    | 5 => c5
    | 6 => c6
    | 7 => c7
    | 8 => c8
    | _ => c0, fun k => match k with
    | 0 => i0
    | 1 => i1
    | 2 => i2
    | 3 => i3
    | 4 => i4
    | 5 => i5
    | 6 => i6
    | 7 => i7
    | 8 => i8
    | _ => i0), fun k => match k with
    | 0 => b0
    | 1 => b1
    | 2 => b2
    | 3 => b3
    | 4 => b4
    | 5 => b5
    | _ => b0), ?_, ?_⟩
  · intro k q hq
    match k, hq with
    | 0, hq => cases hq; exact k0
    | 1, hq => cases hq; exact k1
    | 2, hq => cases hq; exact k2
    | 3, hq => cases hq; exact k3
    | 4, hq => cases hq; exact k4
    | 5, hq => cases hq; exact k5
    | 6, hq => cases hq; exact k6
    | 7, hq => cases hq; exact k7
    | 8, hq => cases hq; exact k8
    | k + 9, hq => simp [vwCl] at hq
  · intro k q hq
    match k, hq with
    | 0, hq => cases hq; exact ⟨a0, r0⟩
    | 1, hq => cases hq; exact ⟨a1, r1⟩
    | 2, hq => cases hq; exact ⟨a2, r2⟩
    | 3, hq => cases hq; exact ⟨a3, r3⟩
    | 4, hq => cases hq; exact ⟨a4, r4⟩
    | 5, hq => cases hq; exact ⟨a5, r5⟩
    | k + 6, hq => simp [jtys] at hq
end START2
set_option maxRecDepth 100000 in
set_option maxHeartbeats 4000000 in
theorem start_of {p : Program} {e : Env} {s : State} {m : MethodId} {below : List Frame} {meth : Method} {c : Code} (l : Launch) (hls : l.stackTraces = false) {b L : Nat} {xs : Nat → Int32} (hL : L ≤ 3072) (C0 : lw_At p s m meth c b L xs) (Rl : (Nat → Nat) → Option Nat → (Nat → Nat → Nat → Int32) → (Nat → Nat → Int32) → Int64 → Prop) (hok : LwOk Rl) (h0 : Rl (fun _ => 0) none cInit mInit 0) : W p l e room_1 s m #[Value.ref b] below meth c s.heap [] 0 0 (lw_Z below #[Value.ref b] s) (entryFrame m ([Value.ref b] : List Value).toArray 8) := by
  obtain ⟨hx, hb, hr, hml, hown, hts, hX, hbl, hlocks, hgv⟩ := id C0
  have hA : ∀ q : Nat, s.heap.size ≤ q → (fun q : Nat => s.heap.size ≤ q) q := fun _ h => h
  have hA2 : ∀ a : Nat, a < s.heap.size → ¬ (fun q : Nat => s.heap.size ≤ q) a := fun a h => Nat.not_le.mpr h
  obtain ⟨ad, adK, adV, al, hE⟩ := st_Ef (A := fun q : Nat => s.heap.size ≤ q) hts hgv hA2
  obtain ⟨d, hK⟩ := st_K0 hts
  have C : jC (cEf ad adK adV al) (p, e, room_1, s, m, #[Value.ref b], below, meth, c, lw_Z below #[Value.ref b] s) l d (fun q : Nat => s.heap.size ≤ q) cL_law 8 wsL_law RL room_1 (some .boolean) := ⟨⟨hx, hb, hml, hown, fun w h => hts w (wsL_law_in w h)⟩, hK, hA, rfl, hr, hlocks, hE, cEf_k ad adK adV al⟩
  have hSc : jS (p, e, room_1, s, m, #[Value.ref b], below, meth, c, lw_Z below #[Value.ref b] s) (fun q : Nat => s.heap.size ≤ q) b L xs := ⟨hX, hbl, hA2 b hbl⟩
  have hend : ∀ (cells slots : Nat) (ws : va_W) (lv : List (Nat × Value)), cells ≤ 601024 → slots ≤ 7293034 → jJ (p, e, room_1, s, m, #[Value.ref b], below, meth, c, lw_Z below #[Value.ref b] s) l d (fun q : Nat => s.heap.size ≤ q) 8 cells slots ws lv 826 [.int 1] := by
    intro cells slots ws lv h1 h2 ls H locs hl hP hD hS
    exact va_forget hS.2.2 (W.widen h1 h2 (lw_ret hx hb hr hlocks dL_law_826))
  have hl := lv_entry ([.ref b]) (n := 8) (Nat.le_of_ble_eq_true rfl)
  rw [lg_entry_eq]
  generalize (lg_sl ([.ref b]) ++ List.replicate (8 - (lg_sl ([.ref b])).length) Slot.unset).toArray = ls at hl ⊢
  refine (?_ : jJ (p, e, room_1, s, m, #[Value.ref b], below, meth, c, lw_Z below #[Value.ref b] s) l d (fun q : Nat => s.heap.size ≤ q) 8 0 0 [] [(0, .ref b)] 0 []) ls s.heap [] hl (fun k q h => by simp at h) ⟨fun i j p q h => by simp at h, fun k q h => by simp at h⟩ va_S.rf
  generalize (p, e, room_1, s, m, #[Value.ref b], below, meth, c, lw_Z below #[Value.ref b] s) = X at C hSc hend ⊢
  generalize (fun q : Nat => s.heap.size ≤ q) = A at C hSc hend ⊢
  refine j_new C [.null, .null, .null, .null, .null, .null, .int 0, .int 0, .int 0, .int 0, .int 0] (ty0 := tyX9) inlX9 tyX9_ok (by decide +kernel) (by decide +kernel) (by decide +kernel) (ci := 7) rfl (by decide +kernel) ⟨(Nat.le_of_ble_eq_true rfl), (Nat.le_of_ble_eq_true rfl)⟩ dL_law_0 (fun o9 => ?_)
  refine j_dup C dL_law_3 rfl ?_
  refine j_callI_v C 0 (cc_X9_init l d ad adK adV al o9) gL_law_X9_init (by decide +kernel) (by decide +kernel) (by decide +kernel) rfl rfl rfl rfl (by decide +kernel) ⟨(Nat.le_of_ble_eq_true rfl), (Nat.le_of_ble_eq_true rfl)⟩ ⟨(Nat.le_of_ble_eq_true rfl), (Nat.le_of_ble_eq_true rfl)⟩ rfl rfl (Nat.le_of_ble_eq_true rfl) dL_law_4 (fun u hu => ?_)
  obtain ⟨a, rfl, rfl⟩ := hu
  refine j_astore_n C [(0, .ref b), (1, .ref (a 0 0))] [1, 0] dL_law_7 rfl (by decide) rfl ?_
  refine j_new C [.int 0, .null, .int 0, .null, .null, .null, .null, .null, .int 0, .int 0, .int 0, .int 0, .int 0, .int 0, .int 0, .int 0, .long 0, .null, .null, .null, .null, .null, .null, .null, .null, .null, .null, .null, .null, .null, .int 0, .int 0, .int 0, .int 0, .int 0, .null, .null] (ty0 := tyX10) inlX10 tyX10_ok (by decide +kernel) (by decide +kernel) (by decide +kernel) (ci := 8) rfl (by decide +kernel) ⟨(Nat.le_of_ble_eq_true rfl), (Nat.le_of_ble_eq_true rfl)⟩ dL_law_8 (fun o => ?_)
  refine j_dup C dL_law_11 rfl ?_
  refine j_callI_vF (C_noE C) 0 (wa := cW a d (fun _ => 0) none ad cInit) (wb := []) (List.append_nil _).symm (cm_init l d o) gL_law_X10_init (by decide +kernel) (by decide +kernel) (by decide +kernel) rfl rfl rfl rfl (by decide +kernel) ⟨(Nat.le_of_ble_eq_true rfl), (Nat.le_of_ble_eq_true rfl)⟩ ⟨(Nat.le_of_ble_eq_true rfl), (Nat.le_of_ble_eq_true rfl)⟩ rfl rfl (Nat.le_of_ble_eq_true rfl) dL_law_12 (fun u hu => ?_)
  obtain ⟨q, rfl⟩ := hu
  refine j_astore_n C [(0, .ref b), (1, .ref (a 0 0)), (2, .ref o)] [1, 2, 0] dL_law_15 rfl (by decide) rfl ?_
  refine j_iconst C 1 dL_law_16 (by decide) ?_
  refine j_newl C 1 (by decide +kernel) rfl (by decide) ⟨(Nat.le_of_ble_eq_true rfl), (Nat.le_of_ble_eq_true rfl)⟩ dL_law_17 (fun ob => ?_)
  refine j_astore_n C [(0, .ref b), (1, .ref (a 0 0)), (2, .ref o), (3, .ref ob)] [1, 2, 3, 0] dL_law_19 rfl (by decide) rfl ?_
  refine j_iconst C 0 dL_law_20 (by decide) ?_
  refine j_istore C [(0, .ref b), (1, .ref (a 0 0)), (2, .ref o), (3, .ref ob), (4, .int (nI (6 * 0)))] [1, 2, 3, 4, 0] dL_law_21 (by decide) rfl ?_
  refine j_perm (w2 := WL a d (fun _ => 0) none ad cInit ob (fun _ => 0) o q mInit 0) ?_ ?_
  · rw [List.append_nil, List.append_assoc]
    unfold WL
    rw [List.append_assoc]
    exact List.Perm.append_left _ List.perm_append_comm
  refine j_widen (k1 := 100 + 5 * 0) (n1 := 20000 + 1514 * 0) (Nat.le_of_ble_eq_true rfl) (Nat.le_of_ble_eq_true rfl) ?_
  exact law_loop l d ad adK adV al Rl hok hls hL C hSc o ob (a 0 0) q hend 514 0 (by omega) (by omega) (by omega) a (fun _ => 0) none cInit mInit 0 (fun _ => 0) rfl h0

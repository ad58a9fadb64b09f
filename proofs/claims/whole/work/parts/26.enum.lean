/-! the enum Rule: reads of its constants -/
section JENUM
variable {X : jX} {l : Launch} {d : jD} {A : Nat → Prop} {cc : ByteArray} {nL cells slots : Nat} {Ts : List Cond} {own : String} {rm : Room} {ret : Option FieldType} {ws : va_W} {lv : List (Nat × Value)} {pc : Nat} {st : List Value} {ad adK adV : Nat → Nat} {al idx : Nat}
theorem je_static (C : jC (cEf ad adK adV al) X l d A cc nL Ts own rm ret) (i : Nat) (hi : i < 6) (hlink : Cond.fieldLink own idx RX5 (ruleNm.getD i "") "LCouponSale$Rule;" ∈ Ts) (hdg : decode cc pc = .ok (.getstatic idx, 3)) (kk : jJ X l d A nL cells slots ws lv (pc + 3) (.ref (ad i) :: st)) : jJ X l d A nL cells slots ws lv pc st := by
  obtain ⟨p, e, R, s, m, args, below, meth, c, Q⟩ := X
  exact fun ls H locs hl hP hD hS => va_gets C.1.1 C.1.2.1 (C.2.2.2.2.2.2.1.2.1.1 i hi).1 hS C.1.2.2.2.1 (C.1.2.2.2.2 _ hlink) (fun _ h => h) hdg (kk ls H locs hl hP hD hS)
theorem je_all (C : jC (cEf ad adK adV al) X l d A cc nL Ts own rm ret) {host : String} (hlink : ∀ (A' : Nat → Prop) (s' : State) (H' : Heap), cEf ad adK adV al A' s' H' → va_Nw (Cond.fieldLinkNest own idx "CouponSale$Rule" "ALL" "[LCouponSale$Rule;" host) s') (hdg : decode cc pc = .ok (.getstatic idx, 3)) (kk : jJ X l d A nL cells slots ws lv (pc + 3) (.ref al :: st)) : jJ X l d A nL cells slots ws lv pc st := by
  obtain ⟨p, e, R, s, m, args, below, meth, c, Q⟩ := X
  exact fun ls H locs hl hP hD hS => va_getsN C.1.1 C.1.2.1 C.2.2.2.2.2.2.1.2.2.1 hS C.1.2.2.2.1 ((hlink _ _ _ C.2.2.2.2.2.2.1).use rfl) (fun _ h => h) hdg (kk ls H locs hl hP hD hS)
theorem je_len (C : jC (cEf ad adK adV al) X l d A cc nL Ts own rm ret) (hdg : decode cc pc = .ok (.arraylength, 1)) (kk : jJ X l d A nL cells slots ws lv (pc + 1) (.int 6 :: st)) : jJ X l d A nL cells slots ws lv pc (.ref al :: st) := by
  obtain ⟨p, e, R, s, m, args, below, meth, c, Q⟩ := X
  exact fun ls H locs hl hP hD hS => va_tlen C.1.1 C.1.2.1 C.2.2.2.2.2.2.1.2.2.2.1 hS rfl hdg (kk ls H locs hl hP hD hS)
theorem je_ald (C : jC (cEf ad adK adV al) X l d A cc nL Ts own rm ret) (j : Nat) (hj : j < 6) (hdg : decode cc pc = .ok (.aaload, 1)) (kk : jJ X l d A nL cells slots ws lv (pc + 1) (.ref (ad j) :: st)) : jJ X l d A nL cells slots ws lv pc (.int (nI j) :: .ref al :: st) := by
  obtain ⟨p, e, R, s, m, args, below, meth, c, Q⟩ := X
  exact fun ls H locs hl hP hD hS => vb_tq C.1.1 C.1.2.1 C.2.2.2.2.2.2.1.2.2.2.1 hS (vp_in_nI hj (by decide)) (v := .ref (ad j)) (by rw [nI_clamp (by omega)]) hdg (kk ls H locs hl hP hD hS)
theorem je_get (C : jC (cEf ad adK adV al) X l d A cc nL Ts own rm ret) {host : String} (i k : Nat) (hi : i < 6) {q : String × String × String × List Int32} (hq : ruleF[k]? = some q) (hlink : ∀ (A' : Nat → Prop) (s' : State) (H' : Heap), cEf ad adK adV al A' s' H' → va_Nw (Cond.fieldLinkNest own idx q.1 q.2.1 q.2.2.1 host) s') (hdg : decode cc pc = .ok (.getfield idx, 3)) (kk : jJ X l d A nL cells slots ws lv (pc + 3) (.int (q.2.2.2.getD i 0) :: st)) : jJ X l d A nL cells slots ws lv pc (.ref (ad i) :: st) := by
  obtain ⟨p, e, R, s, m, args, below, meth, c, Q⟩ := X
  intro ls H locs hl hP hD hS
  obtain ⟨cf, k2, fi, f, cell, h1, h2, h3, h4, h5, h6⟩ := ((C.2.2.2.2.2.2.1.2.1.1 i hi).2.2 q (List.mem_of_getElem? hq)).kept hS.2.1
  exact va_Wgetf C.1.1 C.1.2.1 C.1.2.2.2.1 ((hlink _ _ _ C.2.2.2.2.2.2.1).use rfl) h1 h2 h3 h4 (v := .int (q.2.2.2.getD i 0)) h5 rfl rfl hdg (kk ls H locs hl hP hD hS)
theorem je_word (C : jC (cEf ad adK adV al) X l d A cc nL Ts own rm ret) {host : String} (i : Nat) (hi : i < 6) (hlink : ∀ (A' : Nat → Prop) (s' : State) (H' : Heap), cEf ad adK adV al A' s' H' → va_Nw (Cond.fieldLinkNest own idx RX5 "word" "Ljava/lang/String;" host) s') (hdg : decode cc pc = .ok (.getfield idx, 3)) (kk : jJ X l d A nL cells slots ws lv (pc + 3) (.ref (adK i) :: st)) : jJ X l d A nL cells slots ws lv pc (.ref (ad i) :: st) := by
  obtain ⟨p, e, R, s, m, args, below, meth, c, Q⟩ := X
  intro ls H locs hl hP hD hS
  obtain ⟨cf, k2, fi, f, cell, h1, h2, h3, h4, h5, h6⟩ := (C.2.2.2.2.2.2.1.2.2.2.2.1 i hi).kept hS.2.1
  exact va_Wgetf C.1.1 C.1.2.1 C.1.2.2.2.1 ((hlink _ _ _ C.2.2.2.2.2.2.1).use rfl) h1 h2 h3 h4 (v := .ref (adK i)) h5 rfl rfl hdg (kk ls H locs hl hP hD hS)
/-- the enum's constants differ -/
theorem je_ne (C : jC (cEf ad adK adV al) X l d A cc nL Ts own rm ret) : ∀ i j, i < 6 → j < 6 → ad i = ad j → i = j := by
  obtain ⟨p, e, R, s, m, args, below, meth, c, Q⟩ := X
  exact C.2.2.2.2.2.2.1.2.1.2
theorem j_copyi {Ef : jE} (C : jC Ef X l d A cc nL Ts own rm ret) {a0 a1 n0 n1 : Nat} {f g : Nat → Int32} {ws2 : va_W} (q0 q1 : Nat) (he0 : ws[q0]? = some (a0, .inl (d.2 1, n0, .inl f))) (he1 : ws[q1]? = some (a1, .inl (d.2 1, n1, .inl g))) (N : Nat) (h4 : N ≤ n0) (h5 : N ≤ n1) (hN : N < 2 ^ 31) (hlink : Cond.methodLink own idx arraycopyName ∈ Ts) (hnat : Cond.native arraycopyName ∈ Ts) (hstat : Cond.static arraycopyName ∈ Ts) (hini : Cond.initialized "java/lang/System" ∈ Ts) (hR : 1 ≤ rm.frames ∧ (st.map fun v => v.category).sum + (nativeFrameWords "java/lang/System" "arraycopy" 5 + 11) ≤ rm.locals) (hw : ws.set q1 (a1, .inl (d.2 1, n1, .inl (va_cpy f g 0 0 N))) = ws2) (hdg : decode cc pc = .ok (.invokestatic idx, 3)) (kk : jJ X l d A nL cells slots ws2 lv (pc + 3) st) : jJ X l d A nL cells slots ws lv pc (.int (nI N) :: .int 0 :: .ref a1 :: .int 0 :: .ref a0 :: st) := by
  obtain ⟨p, e, R, s, m, args, below, meth, c, Q⟩ := X
  subst hw
  intro ls H locs hl hP hD hS
  have hr : R = rm := C.2.2.2.1
  subst hr
  refine va_copyi C.1.1 C.1.2.1 (C.1.2.2.1.trans hl.1.symm) C.1.2.2.2.1 (C.1.2.2.2.2 _ hlink) (C.1.2.2.2.2 _ hnat) (C.1.2.2.2.2 _ hstat) (C.1.2.2.2.2 _ hini) C.2.1 hP hD hS q0 q1 1 1 (ty := .int) he0 he1 rfl rfl rfl (by decide) (by decide) (nI_pos hN) (by rw [nI_clamp hN]; show 0 + N ≤ n0; omega) (by rw [nI_clamp hN]; show 0 + N ≤ n1; omega) (fun _ _ => rfl) hR.1 hR.2 hdg (fun H1 locs1 hP hD hS => ?_)
  rw [nI_clamp hN] at hP hD
  exact kk ls H1 locs1 hl hP hD hS
end JENUM

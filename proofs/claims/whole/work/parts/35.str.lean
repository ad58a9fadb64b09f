/-! String.length and charAt of the words of Rule -/
section JSTR
variable {X : jX} {l : Launch} {d : jD} {A : Nat → Prop} {cc : ByteArray} {nL cells slots : Nat} {Ts : List Cond} {own : String} {rm rmc : Room} {ret ret' : Option FieldType} {ws : va_W} {lv : List (Nat × Value)} {pc : Nat} {st st0 : List Value} {ad adK adV : Nat → Nat} {al idx mc ms maxL : Nat} {y : MethodName} {wy w' : List Cond} {As : List Value} {bytes : ByteArray}
theorem jk_value (C : jC (cEf ad adK adV al) X l d A cc nL Ts own rm ret) (i : Nat) (hi : i < 6) (hlink : Cond.fieldLink own idx "java/lang/String" "value" "[B" ∈ Ts) (hdg : decode cc pc = .ok (.getfield idx, 3)) (kk : jJ X l d A nL cells slots ws lv (pc + 3) (.ref (adV i) :: st)) : jJ X l d A nL cells slots ws lv pc (.ref (adK i) :: st) := by
  obtain ⟨p, e, R, s, m, args, below, meth, c, Q⟩ := X
  exact fun ls H locs hl hP hD hS => vk_getf C.1.1 C.1.2.1 (C.2.2.2.2.2.2.1.2.2.2.2.2.1.1 i hi).2.2.1 hS C.1.2.2.2.1 (C.1.2.2.2.2 _ hlink) (fun _ h => h) hdg (kk ls H locs hl hP hD hS)
theorem jk_coder (C : jC (cEf ad adK adV al) X l d A cc nL Ts own rm ret) (i : Nat) (hi : i < 6) (hlink : Cond.fieldLink own idx "java/lang/String" "coder" "B" ∈ Ts) (hdg : decode cc pc = .ok (.getfield idx, 3)) (kk : jJ X l d A nL cells slots ws lv (pc + 3) (.int 0 :: st)) : jJ X l d A nL cells slots ws lv pc (.ref (adK i) :: st) := by
  obtain ⟨p, e, R, s, m, args, below, meth, c, Q⟩ := X
  exact fun ls H locs hl hP hD hS => vk_getf C.1.1 C.1.2.1 (C.2.2.2.2.2.2.1.2.2.2.2.2.1.1 i hi).2.1 hS C.1.2.2.2.1 (C.1.2.2.2.2 _ hlink) (fun _ h => h) hdg (kk ls H locs hl hP hD hS)
theorem jk_len (C : jC (cEf ad adK adV al) X l d A cc nL Ts own rm ret) (i : Nat) (hi : i < 6) (hdg : decode cc pc = .ok (.arraylength, 1)) (kk : jJ X l d A nL cells slots ws lv (pc + 1) (.int (nI (lenR.getD i 0)) :: st)) : jJ X l d A nL cells slots ws lv pc (.ref (adV i) :: st) := by
  obtain ⟨p, e, R, s, m, args, below, meth, c, Q⟩ := X
  exact fun ls H locs hl hP hD hS => va_tlen C.1.1 C.1.2.1 (C.2.2.2.2.2.2.1.2.2.2.2.2.1.1 i hi).2.2.2 hS rfl hdg (kk ls H locs hl hP hD hS)
theorem jk_bald (C : jC (cEf ad adK adV al) X l d A cc nL Ts own rm ret) (i j : Nat) (hi : i < 6) (hj : j < lenR.getD i 0) (hj2 : j < 100) (hdg : decode cc pc = .ok (.baload, 1)) (kk : jJ X l d A nL cells slots ws lv (pc + 1) (.int ((bytR.getD i []).getD j 0) :: st)) : jJ X l d A nL cells slots ws lv pc (.int (nI j) :: .ref (adV i) :: st) := by
  obtain ⟨p, e, R, s, m, args, below, meth, c, Q⟩ := X
  have h2 : lenR.getD i 0 < 2 ^ 31 := (show ∀ i, i < 6 → lenR.getD i 0 < 2 ^ 31 by decide) i hi
  exact fun ls H locs hl hP hD hS => va_tb C.1.1 C.1.2.1 (C.2.2.2.2.2.2.1.2.2.2.2.2.1.1 i hi).2.2.2 hS (vp_in_nI hj h2) (v := .int ((bytR.getD i []).getD j 0)) (by rw [nI_clamp (by omega)]) hdg (kk ls H locs hl hP hD hS)
theorem jk_cs (C : jC (cEf ad adK adV al) X l d A cc nL Ts own rm ret) (hlink : Cond.fieldLink own idx "java/lang/String" "COMPACT_STRINGS" "Z" ∈ Ts) (hdg : decode cc pc = .ok (.getstatic idx, 3)) (kk : jJ X l d A nL cells slots ws lv (pc + 3) (.int 1 :: st)) : jJ X l d A nL cells slots ws lv pc st := by
  obtain ⟨p, e, R, s, m, args, below, meth, c, Q⟩ := X
  exact fun ls H locs hl hP hD hS => va_gets C.1.1 C.1.2.1 C.2.2.2.2.2.2.1.2.2.2.2.2.2.1 hS C.1.2.2.2.1 (C.1.2.2.2.2 _ hlink) (fun _ h => h) hdg (kk ls H locs hl hP hD hS)
theorem jk_fmt (C : jC (cEf ad adK adV al) X l d A cc nL Ts own rm ret) (hlink : Cond.fieldLink own idx "jdk/internal/util/Preconditions" "SIOOBE_FORMATTER" "Ljava/util/function/BiFunction;" ∈ Ts) (hdg : decode cc pc = .ok (.getstatic idx, 3)) (kk : ∀ r : Option Nat, jJ X l d A nL cells slots ws lv (pc + 3) (va_rf r :: st)) : jJ X l d A nL cells slots ws lv pc st := by
  obtain ⟨p, e, R, s, m, args, below, meth, c, Q⟩ := X
  intro ls H locs hl hP hD hS
  rcases C.2.2.2.2.2.2.1.2.2.2.2.2.2.2.2.2.2.2.2.2 with h | ⟨t, h⟩
  · exact va_gets C.1.1 C.1.2.1 h hS C.1.2.2.2.1 (C.1.2.2.2.2 _ hlink) (fun _ h => h) hdg (kk none ls H locs hl hP hD hS)
  · exact va_gets C.1.1 C.1.2.1 h hS C.1.2.2.2.1 (C.1.2.2.2.2 _ hlink) (fun _ h => h) hdg (kk (some t) ls H locs hl hP hD hS)
theorem j_i2c {Ef : jE} (C : jC Ef X l d A cc nL Ts own rm ret) {x : Int32} (v : Int32) (hdg : decode cc pc = .ok (.i2c, 1)) (hv : (x.toUInt32 % 65536).toInt32 = v) (k : jJ X l d A nL cells slots ws lv (pc + 1) (.int v :: st)) : jJ X l d A nL cells slots ws lv pc (.int x :: st) := by
  obtain ⟨p, e, R, s, m, args, below, meth, c, Q⟩ := X
  exact fun ls H locs hl hP hD hS => lv_i2c C.1.1 C.1.2.1 hdg hv (k ls H locs hl hP hD hS)
theorem j_callK_i (C : jC (cEf ad adK adV al) X l d A cc nL Ts own rm ret) (nA : Nat) {post : Int32 → va_W → Prop} (i : Nat) (hi : i < 6) (hM : jMi (cEf ad adK adV al) d l y wy rmc mc ms (.ref (adK i) :: As) ws post) (hG : GoodIn Ts (wsV own idx "java/lang/String" y wy)) (hw : wy = Cond.code y bytes maxL ret' :: w') (hrc : rmc.cells = mc) (hrs : rmc.slots = ms) (hd : y.cls = "java/lang/String" ∧ y.cls ≠ "java/lang/invoke/MethodHandle" ∧ y.cls ≠ "java/lang/invoke/VarHandle" ∧ (parseMethodDescriptor y.desc).map (fun d => d.parameters.length) = some nA) (hR : rmc.frames + 1 ≤ rm.frames ∧ 8 + (maxL + 11) + rmc.locals ≤ rm.locals) (hroom : cells + mc ≤ rm.cells ∧ slots + ms ≤ rm.slots) (hnA : As.length = nA) (hst : st0 = As.reverse ++ .ref (adK i) :: st) (hcat : (st.map fun v => v.category).sum ≤ 8) (hdg : decode cc pc = .ok (.invokevirtual idx, 3)) (kk : ∀ (r : Int32) (u : va_W), post r u → jJ X l d A nL (cells + mc) (slots + ms) u lv (pc + 3) (.int r :: st)) : jJ X l d A nL cells slots ws lv pc st0 := by
  obtain ⟨p, e, R, s, m, args, below, meth, c, Q⟩ := X
  intro ls H locs hl hP hD hS
  have hr : R = rm := C.2.2.2.1
  subst hr
  have hPc := hP
  have hDc := hD
  have hFc := jfree C.2.2.1 hDc hS
  refine va_calli (va_runV (C := "java/lang/String") (As := As) (rest := st) C.1 (hM H.size) (cwV nA C.1.2.2.2.2 hG hw hrc hrs hd hR) ⟨jfb C.2.2.2.2.2.2.2, vk_recv C.2.2.2.2.2.2.1.2.2.2.2.2.1 hi hS, jpr C.2.2.2.2.2.2.2 (A' := A) (ws := ws) C.2.2.1 C.2.1 C.2.2.2.2.2.2.1 hPc hDc hS⟩ rfl hnA hl.1 hst (lv_room hcat) hdg hroom) hS (fun q _ h => hFc q h) hFc (fun r u t H1 locs1 ht hvm hw2 hB hz1 hk1 hS1 => ?_)
  obtain ⟨hP1, hK1, hD1⟩ := hB
  rw [ht] at hP1
  exact kk r u hw2 ls H1 locs1 hl hP1 (hD1.weaken (fun k q _ h => hFc q.1 h)) hS1
theorem j_callT_i {Ef : jE} (C : jC Ef X l d A cc nL Ts own rm ret) (nA : Nat) {post : Int32 → va_W → Prop} (hM : jMi Ef d l y wy rmc mc ms As ws post) (hG : GoodIn Ts (va_wsS own idx y wy)) (hw : wy = Cond.code y bytes maxL ret' :: w') (hrc : rmc.cells = mc) (hrs : rmc.slots = ms) (hd : y.cls ≠ "java/lang/invoke/MethodHandle" ∧ y.cls ≠ "java/lang/invoke/VarHandle" ∧ (parseMethodDescriptor y.desc).map (fun d => d.parameters.length) = some nA) (hR : rmc.frames + 1 ≤ rm.frames ∧ 8 + (maxL + 11) + rmc.locals ≤ rm.locals) (hroom : cells + mc ≤ rm.cells ∧ slots + ms ≤ rm.slots) (hnA : As.length = nA) (hst : st0 = As.reverse ++ st) (hcat : (st.map fun v => v.category).sum ≤ 8) (hdg : decode cc pc = .ok (.invokestatic idx, 3)) (kk : ∀ (r : Int32) (u : va_W), post r u → jJ X l d A nL (cells + mc) (slots + ms) u lv (pc + 3) (.int r :: st)) : jJ X l d A nL cells slots ws lv pc st0 := by
  obtain ⟨p, e, R, s, m, args, below, meth, c, Q⟩ := X
  intro ls H locs hl hP hD hS
  have hr : R = rm := C.2.2.2.1
  subst hr
  have hPc := hP
  have hDc := hD
  have hFc := jfree C.2.2.1 hDc hS
  refine va_calli (va_runS (As := As) (rest := st) C.1 (hM H.size) (va_cwS nA C.1.2.2.2.2 hG hw hrc hrs hd hR) ⟨jfb C.2.2.2.2.2.2.2, jpr C.2.2.2.2.2.2.2 (A' := A) (ws := ws) C.2.2.1 C.2.1 C.2.2.2.2.2.2.1 hPc hDc hS⟩ rfl hnA hl.1 hst (lv_room hcat) hdg hroom) hS (fun q _ h => hFc q h) hFc (fun r u t H1 locs1 ht hvm hw2 hB hz1 hk1 hS1 => ?_)
  obtain ⟨hP1, hK1, hD1⟩ := hB
  rw [ht] at hP1
  exact kk r u hw2 ls H1 locs1 hl hP1 (hD1.weaken (fun k q _ h => hFc q.1 h)) hS1
theorem j_callT_v {Ef : jE} (C : jC Ef X l d A cc nL Ts own rm ret) (nA : Nat) {post : va_W → Prop} (hM : jMv Ef d l y wy rmc mc ms As ws post) (hG : GoodIn Ts (va_wsS own idx y wy)) (hw : wy = Cond.code y bytes maxL ret' :: w') (hrc : rmc.cells = mc) (hrs : rmc.slots = ms) (hd : y.cls ≠ "java/lang/invoke/MethodHandle" ∧ y.cls ≠ "java/lang/invoke/VarHandle" ∧ (parseMethodDescriptor y.desc).map (fun d => d.parameters.length) = some nA) (hR : rmc.frames + 1 ≤ rm.frames ∧ 8 + (maxL + 11) + rmc.locals ≤ rm.locals) (hroom : cells + mc ≤ rm.cells ∧ slots + ms ≤ rm.slots) (hnA : As.length = nA) (hst : st0 = As.reverse ++ st) (hcat : (st.map fun v => v.category).sum ≤ 8) (hdg : decode cc pc = .ok (.invokestatic idx, 3)) (kk : ∀ (u : va_W), post u → jJ X l d A nL (cells + mc) (slots + ms) u lv (pc + 3) st) : jJ X l d A nL cells slots ws lv pc st0 := by
  obtain ⟨p, e, R, s, m, args, below, meth, c, Q⟩ := X
  intro ls H locs hl hP hD hS
  have hr : R = rm := C.2.2.2.1
  subst hr
  have hPc := hP
  have hDc := hD
  have hFc := jfree C.2.2.1 hDc hS
  refine va_callv (va_runS (As := As) (rest := st) C.1 (hM H.size) (va_cwS nA C.1.2.2.2.2 hG hw hrc hrs hd hR) ⟨jfb C.2.2.2.2.2.2.2, jpr C.2.2.2.2.2.2.2 (A' := A) (ws := ws) C.2.2.1 C.2.1 C.2.2.2.2.2.2.1 hPc hDc hS⟩ rfl hnA hl.1 hst (lv_room hcat) hdg hroom) hS (fun q _ h => hFc q h) hFc (fun u t H1 locs1 ht hvm hw2 hB hz1 hk1 hS1 => ?_)
  obtain ⟨hP1, hK1, hD1⟩ := hB
  rw [ht] at hP1
  exact kk u hw2 ls H1 locs1 hl hP1 (hD1.weaken (fun k q _ h => hFc q.1 h)) hS1
end JSTR
theorem chR_ok : ∀ i, i < 6 → ∀ j, j < lenR.getD i 0 → (((bytR.getD i []).getD j 0 &&& 255).toUInt32 % 65536).toInt32 = (bytR.getD i []).getD j 0 ∧ narrow .char (.int ((bytR.getD i []).getD j 0)) = .int ((bytR.getD i []).getD j 0) := by decide +kernel
theorem lenR_lt : ∀ i, i < 6 → lenR.getD i 0 < 8 := by decide
theorem shr_0 (k : Nat) : nI k >>> ((0 : Int32) &&& 31) = nI k := by
  show nI k >>> (0 : Int32) = nI k
  exact Int32.shiftRight_zero

set_option maxHeartbeats 4000000 in
set_option maxRecDepth 100000 in
theorem cc_J0_coder_7d493 (l : Launch) (d : jD) (ad adK adV : Nat → Nat) (al : Nat) (ws : va_W) (i : Nat) (hi : i < 6) : jMi (cEf ad adK adV al) d l yJ0_coder_7d493 wsJ0_coder_7d493 ({ frames := 0, cells := 0, slots := 0, locals := 0 } : Room) 0 0 [.ref (adK i)] ws (fun r u => r = 0 ∧ u = ws) := by
  refine jMi.mk (cEf_k ad adK adV al) (by decide) rfl (Nat.le_of_ble_eq_true rfl) (fun X A C hQ => ?_)
  refine j_lvq (lv2 := [(0, .ref (adK i))]) rfl ?_
  refine jk_cs C (by decide +kernel) dJ0_coder_7d493_0 ?_
  refine j_if_eq C 13 dJ0_coder_7d493_3 (by decide) (fun h => absurd h (by decide)) (fun _ => ?_)
  refine j_aload_n C 0 dJ0_coder_7d493_6 rfl rfl ?_
  refine jk_coder C i hi (by decide +kernel) dJ0_coder_7d493_7 ?_
  refine j_goto C 14 dJ0_coder_7d493_10 (by decide) ?_
  exact j_zret C hQ rfl dJ0_coder_7d493_14 (⟨rfl, rfl⟩)

set_option maxHeartbeats 4000000 in
set_option maxRecDepth 100000 in
theorem cc_J0_isLatin1_aae02 (l : Launch) (d : jD) (ad adK adV : Nat → Nat) (al : Nat) (ws : va_W) (i : Nat) (hi : i < 6) : jMi (cEf ad adK adV al) d l yJ0_isLatin1_aae02 wsJ0_isLatin1_aae02 ({ frames := 0, cells := 0, slots := 0, locals := 0 } : Room) 0 0 [.ref (adK i)] ws (fun r u => r = 1 ∧ u = ws) := by
  refine jMi.mk (cEf_k ad adK adV al) (by decide) rfl (Nat.le_of_ble_eq_true rfl) (fun X A C hQ => ?_)
  refine j_lvq (lv2 := [(0, .ref (adK i))]) rfl ?_
  refine jk_cs C (by decide +kernel) dJ0_isLatin1_aae02_0 ?_
  refine j_if_eq C 17 dJ0_isLatin1_aae02_3 (by decide) (fun h => absurd h (by decide)) (fun _ => ?_)
  refine j_aload_n C 0 dJ0_isLatin1_aae02_6 rfl rfl ?_
  refine jk_coder C i hi (by decide +kernel) dJ0_isLatin1_aae02_7 ?_
  refine j_if_ne C 17 dJ0_isLatin1_aae02_10 (by decide) (fun h => absurd h (by decide)) (fun _ => ?_)
  refine j_iconst C 1 dJ0_isLatin1_aae02_13 (by decide) ?_
  refine j_goto C 18 dJ0_isLatin1_aae02_14 (by decide) ?_
  exact j_zret C hQ rfl dJ0_isLatin1_aae02_18 (⟨rfl, rfl⟩)

set_option maxHeartbeats 4000000 in
set_option maxRecDepth 100000 in
theorem cc_J0_length_8abf5 (l : Launch) (d : jD) (ad adK adV : Nat → Nat) (al : Nat) (ws : va_W) (i : Nat) (hi : i < 6) : jMi (cEf ad adK adV al) d l yJ0_length_8abf5 wsJ0_length_8abf5 ({ frames := 1, cells := 0, slots := 0, locals := 20 } : Room) 0 0 [.ref (adK i)] ws (fun r u => r = nI (lenR.getD i 0) ∧ u = ws) := by
  refine jMi.mk (cEf_k ad adK adV al) (by decide) rfl (Nat.le_of_ble_eq_true rfl) (fun X A C hQ => ?_)
  refine j_lvq (lv2 := [(0, .ref (adK i))]) rfl ?_
  refine j_aload_n C 0 dJ0_length_8abf5_0 rfl rfl ?_
  refine jk_value C i hi (by decide +kernel) dJ0_length_8abf5_1 ?_
  refine jk_len C i hi dJ0_length_8abf5_4 ?_
  refine j_aload_n C 0 dJ0_length_8abf5_5 rfl rfl ?_
  refine j_callK_i C 0 i hi (cc_J0_coder_7d493 l d ad adK adV al _ i hi) gJ0_length_8abf5_J0_coder_7d493 rfl rfl rfl (by decide +kernel) ⟨(Nat.le_of_ble_eq_true rfl), (Nat.le_of_ble_eq_true rfl)⟩ ⟨(Nat.le_of_ble_eq_true rfl), (Nat.le_of_ble_eq_true rfl)⟩ rfl rfl (Nat.le_of_ble_eq_true rfl) dJ0_length_8abf5_6 (fun r6 u6 h6 => ?_)
  obtain ⟨rfl, rfl⟩ := h6
  refine j_ishr C dJ0_length_8abf5_9 ?_
  exact j_iret C hQ dJ0_length_8abf5_10 (⟨shr_0 _, rfl⟩)

set_option maxHeartbeats 4000000 in
set_option maxRecDepth 100000 in
theorem cc_J3_checkIndex_8e157 (Ef : jE) (hk : jKp Ef) (l : Launch) (d : jD) (ws : va_W) (j N : Nat) (hj : j < N) (hN : N < 1000) (q : Option Nat) : jMi Ef d l yJ3_checkIndex_8e157 wsJ3_checkIndex_8e157 ({ frames := 0, cells := 0, slots := 0, locals := 0 } : Room) 0 0 [.int (nI j), .int (nI N), va_rf q] ws (fun r u => r = nI j ∧ u = ws) := by
  refine jMi.mk hk (by decide) rfl (by cases q <;> exact Nat.le_of_ble_eq_true rfl) (fun X A C hQ => ?_)
  refine j_lvq (lv2 := [(0, .int (nI j)), (1, .int (nI N)), (2, va_rf q)]) (by cases q <;> rfl) ?_
  refine j_iload_n C 0 dJ3_checkIndex_8e157_0 rfl rfl ?_
  refine j_if_lt C 9 dJ3_checkIndex_8e157_1 (by decide) (fun c1 => absurd c1 (nI_pos (by omega))) (fun c1 => ?_)
  refine j_iload_n C 0 dJ3_checkIndex_8e157_4 rfl rfl ?_
  refine j_iload_n C 1 dJ3_checkIndex_8e157_5 rfl rfl ?_
  refine j_icmp_lt C 16 dJ3_checkIndex_8e157_6 (by decide) (fun c6 => ?_) (fun c6 => absurd ((nI_ltI (a := j) (b := N) (by omega) (by omega)).mpr hj) c6)
  refine j_iload_n C 0 dJ3_checkIndex_8e157_16 rfl rfl ?_
  exact j_iret C hQ dJ3_checkIndex_8e157_17 (⟨rfl, rfl⟩)

set_option maxHeartbeats 4000000 in
set_option maxRecDepth 100000 in
theorem cc_J0_checkIndex_df160 (l : Launch) (d : jD) (ad adK adV : Nat → Nat) (al : Nat) (ws : va_W) (j N : Nat) (hj : j < N) (hN : N < 1000) : jMv (cEf ad adK adV al) d l yJ0_checkIndex_df160 wsJ0_checkIndex_df160 ({ frames := 1, cells := 0, slots := 0, locals := 22 } : Room) 0 0 [.int (nI j), .int (nI N)] ws (fun u => u = ws) := by
  refine jMv.mk (cEf_k ad adK adV al) (by decide) rfl (Nat.le_of_ble_eq_true rfl) (fun X A C hQ => ?_)
  refine j_lvq (lv2 := [(0, .int (nI j)), (1, .int (nI N))]) rfl ?_
  refine j_iload_n C 0 dJ0_checkIndex_df160_0 rfl rfl ?_
  refine j_iload_n C 1 dJ0_checkIndex_df160_1 rfl rfl ?_
  refine jk_fmt C (by decide +kernel) dJ0_checkIndex_df160_2 (fun r => ?_)
  refine j_callT_i C 3 (cc_J3_checkIndex_8e157 (cEf ad adK adV al) (cEf_k ad adK adV al) l d _ j N hj hN r) gJ0_checkIndex_df160_J3_checkIndex_8e157 rfl rfl rfl (by decide +kernel) ⟨(Nat.le_of_ble_eq_true rfl), (Nat.le_of_ble_eq_true rfl)⟩ ⟨(Nat.le_of_ble_eq_true rfl), (Nat.le_of_ble_eq_true rfl)⟩ rfl rfl (Nat.le_of_ble_eq_true rfl) dJ0_checkIndex_df160_5 (fun r5 u5 h5 => ?_)
  obtain ⟨rfl, rfl⟩ := h5
  refine j_pop C dJ0_checkIndex_df160_8 rfl ?_
  exact j_vret C hQ dJ0_checkIndex_df160_9 rfl

set_option maxHeartbeats 4000000 in
set_option maxRecDepth 100000 in
theorem cc_J1_charAt_3b067 (l : Launch) (d : jD) (ad adK adV : Nat → Nat) (al : Nat) (ws : va_W) (i : Nat) (hi : i < 6) (j : Nat) (hj : j < lenR.getD i 0) : jMi (cEf ad adK adV al) d l yJ1_charAt_3b067 wsJ1_charAt_3b067 ({ frames := 2, cells := 0, slots := 0, locals := 43 } : Room) 0 0 [.ref (adV i), .int (nI j)] ws (fun r u => r = (bytR.getD i []).getD j 0 ∧ u = ws) := by
  refine jMi.mk (cEf_k ad adK adV al) (by decide) rfl (Nat.le_of_ble_eq_true rfl) (fun X A C hQ => ?_)
  have hj2 : j < 100 := by have := lenR_lt i hi; omega
  refine j_lvq (lv2 := [(0, .ref (adV i)), (1, .int (nI j))]) rfl ?_
  refine j_iload_n C 1 dJ1_charAt_3b067_0 rfl rfl ?_
  refine j_aload_n C 0 dJ1_charAt_3b067_1 rfl rfl ?_
  refine jk_len C i hi dJ1_charAt_3b067_2 ?_
  refine j_callT_v C 2 (cc_J0_checkIndex_df160 l d ad adK adV al _ j (lenR.getD i 0) hj (by have := lenR_lt i hi; omega)) gJ1_charAt_3b067_J0_checkIndex_df160 rfl rfl rfl (by decide +kernel) ⟨(Nat.le_of_ble_eq_true rfl), (Nat.le_of_ble_eq_true rfl)⟩ ⟨(Nat.le_of_ble_eq_true rfl), (Nat.le_of_ble_eq_true rfl)⟩ rfl rfl (Nat.le_of_ble_eq_true rfl) dJ1_charAt_3b067_3 (fun u3 h3 => ?_)
  obtain rfl := h3
  refine j_aload_n C 0 dJ1_charAt_3b067_6 rfl rfl ?_
  refine j_iload_n C 1 dJ1_charAt_3b067_7 rfl rfl ?_
  refine jk_bald C i j hi hj hj2 dJ1_charAt_3b067_8 ?_
  refine j_sipush C 255 dJ1_charAt_3b067_9 (by decide) ?_
  refine j_iand C dJ1_charAt_3b067_12 ?_
  refine j_i2c C ((bytR.getD i []).getD j 0) dJ1_charAt_3b067_13 (chR_ok i hi j hj).1 ?_
  exact j_zret C hQ (chR_ok i hi j hj).2 dJ1_charAt_3b067_14 (⟨rfl, rfl⟩)

set_option maxHeartbeats 4000000 in
set_option maxRecDepth 100000 in
theorem cc_J0_charAt_5068e (l : Launch) (d : jD) (ad adK adV : Nat → Nat) (al : Nat) (ws : va_W) (i : Nat) (hi : i < 6) (j : Nat) (hj : j < lenR.getD i 0) : jMi (cEf ad adK adV al) d l yJ0_charAt_5068e wsJ0_charAt_5068e ({ frames := 3, cells := 0, slots := 0, locals := 64 } : Room) 0 0 [.ref (adK i), .int (nI j)] ws (fun r u => r = (bytR.getD i []).getD j 0 ∧ u = ws) := by
  refine jMi.mk (cEf_k ad adK adV al) (by decide) rfl (Nat.le_of_ble_eq_true rfl) (fun X A C hQ => ?_)
  refine j_lvq (lv2 := [(0, .ref (adK i)), (1, .int (nI j))]) rfl ?_
  refine j_aload_n C 0 dJ0_charAt_5068e_0 rfl rfl ?_
  refine j_callK_i C 0 i hi (cc_J0_isLatin1_aae02 l d ad adK adV al _ i hi) gJ0_charAt_5068e_J0_isLatin1_aae02 rfl rfl rfl (by decide +kernel) ⟨(Nat.le_of_ble_eq_true rfl), (Nat.le_of_ble_eq_true rfl)⟩ ⟨(Nat.le_of_ble_eq_true rfl), (Nat.le_of_ble_eq_true rfl)⟩ rfl rfl (Nat.le_of_ble_eq_true rfl) dJ0_charAt_5068e_1 (fun r1 u1 h1 => ?_)
  obtain ⟨rfl, rfl⟩ := h1
  refine j_if_eq C 16 dJ0_charAt_5068e_4 (by decide) (fun h => absurd h (by decide)) (fun _ => ?_)
  refine j_aload_n C 0 dJ0_charAt_5068e_7 rfl rfl ?_
  refine jk_value C i hi (by decide +kernel) dJ0_charAt_5068e_8 ?_
  refine j_iload_n C 1 dJ0_charAt_5068e_11 rfl rfl ?_
  refine j_callT_i C 2 (cc_J1_charAt_3b067 l d ad adK adV al _ i hi j hj) gJ0_charAt_5068e_J1_charAt_3b067 rfl rfl rfl (by decide +kernel) ⟨(Nat.le_of_ble_eq_true rfl), (Nat.le_of_ble_eq_true rfl)⟩ ⟨(Nat.le_of_ble_eq_true rfl), (Nat.le_of_ble_eq_true rfl)⟩ rfl rfl (Nat.le_of_ble_eq_true rfl) dJ0_charAt_5068e_12 (fun r12 u12 h12 => ?_)
  obtain ⟨rfl, rfl⟩ := h12
  exact j_zret C hQ (chR_ok i hi j hj).2 dJ0_charAt_5068e_15 (⟨rfl, rfl⟩)


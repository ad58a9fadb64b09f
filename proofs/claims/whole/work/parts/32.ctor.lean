theorem oI_X7 : Cond.code Lib.objectInit ⟨#[0xb1]⟩ 1 none ∈ wsX7_init := by decide +kernel

theorem oI_X0 : Cond.code Lib.objectInit ⟨#[0xb1]⟩ 1 none ∈ wsX0_init := by decide +kernel

theorem oI_X6 : Cond.code Lib.objectInit ⟨#[0xb1]⟩ 1 none ∈ wsX6_init := by decide +kernel

theorem oI_X8 : Cond.code Lib.objectInit ⟨#[0xb1]⟩ 1 none ∈ wsX8_init := by decide +kernel

theorem oI_X1 : Cond.code Lib.objectInit ⟨#[0xb1]⟩ 1 none ∈ wsX1_init := by decide +kernel

theorem cc_X1_init (Ef : jE) (hk : jKp Ef) (l : Launch) (d : jD) (ws : va_W) (o : Nat) : jMv Ef d l yX1_init wsX1_init ({ frames := 1, cells := 0, slots := 0, locals := 20 } : Room) 0 0 [.ref o] ws (fun w => w = ws) := by
  refine jMv.mk hk (by decide) rfl (Nat.le_of_ble_eq_true rfl) (fun X A C hQ => ?_)
  refine j_lvq (lv2 := [(0, .ref o)]) rfl ?_
  refine j_aload_n C 0 dX1_init_0 rfl rfl ?_
  refine j_objInit C (by decide +kernel) (by decide +kernel) oI_X1 ⟨(Nat.le_of_ble_eq_true rfl), (Nat.le_of_ble_eq_true rfl)⟩ (Nat.le_of_ble_eq_true rfl) dX1_init_1 ?_
  exact j_vret C hQ dX1_init_4 rfl

set_option maxHeartbeats 4000000 in
set_option maxRecDepth 100000 in
theorem cc_X7_init (l : Launch) (d : jD) (ad adK adV : Nat → Nat) (al o : Nat)  : jMv (cEf ad adK adV al) d l yX7_init wsX7_init ({ frames := 1, cells := 1, slots := 140, locals := 20 } : Room) 1 140 [.ref o] [(o, .inr (5, [.null, .int 0]))] (fun u => ∃ q1, u = [(o, .inr (5, [.ref q1, .int 0])), (q1, .inl (d.2 0, 140, .inl (fun _ => 0)))]) := by
  refine jMv.mkI (cEf_k ad adK adV al) (by decide) rfl (Nat.le_of_ble_eq_true rfl) (fun X A C hQ hNm => ?_)
  have hinX7 : ∀ w ∈ u_ws RX7 TX7 2, w ∈ wsX7_init := fun w h => List.mem_cons_of_mem _ (List.mem_append_right _ h)
  refine j_lvq (lv2 := [(0, .ref o)]) rfl ?_
  refine j_aload_n C 0 dX7_init_0 rfl rfl ?_
  refine j_objInit C (by decide +kernel) (by decide +kernel) (oI_X7) ⟨(Nat.le_of_ble_eq_true rfl), (Nat.le_of_ble_eq_true rfl)⟩ (Nat.le_of_ble_eq_true rfl) dX7_init_1 ?_
  refine j_aload_n C 0 dX7_init_4 rfl rfl ?_
  refine j_sipush C 140 dX7_init_5 (by decide) ?_
  refine j_newb C 140 (by decide +kernel) rfl (by decide) ⟨(Nat.le_of_ble_eq_true rfl), (Nat.le_of_ble_eq_true rfl)⟩ dX7_init_8 (fun q1 => ?_)
  refine j_ws (ws2 := [(o, .inr (5, [.null, .int 0])), (q1, .inl (d.2 0, 140, .inl (fun _ => 0)))]) rfl ?_
  refine j_widen (k1 := 1) (n1 := 140) (Nat.le_of_ble_eq_true rfl) (Nat.le_of_ble_eq_true rfl) ?_
  refine j_putF C hNm hinX7 tyX7_ok nmX7 0 0 rfl rfl (by decide) (by decide +kernel) rfl rfl (ty := (.array .byte)) rfl rfl rfl (by decide : 0 < 2) (ws2 := [(o, .inr (5, [.ref q1, .int 0])), (q1, .inl (d.2 0, 140, .inl (fun _ => 0)))]) rfl dX7_init_10 ?_
  exact j_vret C hQ dX7_init_13 (⟨q1, rfl⟩)

set_option maxHeartbeats 4000000 in
set_option maxRecDepth 100000 in
theorem cc_X0_init (l : Launch) (d : jD) (ad adK adV : Nat → Nat) (al o : Nat)  : jMv (cEf ad adK adV al) d l yX0_init wsX0_init ({ frames := 1, cells := 3, slots := 84, locals := 20 } : Room) 3 84 [.ref o] [(o, .inr (0, [.null, .null, .null]))] (fun u => ∃ q1 q2 q3, u = [(o, .inr (0, [.ref q1, .ref q2, .ref q3])), (q1, .inl (d.2 1, 28, .inl (fun _ => 0))), (q2, .inl (d.2 1, 28, .inl (fun _ => 0))), (q3, .inl (d.2 1, 28, .inl (fun _ => 0)))]) := by
  refine jMv.mkI (cEf_k ad adK adV al) (by decide) rfl (Nat.le_of_ble_eq_true rfl) (fun X A C hQ hNm => ?_)
  have hinX0 : ∀ w ∈ u_ws RX0 TX0 3, w ∈ wsX0_init := fun w h => List.mem_cons_of_mem _ (List.mem_append_right _ h)
  refine j_lvq (lv2 := [(0, .ref o)]) rfl ?_
  refine j_aload_n C 0 dX0_init_0 rfl rfl ?_
  refine j_objInit C (by decide +kernel) (by decide +kernel) (oI_X0) ⟨(Nat.le_of_ble_eq_true rfl), (Nat.le_of_ble_eq_true rfl)⟩ (Nat.le_of_ble_eq_true rfl) dX0_init_1 ?_
  refine j_aload_n C 0 dX0_init_4 rfl rfl ?_
  refine j_bipush C 28 dX0_init_5 (by decide) ?_
  refine j_newi C 28 (by decide +kernel) rfl (by decide) ⟨(Nat.le_of_ble_eq_true rfl), (Nat.le_of_ble_eq_true rfl)⟩ dX0_init_7 (fun q1 => ?_)
  refine j_ws (ws2 := [(o, .inr (0, [.null, .null, .null])), (q1, .inl (d.2 1, 28, .inl (fun _ => 0)))]) rfl ?_
  refine j_widen (k1 := 1) (n1 := 28) (Nat.le_of_ble_eq_true rfl) (Nat.le_of_ble_eq_true rfl) ?_
  refine j_putF C hNm hinX0 tyX0_ok nmX0 0 0 rfl rfl (by decide) (by decide +kernel) rfl rfl (ty := (.array .int)) rfl rfl rfl (by decide : 0 < 3) (ws2 := [(o, .inr (0, [.ref q1, .null, .null])), (q1, .inl (d.2 1, 28, .inl (fun _ => 0)))]) rfl dX0_init_9 ?_
  refine j_aload_n C 0 dX0_init_12 rfl rfl ?_
  refine j_bipush C 28 dX0_init_13 (by decide) ?_
  refine j_newi C 28 (by decide +kernel) rfl (by decide) ⟨(Nat.le_of_ble_eq_true rfl), (Nat.le_of_ble_eq_true rfl)⟩ dX0_init_15 (fun q2 => ?_)
  refine j_ws (ws2 := [(o, .inr (0, [.ref q1, .null, .null])), (q1, .inl (d.2 1, 28, .inl (fun _ => 0))), (q2, .inl (d.2 1, 28, .inl (fun _ => 0)))]) rfl ?_
  refine j_widen (k1 := 2) (n1 := 56) (Nat.le_of_ble_eq_true rfl) (Nat.le_of_ble_eq_true rfl) ?_
  refine j_putF C hNm hinX0 tyX0_ok nmX0 0 1 rfl rfl (by decide) (by decide +kernel) rfl rfl (ty := (.array .int)) rfl rfl rfl (by decide : 1 < 3) (ws2 := [(o, .inr (0, [.ref q1, .ref q2, .null])), (q1, .inl (d.2 1, 28, .inl (fun _ => 0))), (q2, .inl (d.2 1, 28, .inl (fun _ => 0)))]) rfl dX0_init_17 ?_
  refine j_aload_n C 0 dX0_init_20 rfl rfl ?_
  refine j_bipush C 28 dX0_init_21 (by decide) ?_
  refine j_newi C 28 (by decide +kernel) rfl (by decide) ⟨(Nat.le_of_ble_eq_true rfl), (Nat.le_of_ble_eq_true rfl)⟩ dX0_init_23 (fun q3 => ?_)
  refine j_ws (ws2 := [(o, .inr (0, [.ref q1, .ref q2, .null])), (q1, .inl (d.2 1, 28, .inl (fun _ => 0))), (q2, .inl (d.2 1, 28, .inl (fun _ => 0))), (q3, .inl (d.2 1, 28, .inl (fun _ => 0)))]) rfl ?_
  refine j_widen (k1 := 3) (n1 := 84) (Nat.le_of_ble_eq_true rfl) (Nat.le_of_ble_eq_true rfl) ?_
  refine j_putF C hNm hinX0 tyX0_ok nmX0 0 2 rfl rfl (by decide) (by decide +kernel) rfl rfl (ty := (.array .int)) rfl rfl rfl (by decide : 2 < 3) (ws2 := [(o, .inr (0, [.ref q1, .ref q2, .ref q3])), (q1, .inl (d.2 1, 28, .inl (fun _ => 0))), (q2, .inl (d.2 1, 28, .inl (fun _ => 0))), (q3, .inl (d.2 1, 28, .inl (fun _ => 0)))]) rfl dX0_init_25 ?_
  exact j_vret C hQ dX0_init_28 (⟨q1, q2, q3, rfl⟩)

set_option maxHeartbeats 4000000 in
set_option maxRecDepth 100000 in
theorem cc_X4_init (l : Launch) (d : jD) (ad adK adV : Nat → Nat) (al o : Nat) (x : Int32) : jMv (cEf ad adK adV al) d l yX4_init wsX4_init ({ frames := 2, cells := 0, slots := 0, locals := 40 } : Room) 0 0 [.ref o, .int x] [(o, .inr (3, [.int 0, .int 0]))] (fun u => u = [(o, .inr (3, [.int 1000, .int x]))]) := by
  refine jMv.mkI (cEf_k ad adK adV al) (by decide) rfl (Nat.le_of_ble_eq_true rfl) (fun X A C hQ hNm => ?_)
  have hinX4 : ∀ w ∈ u_ws RX4 TX4 2, w ∈ wsX4_init := fun w h => List.mem_cons_of_mem _ (List.mem_append_left _ (List.mem_append_right _ h))
  refine j_lvq (lv2 := [(0, .ref o), (1, .int x)]) rfl ?_
  refine j_aload_n C 0 dX4_init_0 rfl rfl ?_
  refine j_callIN_v C 0 (cc_X1_init (cEf ad adK adV al) (cEf_k ad adK adV al) l d _ o) gX4_init_X1_init_n3 nst_X4_3 (by decide +kernel) (by decide +kernel) rfl rfl rfl rfl (by decide +kernel) ⟨(Nat.le_of_ble_eq_true rfl), (Nat.le_of_ble_eq_true rfl)⟩ ⟨(Nat.le_of_ble_eq_true rfl), (Nat.le_of_ble_eq_true rfl)⟩ rfl rfl (Nat.le_of_ble_eq_true rfl) dX4_init_1 (fun u1 h1 => ?_)
  obtain rfl := h1
  refine j_aload_n C 0 dX4_init_4 rfl rfl ?_
  refine j_iload_n C 1 dX4_init_5 rfl rfl ?_
  refine j_putF C hNm hinX4 tyX4_ok nmX4 0 1 rfl rfl (by decide) (by decide +kernel) rfl rfl (ty := .int) rfl rfl rfl (by decide : 1 < 2) (ws2 := [(o, .inr (3, [.int 0, .int x]))]) rfl dX4_init_6 ?_
  refine j_aload_n C 0 dX4_init_9 rfl rfl ?_
  refine j_sipush C 1000 dX4_init_10 (by decide) ?_
  refine j_putS (ref := "CouponSale$Person") C hinX4 tyX4_ok nmX4 0 0 rfl rfl (by decide) (by decide +kernel) (by decide +kernel) rfl (ty := .int) rfl rfl rfl (by decide : 0 < 2) (ws2 := [(o, .inr (3, [.int 1000, .int x]))]) rfl dX4_init_13 ?_
  exact j_vret C hQ dX4_init_16 rfl

set_option maxHeartbeats 4000000 in
set_option maxRecDepth 100000 in
theorem cc_X3_init (l : Launch) (d : jD) (ad adK adV : Nat → Nat) (al o : Nat) (x : Int32) : jMv (cEf ad adK adV al) d l yX3_init wsX3_init ({ frames := 2, cells := 1, slots := 24, locals := 40 } : Room) 1 24 [.ref o, .int x] [(o, .inr (2, [.int 0, .int 0, .null, .int 0]))] (fun u => ∃ q1, u = [(o, .inr (2, [.int 0, .int x, .ref q1, .int 0])), (q1, .inl (d.2 1, 24, .inl (fun _ => 0)))]) := by
  refine jMv.mkI (cEf_k ad adK adV al) (by decide) rfl (Nat.le_of_ble_eq_true rfl) (fun X A C hQ hNm => ?_)
  have hinX3 : ∀ w ∈ u_ws RX3 TX3 4, w ∈ wsX3_init := fun w h => List.mem_cons_of_mem _ (List.mem_append_right _ h)
  refine j_lvq (lv2 := [(0, .ref o), (1, .int x)]) rfl ?_
  refine j_aload_n C 0 dX3_init_0 rfl rfl ?_
  refine j_callIN_v C 0 (cc_X1_init (cEf ad adK adV al) (cEf_k ad adK adV al) l d _ o) gX3_init_X1_init_n3 nst_X3_3 (by decide +kernel) (by decide +kernel) rfl rfl rfl rfl (by decide +kernel) ⟨(Nat.le_of_ble_eq_true rfl), (Nat.le_of_ble_eq_true rfl)⟩ ⟨(Nat.le_of_ble_eq_true rfl), (Nat.le_of_ble_eq_true rfl)⟩ rfl rfl (Nat.le_of_ble_eq_true rfl) dX3_init_1 (fun u1 h1 => ?_)
  obtain rfl := h1
  refine j_aload_n C 0 dX3_init_4 rfl rfl ?_
  refine j_bipush C 24 dX3_init_5 (by decide) ?_
  refine j_newi C 24 (by decide +kernel) rfl (by decide) ⟨(Nat.le_of_ble_eq_true rfl), (Nat.le_of_ble_eq_true rfl)⟩ dX3_init_7 (fun q1 => ?_)
  refine j_ws (ws2 := [(o, .inr (2, [.int 0, .int 0, .null, .int 0])), (q1, .inl (d.2 1, 24, .inl (fun _ => 0)))]) rfl ?_
  refine j_widen (k1 := 1) (n1 := 24) (Nat.le_of_ble_eq_true rfl) (Nat.le_of_ble_eq_true rfl) ?_
  refine j_putF C hNm hinX3 tyX3_ok nmX3 0 2 rfl rfl (by decide) (by decide +kernel) rfl rfl (ty := (.array .int)) rfl rfl rfl (by decide : 2 < 4) (ws2 := [(o, .inr (2, [.int 0, .int 0, .ref q1, .int 0])), (q1, .inl (d.2 1, 24, .inl (fun _ => 0)))]) rfl dX3_init_9 ?_
  refine j_aload_n C 0 dX3_init_12 rfl rfl ?_
  refine j_iload_n C 1 dX3_init_13 rfl rfl ?_
  refine j_putF C hNm hinX3 tyX3_ok nmX3 0 1 rfl rfl (by decide) (by decide +kernel) rfl rfl (ty := .int) rfl rfl rfl (by decide : 1 < 4) (ws2 := [(o, .inr (2, [.int 0, .int x, .ref q1, .int 0])), (q1, .inl (d.2 1, 24, .inl (fun _ => 0)))]) rfl dX3_init_14 ?_
  exact j_vret C hQ dX3_init_17 (⟨q1, rfl⟩)

set_option maxHeartbeats 4000000 in
set_option maxRecDepth 100000 in
theorem cc_X8_init (l : Launch) (d : jD) (ad adK adV : Nat → Nat) (al o : Nat) (x y : Int32) (r : Nat) (hr : r < 50) : jMv (cEf ad adK adV al) d l yX8_init wsX8_init ({ frames := 1, cells := 4, slots := 1506, locals := 22 } : Room) 4 1506 [.ref o, .int x, .int y, .int (nI r)] [(o, .inr (6, [.int 0, .int 0, .int 0, .int 0, .null, .null, .null, .null]))] (fun u => ∃ q1 q2 q3 q4, u = [(o, .inr (6, [.int x, .int (nI r), .int x, .int y, .ref q1, .ref q2, .ref q3, .ref q4])), (q1, .inl (d.2 1, 28, .inl (fun _ => 0))), (q2, .inl (d.2 1, 28, .inl (fun _ => 0))), (q3, .inl (d.2 1, 50, .inl (upd (fun _ => 0) r y))), (q4, .inl (d.2 1, 1400, .inl (fun _ => 0)))]) := by
  refine jMv.mkI (cEf_k ad adK adV al) (by decide) rfl (Nat.le_of_ble_eq_true rfl) (fun X A C hQ hNm => ?_)
  have hinX8 : ∀ w ∈ u_ws RX8 TX8 8, w ∈ wsX8_init := fun w h => List.mem_cons_of_mem _ (List.mem_append_right _ h)
  refine j_lvq (lv2 := [(0, .ref o), (1, .int x), (2, .int y), (3, .int (nI r))]) rfl ?_
  refine j_aload_n C 0 dX8_init_0 rfl rfl ?_
  refine j_objInit C (by decide +kernel) (by decide +kernel) (oI_X8) ⟨(Nat.le_of_ble_eq_true rfl), (Nat.le_of_ble_eq_true rfl)⟩ (Nat.le_of_ble_eq_true rfl) dX8_init_1 ?_
  refine j_aload_n C 0 dX8_init_4 rfl rfl ?_
  refine j_bipush C 28 dX8_init_5 (by decide) ?_
  refine j_newi C 28 (by decide +kernel) rfl (by decide) ⟨(Nat.le_of_ble_eq_true rfl), (Nat.le_of_ble_eq_true rfl)⟩ dX8_init_7 (fun q1 => ?_)
  refine j_ws (ws2 := [(o, .inr (6, [.int 0, .int 0, .int 0, .int 0, .null, .null, .null, .null])), (q1, .inl (d.2 1, 28, .inl (fun _ => 0)))]) rfl ?_
  refine j_widen (k1 := 1) (n1 := 28) (Nat.le_of_ble_eq_true rfl) (Nat.le_of_ble_eq_true rfl) ?_
  refine j_putF C hNm hinX8 tyX8_ok nmX8 0 4 rfl rfl (by decide) (by decide +kernel) rfl rfl (ty := (.array .int)) rfl rfl rfl (by decide : 4 < 8) (ws2 := [(o, .inr (6, [.int 0, .int 0, .int 0, .int 0, .ref q1, .null, .null, .null])), (q1, .inl (d.2 1, 28, .inl (fun _ => 0)))]) rfl dX8_init_9 ?_
  refine j_aload_n C 0 dX8_init_12 rfl rfl ?_
  refine j_bipush C 28 dX8_init_13 (by decide) ?_
  refine j_newi C 28 (by decide +kernel) rfl (by decide) ⟨(Nat.le_of_ble_eq_true rfl), (Nat.le_of_ble_eq_true rfl)⟩ dX8_init_15 (fun q2 => ?_)
  refine j_ws (ws2 := [(o, .inr (6, [.int 0, .int 0, .int 0, .int 0, .ref q1, .null, .null, .null])), (q1, .inl (d.2 1, 28, .inl (fun _ => 0))), (q2, .inl (d.2 1, 28, .inl (fun _ => 0)))]) rfl ?_
  refine j_widen (k1 := 2) (n1 := 56) (Nat.le_of_ble_eq_true rfl) (Nat.le_of_ble_eq_true rfl) ?_
  refine j_putF C hNm hinX8 tyX8_ok nmX8 0 5 rfl rfl (by decide) (by decide +kernel) rfl rfl (ty := (.array .int)) rfl rfl rfl (by decide : 5 < 8) (ws2 := [(o, .inr (6, [.int 0, .int 0, .int 0, .int 0, .ref q1, .ref q2, .null, .null])), (q1, .inl (d.2 1, 28, .inl (fun _ => 0))), (q2, .inl (d.2 1, 28, .inl (fun _ => 0)))]) rfl dX8_init_17 ?_
  refine j_aload_n C 0 dX8_init_20 rfl rfl ?_
  refine j_bipush C 50 dX8_init_21 (by decide) ?_
  refine j_newi C 50 (by decide +kernel) rfl (by decide) ⟨(Nat.le_of_ble_eq_true rfl), (Nat.le_of_ble_eq_true rfl)⟩ dX8_init_23 (fun q3 => ?_)
  refine j_ws (ws2 := [(o, .inr (6, [.int 0, .int 0, .int 0, .int 0, .ref q1, .ref q2, .null, .null])), (q1, .inl (d.2 1, 28, .inl (fun _ => 0))), (q2, .inl (d.2 1, 28, .inl (fun _ => 0))), (q3, .inl (d.2 1, 50, .inl (fun _ => 0)))]) rfl ?_
  refine j_widen (k1 := 3) (n1 := 106) (Nat.le_of_ble_eq_true rfl) (Nat.le_of_ble_eq_true rfl) ?_
  refine j_putF C hNm hinX8 tyX8_ok nmX8 0 6 rfl rfl (by decide) (by decide +kernel) rfl rfl (ty := (.array .int)) rfl rfl rfl (by decide : 6 < 8) (ws2 := [(o, .inr (6, [.int 0, .int 0, .int 0, .int 0, .ref q1, .ref q2, .ref q3, .null])), (q1, .inl (d.2 1, 28, .inl (fun _ => 0))), (q2, .inl (d.2 1, 28, .inl (fun _ => 0))), (q3, .inl (d.2 1, 50, .inl (fun _ => 0)))]) rfl dX8_init_25 ?_
  refine j_aload_n C 0 dX8_init_28 rfl rfl ?_
  refine j_sipush C 1400 dX8_init_29 (by decide) ?_
  refine j_newi C 1400 (by decide +kernel) rfl (by decide) ⟨(Nat.le_of_ble_eq_true rfl), (Nat.le_of_ble_eq_true rfl)⟩ dX8_init_32 (fun q4 => ?_)
  refine j_ws (ws2 := [(o, .inr (6, [.int 0, .int 0, .int 0, .int 0, .ref q1, .ref q2, .ref q3, .null])), (q1, .inl (d.2 1, 28, .inl (fun _ => 0))), (q2, .inl (d.2 1, 28, .inl (fun _ => 0))), (q3, .inl (d.2 1, 50, .inl (fun _ => 0))), (q4, .inl (d.2 1, 1400, .inl (fun _ => 0)))]) rfl ?_
  refine j_widen (k1 := 4) (n1 := 1506) (Nat.le_of_ble_eq_true rfl) (Nat.le_of_ble_eq_true rfl) ?_
  refine j_putF C hNm hinX8 tyX8_ok nmX8 0 7 rfl rfl (by decide) (by decide +kernel) rfl rfl (ty := (.array .int)) rfl rfl rfl (by decide : 7 < 8) (ws2 := [(o, .inr (6, [.int 0, .int 0, .int 0, .int 0, .ref q1, .ref q2, .ref q3, .ref q4])), (q1, .inl (d.2 1, 28, .inl (fun _ => 0))), (q2, .inl (d.2 1, 28, .inl (fun _ => 0))), (q3, .inl (d.2 1, 50, .inl (fun _ => 0))), (q4, .inl (d.2 1, 1400, .inl (fun _ => 0)))]) rfl dX8_init_34 ?_
  refine j_aload_n C 0 dX8_init_37 rfl rfl ?_
  refine j_iload_n C 1 dX8_init_38 rfl rfl ?_
  refine j_putF C hNm hinX8 tyX8_ok nmX8 0 0 rfl rfl (by decide) (by decide +kernel) rfl rfl (ty := .int) rfl rfl rfl (by decide : 0 < 8) (ws2 := [(o, .inr (6, [.int x, .int 0, .int 0, .int 0, .ref q1, .ref q2, .ref q3, .ref q4])), (q1, .inl (d.2 1, 28, .inl (fun _ => 0))), (q2, .inl (d.2 1, 28, .inl (fun _ => 0))), (q3, .inl (d.2 1, 50, .inl (fun _ => 0))), (q4, .inl (d.2 1, 1400, .inl (fun _ => 0)))]) rfl dX8_init_39 ?_
  refine j_aload_n C 0 dX8_init_42 rfl rfl ?_
  refine j_iload_n C 1 dX8_init_43 rfl rfl ?_
  refine j_put C hinX8 tyX8_ok nmX8 0 2 rfl rfl (by decide) (by decide +kernel) rfl (ty := .int) rfl rfl rfl (by decide : 2 < 8) (ws2 := [(o, .inr (6, [.int x, .int 0, .int x, .int 0, .ref q1, .ref q2, .ref q3, .ref q4])), (q1, .inl (d.2 1, 28, .inl (fun _ => 0))), (q2, .inl (d.2 1, 28, .inl (fun _ => 0))), (q3, .inl (d.2 1, 50, .inl (fun _ => 0))), (q4, .inl (d.2 1, 1400, .inl (fun _ => 0)))]) rfl dX8_init_44 ?_
  refine j_aload_n C 0 dX8_init_47 rfl rfl ?_
  refine j_iload_n C 2 dX8_init_48 rfl rfl ?_
  refine j_put C hinX8 tyX8_ok nmX8 0 3 rfl rfl (by decide) (by decide +kernel) rfl (ty := .int) rfl rfl rfl (by decide : 3 < 8) (ws2 := [(o, .inr (6, [.int x, .int 0, .int x, .int y, .ref q1, .ref q2, .ref q3, .ref q4])), (q1, .inl (d.2 1, 28, .inl (fun _ => 0))), (q2, .inl (d.2 1, 28, .inl (fun _ => 0))), (q3, .inl (d.2 1, 50, .inl (fun _ => 0))), (q4, .inl (d.2 1, 1400, .inl (fun _ => 0)))]) rfl dX8_init_49 ?_
  refine j_aload_n C 0 dX8_init_52 rfl rfl ?_
  refine j_iload_n C 3 dX8_init_53 rfl rfl ?_
  refine j_putF C hNm hinX8 tyX8_ok nmX8 0 1 rfl rfl (by decide) (by decide +kernel) rfl rfl (ty := .int) rfl rfl rfl (by decide : 1 < 8) (ws2 := [(o, .inr (6, [.int x, .int (nI r), .int x, .int y, .ref q1, .ref q2, .ref q3, .ref q4])), (q1, .inl (d.2 1, 28, .inl (fun _ => 0))), (q2, .inl (d.2 1, 28, .inl (fun _ => 0))), (q3, .inl (d.2 1, 50, .inl (fun _ => 0))), (q4, .inl (d.2 1, 1400, .inl (fun _ => 0)))]) rfl dX8_init_54 ?_
  refine j_iload_n C 3 dX8_init_57 rfl rfl ?_
  refine j_iconst C 0 dX8_init_58 (by decide) ?_
  refine j_bipush C 49 dX8_init_59 (by decide) ?_
  refine j_callSN_i C 3 (cc_X9_isWithin (cEf ad adK adV al) (cEf_k ad adK adV al) l d _ (nI r) 0 49) gX8_init_X9_isWithin_n37 nst_X8_37 (by decide +kernel) (by decide +kernel) rfl rfl rfl (by decide +kernel) ⟨(Nat.le_of_ble_eq_true rfl), (Nat.le_of_ble_eq_true rfl)⟩ ⟨(Nat.le_of_ble_eq_true rfl), (Nat.le_of_ble_eq_true rfl)⟩ rfl rfl (Nat.le_of_ble_eq_true rfl) dX8_init_61 (fun r61 u61 h61 => ?_)
  obtain ⟨rfl, rfl⟩ := h61
  refine j_if_eq C 74 dX8_init_64 (by decide) (fun c64 => absurd c64 (bI_n0.mpr ⟨nI_pos' (by omega), (nI_leI (a := r) (b := 49) (by omega) (by omega)).mpr (by omega)⟩)) (fun c64 => ?_)
  refine j_aload_n C 0 dX8_init_67 rfl rfl ?_
  refine j_get C hinX8 0 6 rfl rfl (by decide) (by decide +kernel) rfl dX8_init_68 ?_
  refine j_iload_n C 3 dX8_init_71 rfl rfl ?_
  refine j_iload_n C 2 dX8_init_72 rfl rfl ?_
  refine j_iast C 3 r rfl rfl (by omega) (by decide) (ws2 := [(o, .inr (6, [.int x, .int (nI r), .int x, .int y, .ref q1, .ref q2, .ref q3, .ref q4])), (q1, .inl (d.2 1, 28, .inl (fun _ => 0))), (q2, .inl (d.2 1, 28, .inl (fun _ => 0))), (q3, .inl (d.2 1, 50, .inl (upd (fun _ => 0) r y))), (q4, .inl (d.2 1, 1400, .inl (fun _ => 0)))]) rfl dX8_init_73 ?_
  exact j_vret C hQ dX8_init_74 (⟨q1, q2, q3, q4, rfl⟩)

def unK : Nat → Nat → Int32
  | 0 => fun _ => 0
  | k + 1 => upd (unK k) k (unR k)

set_option maxHeartbeats 4000000 in
set_option maxRecDepth 100000 in
theorem cc_X6_init (l : Launch) (d : jD) (ad adK adV : Nat → Nat) (al o : Nat)  : jMv (cEf ad adK adV al) d l yX6_init wsX6_init ({ frames := 1, cells := 2, slots := 12, locals := 20 } : Room) 2 12 [.ref o] [(o, .inr (4, [.null, .null, .int 0, .int 0, .null, .int 0, .int 0]))] (fun u => ∃ q1 q2, u = [(o, .inr (4, [.ref q1, .ref q2, .int 0, .int 0, .null, .int 0, .int 0])), (q1, .inl (d.2 1, 6, .inl (unK 6))), (q2, .inl (d.2 1, 6, .inl (fun _ => 0)))]) := by
  refine jMv.mkI (cEf_k ad adK adV al) (by decide) rfl (Nat.le_of_ble_eq_true rfl) (fun X A C hQ hNm => ?_)
  have hinX6 : ∀ w ∈ u_ws RX6 TX6 7, w ∈ wsX6_init := fun w h => List.mem_cons_of_mem _ (List.mem_append_right _ h)
  refine j_lvq (lv2 := [(0, .ref o)]) rfl ?_
  refine j_aload_n C 0 dX6_init_0 rfl rfl ?_
  refine j_objInit C (by decide +kernel) (by decide +kernel) (oI_X6) ⟨(Nat.le_of_ble_eq_true rfl), (Nat.le_of_ble_eq_true rfl)⟩ (Nat.le_of_ble_eq_true rfl) dX6_init_1 ?_
  refine j_aload_n C 0 dX6_init_4 rfl rfl ?_
  refine je_all C nst_X6_9 dX6_init_5 ?_
  refine je_len C dX6_init_8 ?_
  refine j_newi C 6 (by decide +kernel) rfl (by decide) ⟨(Nat.le_of_ble_eq_true rfl), (Nat.le_of_ble_eq_true rfl)⟩ dX6_init_9 (fun q1 => ?_)
  refine j_ws (ws2 := [(o, .inr (4, [.null, .null, .int 0, .int 0, .null, .int 0, .int 0])), (q1, .inl (d.2 1, 6, .inl (fun _ => 0)))]) rfl ?_
  refine j_widen (k1 := 1) (n1 := 6) (Nat.le_of_ble_eq_true rfl) (Nat.le_of_ble_eq_true rfl) ?_
  refine j_putF C hNm hinX6 tyX6_ok nmX6 0 0 rfl rfl (by decide) (by decide +kernel) rfl rfl (ty := (.array .int)) rfl rfl rfl (by decide : 0 < 7) (ws2 := [(o, .inr (4, [.ref q1, .null, .int 0, .int 0, .null, .int 0, .int 0])), (q1, .inl (d.2 1, 6, .inl (fun _ => 0)))]) rfl dX6_init_11 ?_
  refine j_aload_n C 0 dX6_init_14 rfl rfl ?_
  refine je_all C nst_X6_9 dX6_init_15 ?_
  refine je_len C dX6_init_18 ?_
  refine j_newi C 6 (by decide +kernel) rfl (by decide) ⟨(Nat.le_of_ble_eq_true rfl), (Nat.le_of_ble_eq_true rfl)⟩ dX6_init_19 (fun q2 => ?_)
  refine j_ws (ws2 := [(o, .inr (4, [.ref q1, .null, .int 0, .int 0, .null, .int 0, .int 0])), (q1, .inl (d.2 1, 6, .inl (fun _ => 0))), (q2, .inl (d.2 1, 6, .inl (fun _ => 0)))]) rfl ?_
  refine j_widen (k1 := 2) (n1 := 12) (Nat.le_of_ble_eq_true rfl) (Nat.le_of_ble_eq_true rfl) ?_
  refine j_putF C hNm hinX6 tyX6_ok nmX6 0 1 rfl rfl (by decide) (by decide +kernel) rfl rfl (ty := (.array .int)) rfl rfl rfl (by decide : 1 < 7) (ws2 := [(o, .inr (4, [.ref q1, .ref q2, .int 0, .int 0, .null, .int 0, .int 0])), (q1, .inl (d.2 1, 6, .inl (fun _ => 0))), (q2, .inl (d.2 1, 6, .inl (fun _ => 0)))]) rfl dX6_init_21 ?_
  refine je_all C nst_X6_9 dX6_init_24 ?_
  refine j_astore_n C [(0, .ref o), (1, .ref al)] [1, 0] dX6_init_27 rfl (by decide) rfl ?_
  refine j_aload_n C 1 dX6_init_28 rfl rfl ?_
  refine je_len C dX6_init_29 ?_
  refine j_istore_n C [(0, .ref o), (1, .ref al), (2, .int 6)] [1, 2, 0] dX6_init_30 rfl (by decide) rfl ?_
  refine j_iconst C 0 dX6_init_31 (by decide) ?_
  refine j_istore_n C [(0, .ref o), (1, .ref al), (2, .int 6), (3, .int 0)] [1, 2, 3, 0] dX6_init_32 rfl (by decide) rfl ?_
  have loop : ∀ fz i : Nat, i ≤ 6 → 6 - i < fz → jJ X l d A 5 2 12 ([(o, .inr (4, [.ref q1, .ref q2, .int 0, .int 0, .null, .int 0, .int 0])), (q1, .inl (d.2 1, 6, .inl (unK i))), (q2, .inl (d.2 1, 6, .inl (fun _ => 0)))]) [(0, .ref o), (1, .ref al), (2, .int 6), (3, .int (nI i))] 33 [] := by
    intro fz
    induction fz with
    | zero => intro i _ h; exact absurd h (Nat.not_lt_zero _)
    | succ fz ih =>
      intro i hi hfz
      refine j_iload_n C 3 dX6_init_33 rfl rfl ?_
      refine j_iload_n C 2 dX6_init_34 rfl rfl ?_
      refine j_icmp_ge C 64 dX6_init_35 (by decide) (fun c35 => ?_) (fun c35 => ?_)
      · have c35 := (nI_leI (a := 6) (b := i) (by omega) (by omega)).mp c35
        obtain rfl : i = 6 := by omega
        exact j_vret C hQ dX6_init_64 (⟨q1, q2, rfl⟩)
      · have c35 : ¬ (6 ≤ i) := fun h => c35 ((nI_leI (a := 6) (b := i) (by omega) (by omega)).mpr h)
        refine j_aload_n C 1 dX6_init_38 rfl rfl ?_
        refine j_iload_n C 3 dX6_init_39 rfl rfl ?_
        refine je_ald C i (by omega) dX6_init_40 ?_
        refine j_astore C [(0, .ref o), (1, .ref al), (2, .int 6), (3, .int (nI i)), (4, .ref (ad i))] [1, 2, 3, 4, 0] dX6_init_41 (by decide) rfl ?_
        refine j_aload_n C 0 dX6_init_43 rfl rfl ?_
        refine j_get C hinX6 0 0 rfl rfl (by decide) (by decide +kernel) rfl dX6_init_44 ?_
        refine j_aload C 4 dX6_init_47 rfl ?_
        refine je_get C i 0 (by omega) rfl nst_X6_24 dX6_init_49 ?_
        refine j_st (st2 := [.int (nI i), .ref q1]) (congrArg (fun z => Value.int z :: _) (numR (by omega))) ?_
        refine j_aload C 4 dX6_init_52 rfl ?_
        refine je_get C i 3 (by omega) rfl nst_X6_28 dX6_init_54 ?_
        refine j_iast C 1 i rfl rfl (by omega) (by decide) (ws2 := [(o, .inr (4, [.ref q1, .ref q2, .int 0, .int 0, .null, .int 0, .int 0])), (q1, .inl (d.2 1, 6, .inl (upd (unK i) i (unR i)))), (q2, .inl (d.2 1, 6, .inl (fun _ => 0)))]) rfl dX6_init_57 ?_
        refine j_iinc C (nI (i + 1)) [(0, .ref o), (1, .ref al), (2, .int 6), (3, .int (nI (i + 1))), (4, .ref (ad i))] 3 [1, 2, 3, 0, 4] dX6_init_58 rfl (nI_1 i) (by decide) rfl ?_
        refine j_goto C 33 dX6_init_61 (by decide) ?_
        refine j_lv (lv' := [(0, .ref o), (1, .ref al), (2, .int 6), (3, .int (nI (i + 1)))]) [0, 1, 2, 3] rfl ?_
        exact ih (i + 1) (by omega) (by omega)
  exact loop _ 0 (Nat.zero_le _) (Nat.lt_succ_self _)


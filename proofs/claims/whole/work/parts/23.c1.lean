set_option maxHeartbeats 4000000 in
set_option maxRecDepth 100000 in
theorem cc_X9_isWithin (Ef : jE) (hk : jKp Ef) (l : Launch) (d : jD) (ws : va_W) (v x y : Int32) : jMi Ef d l yX9_isWithin wsX9_isWithin ({ frames := 0, cells := 0, slots := 0, locals := 0 } : Room) 0 0 [.int v, .int x, .int y] ws (fun r u => r = bI (x ≤ v ∧ v ≤ y) ∧ u = ws) := by
  refine jMi.mk hk (by decide) rfl (Nat.le_of_ble_eq_true rfl) (fun X A C hQ => ?_)
  refine j_lvq (lv2 := [(0, .int v), (1, .int x), (2, .int y)]) rfl ?_
  refine j_iload_n C 0 dX9_isWithin_0 rfl rfl ?_
  refine j_iload_n C 1 dX9_isWithin_1 rfl rfl ?_
  refine j_icmp_lt C 14 dX9_isWithin_2 (by decide) (fun c2 => ?_) (fun c2 => ?_)
  · refine j_iconst C 0 dX9_isWithin_14 (by decide) ?_
    exact j_zret C hQ rfl dX9_isWithin_15 (⟨bI_f (fun h => absurd h.1 (i_nle.mpr c2)), rfl⟩)
  · refine j_iload_n C 0 dX9_isWithin_5 rfl rfl ?_
    refine j_iload_n C 2 dX9_isWithin_6 rfl rfl ?_
    refine j_icmp_gt C 14 dX9_isWithin_7 (by decide) (fun c7 => ?_) (fun c7 => ?_)
    · refine j_iconst C 0 dX9_isWithin_14 (by decide) ?_
      exact j_zret C hQ rfl dX9_isWithin_15 (⟨bI_f (fun h => absurd h.2 (i_nle.mpr c7)), rfl⟩)
    · refine j_iconst C 1 dX9_isWithin_10 (by decide) ?_
      refine j_goto C 15 dX9_isWithin_11 (by decide) ?_
      exact j_zret C hQ rfl dX9_isWithin_15 (⟨bI_t ⟨i_nlt.mp c2, i_nlt.mp c7⟩, rfl⟩)

def dvU (x y : Int32) : Int32 := if y ≤ 0 then 0 else (x + y - 1) / y

set_option maxHeartbeats 4000000 in
set_option maxRecDepth 100000 in
theorem cc_X9_dividedUp (Ef : jE) (hk : jKp Ef) (l : Launch) (d : jD) (ws : va_W) (x y : Int32) : jMi Ef d l yX9_dividedUp wsX9_dividedUp ({ frames := 0, cells := 0, slots := 0, locals := 0 } : Room) 0 0 [.int x, .int y] ws (fun r u => r = dvU x y ∧ u = ws) := by
  refine jMi.mk hk (by decide) rfl (Nat.le_of_ble_eq_true rfl) (fun X A C hQ => ?_)
  refine j_lvq (lv2 := [(0, .int x), (1, .int y)]) rfl ?_
  refine j_iload_n C 1 dX9_dividedUp_0 rfl rfl ?_
  refine j_if_le C 14 dX9_dividedUp_1 (by decide) (fun c1 => ?_) (fun c1 => ?_)
  · refine j_iconst C 0 dX9_dividedUp_14 (by decide) ?_
    exact j_iret C hQ dX9_dividedUp_15 (⟨by rw [dvU, if_pos c1], rfl⟩)
  · refine j_iload_n C 0 dX9_dividedUp_4 rfl rfl ?_
    refine j_iload_n C 1 dX9_dividedUp_5 rfl rfl ?_
    refine j_iadd C dX9_dividedUp_6 ?_
    refine j_iconst C 1 dX9_dividedUp_7 (by decide) ?_
    refine j_isub C dX9_dividedUp_8 ?_
    refine j_iload_n C 1 dX9_dividedUp_9 rfl rfl ?_
    refine j_idiv C dX9_dividedUp_10 (fun h => c1 (by rw [h]; decide)) ?_
    refine j_goto C 15 dX9_dividedUp_11 (by decide) ?_
    exact j_iret C hQ dX9_dividedUp_15 (⟨by rw [dvU, if_neg c1], rfl⟩)

set_option maxHeartbeats 4000000 in
set_option maxRecDepth 100000 in
theorem cc_X9_workAt (l : Launch) (d : jD) (ad adK adV : Nat → Nat) (al : Nat) (a : Nat → Nat → Nat) (n : Nat → Nat) (op : Option Nat) (c : Nat → Nat → Nat → Int32) (hn : nOK n) (x : Int32) : jMq (cEf ad adK adV al) d l yX9_workAt wsX9_workAt ({ frames := 0, cells := 0, slots := 0, locals := 0 } : Room) 0 0 [.ref (a 0 0), .int x] (cW a d n op ad c) (fun r u => r = oW a n x ∧ u = cW a d n op ad c) := by
  refine jMq.mk (cEf_k ad adK adV al) (by decide) rfl (Nat.le_of_ble_eq_true rfl) (fun X A C hQ => ?_)
  have hinX9 : ∀ w ∈ u_ws RX9 TX9 11, w ∈ wsX9_workAt := fun w h => List.mem_cons_of_mem _ (List.mem_append_right _ h)
  obtain ⟨hn0, hn1, hn2⟩ := id hn
  refine j_lvq (lv2 := [(0, .ref (a 0 0)), (1, .int x)]) rfl ?_
  refine j_iload_n C 1 dX9_workAt_0 rfl rfl ?_
  refine j_if_lt C 30 dX9_workAt_1 (by decide) (fun c1 => ?_) (fun c1 => ?_)
  · refine j_null C dX9_workAt_30 ?_
    exact j_aret (r := none) C hQ dX9_workAt_31 ⟨(if_neg (fun h => i_nlt.mpr h.1 c1)).symm, rfl⟩
  · refine j_iload_n C 1 dX9_workAt_4 rfl rfl ?_
    refine j_aload_n C 0 dX9_workAt_5 rfl rfl ?_
    refine kg_0_workCount C hinX9 (by decide +kernel) dX9_workAt_6 ?_
    refine j_icmp_ge C 30 dX9_workAt_9 (by decide) (fun c9 => ?_) (fun c9 => ?_)
    · refine j_null C dX9_workAt_30 ?_
      exact j_aret (r := none) C hQ dX9_workAt_31 ⟨(if_neg (fun h => i_nlt.mpr c9 h.2)).symm, rfl⟩
    · have hk : kW n x := ⟨i_nlt.mp c1, i_nle.mp c9⟩
      obtain ⟨j, hj, rfl⟩ := kW_nI hn hk
      refine j_iload_n C 1 dX9_workAt_12 rfl rfl ?_
      refine j_aload_n C 0 dX9_workAt_13 rfl rfl ?_
      refine kg_0_works C hinX9 (by decide +kernel) dX9_workAt_14 ?_
      refine kn_6 C dX9_workAt_17 ?_
      refine j_icmp_ge C 30 dX9_workAt_18 (by decide) (fun c18 => absurd c18 (fun h => by have := (nI_leI (a := 10) (b := j) (by omega) (by omega)).mp h; omega)) (fun c18 => ?_)
      refine j_aload_n C 0 dX9_workAt_21 rfl rfl ?_
      refine kg_0_works C hinX9 (by decide +kernel) dX9_workAt_22 ?_
      refine j_iload_n C 1 dX9_workAt_25 rfl rfl ?_
      refine kq_6 C j rfl (by omega) (by omega) dX9_workAt_26 ?_
      refine j_goto C 31 dX9_workAt_27 (by decide) ?_
      exact j_aret (r := some (a 13 j)) C hQ dX9_workAt_31 ⟨(oW_j hn hj).symm, rfl⟩

set_option maxHeartbeats 4000000 in
set_option maxRecDepth 100000 in
theorem cc_X9_personAt (l : Launch) (d : jD) (ad adK adV : Nat → Nat) (al : Nat) (a : Nat → Nat → Nat) (n : Nat → Nat) (op : Option Nat) (c : Nat → Nat → Nat → Int32) (hn : nOK n) (x : Int32) : jMq (cEf ad adK adV al) d l yX9_personAt wsX9_personAt ({ frames := 0, cells := 0, slots := 0, locals := 0 } : Room) 0 0 [.ref (a 0 0), .int x] (cW a d n op ad c) (fun r u => r = oP a n x ∧ u = cW a d n op ad c) := by
  refine jMq.mk (cEf_k ad adK adV al) (by decide) rfl (Nat.le_of_ble_eq_true rfl) (fun X A C hQ => ?_)
  have hinX9 : ∀ w ∈ u_ws RX9 TX9 11, w ∈ wsX9_personAt := fun w h => List.mem_cons_of_mem _ (List.mem_append_right _ h)
  obtain ⟨hn0, hn1, hn2⟩ := id hn
  refine j_lvq (lv2 := [(0, .ref (a 0 0)), (1, .int x)]) rfl ?_
  refine j_iload_n C 1 dX9_personAt_0 rfl rfl ?_
  refine j_if_lt C 30 dX9_personAt_1 (by decide) (fun c1 => ?_) (fun c1 => ?_)
  · refine j_null C dX9_personAt_30 ?_
    exact j_aret (r := none) C hQ dX9_personAt_31 ⟨(if_neg (fun h => i_nlt.mpr h.1 c1)).symm, rfl⟩
  · refine j_iload_n C 1 dX9_personAt_4 rfl rfl ?_
    refine j_aload_n C 0 dX9_personAt_5 rfl rfl ?_
    refine kg_0_peopleCount C hinX9 (by decide +kernel) dX9_personAt_6 ?_
    refine j_icmp_ge C 30 dX9_personAt_9 (by decide) (fun c9 => ?_) (fun c9 => ?_)
    · refine j_null C dX9_personAt_30 ?_
      exact j_aret (r := none) C hQ dX9_personAt_31 ⟨(if_neg (fun h => i_nlt.mpr c9 h.2)).symm, rfl⟩
    · have hk : kP n x := ⟨i_nlt.mp c1, i_nle.mp c9⟩
      obtain ⟨j, hj, rfl⟩ := kP_nI hn hk
      refine j_iload_n C 1 dX9_personAt_12 rfl rfl ?_
      refine j_aload_n C 0 dX9_personAt_13 rfl rfl ?_
      refine kg_0_people C hinX9 (by decide +kernel) dX9_personAt_14 ?_
      refine kn_7 C dX9_personAt_17 ?_
      refine j_icmp_ge C 30 dX9_personAt_18 (by decide) (fun c18 => absurd c18 (fun h => by have := (nI_leI (a := 24) (b := j) (by omega) (by omega)).mp h; omega)) (fun c18 => ?_)
      refine j_aload_n C 0 dX9_personAt_21 rfl rfl ?_
      refine kg_0_people C hinX9 (by decide +kernel) dX9_personAt_22 ?_
      refine j_iload_n C 1 dX9_personAt_25 rfl rfl ?_
      refine kq_7 C j rfl (by omega) (by omega) dX9_personAt_26 ?_
      refine j_goto C 31 dX9_personAt_27 (by decide) ?_
      exact j_aret (r := some (a 18 j)) C hQ dX9_personAt_31 ⟨(oP_j hn hj).symm, rfl⟩

set_option maxHeartbeats 4000000 in
set_option maxRecDepth 100000 in
theorem cc_X9_fundAt (l : Launch) (d : jD) (ad adK adV : Nat → Nat) (al : Nat) (a : Nat → Nat → Nat) (n : Nat → Nat) (op : Option Nat) (c : Nat → Nat → Nat → Int32) (hn : nOK n) (x : Int32) : jMq (cEf ad adK adV al) d l yX9_fundAt wsX9_fundAt ({ frames := 1, cells := 0, slots := 0, locals := 22 } : Room) 0 0 [.ref (a 0 0), .int x] (cW a d n op ad c) (fun r u => r = oF a n x ∧ u = cW a d n op ad c) := by
  refine jMq.mk (cEf_k ad adK adV al) (by decide) rfl (Nat.le_of_ble_eq_true rfl) (fun X A C hQ => ?_)
  have hinX9 : ∀ w ∈ u_ws RX9 TX9 11, w ∈ wsX9_fundAt := fun w h => List.mem_cons_of_mem _ (List.mem_append_right _ h)
  obtain ⟨hn0, hn1, hn2⟩ := id hn
  refine j_lvq (lv2 := [(0, .ref (a 0 0)), (1, .int x)]) rfl ?_
  refine j_iload_n C 1 dX9_fundAt_0 rfl rfl ?_
  refine j_bipush C 24 dX9_fundAt_1 (by decide) ?_
  refine j_bipush C 27 dX9_fundAt_3 (by decide) ?_
  refine j_callS_i C 3 (cc_X9_isWithin (cEf ad adK adV al) (cEf_k ad adK adV al) l d _ x 24 27) gX9_fundAt_X9_isWithin rfl rfl rfl (by decide +kernel) ⟨(Nat.le_of_ble_eq_true rfl), (Nat.le_of_ble_eq_true rfl)⟩ ⟨(Nat.le_of_ble_eq_true rfl), (Nat.le_of_ble_eq_true rfl)⟩ rfl rfl (Nat.le_of_ble_eq_true rfl) dX9_fundAt_5 (fun r5 u5 h5 => ?_)
  obtain ⟨rfl, rfl⟩ := h5
  refine j_if_ne C 13 dX9_fundAt_8 (by decide) (fun c8 => ?_) (fun c8 => ?_)
  · have hkk : 24 ≤ x ∧ x ≤ 27 := bI_n0.mp c8
    obtain ⟨j, hj, rfl⟩ : ∃ j : Nat, j < 4 ∧ x = nI (24 + j) := by
      obtain ⟨i, hi, rfl⟩ := nI_of (x := x) (i_nlt.mpr (Int32.le_trans (by decide) hkk.1))
      have h1 := (nI_leI (a := 24) (b := i) (by omega) hi).mp hkk.1
      have h2 := (nI_leI (a := i) (b := 27) hi (by omega)).mp hkk.2
      exact ⟨i - 24, by omega, by rw [show 24 + (i - 24) = i by omega]⟩
    refine j_iload_n C 1 dX9_fundAt_13 rfl rfl ?_
    refine j_bipush C 24 dX9_fundAt_14 (by decide) ?_
    refine j_isubN C (24 + j) 24 (by omega) dX9_fundAt_16 ?_
    refine j_istore_n C [(0, .ref (a 0 0)), (1, .int (nI (24 + j))), (2, .int (nI (24 + j - 24)))] [1, 2, 0] dX9_fundAt_17 rfl (by decide) rfl ?_
    refine j_lvq (lv2 := [(0, .ref (a 0 0)), (1, .int (nI (24 + j))), (2, .int (nI j))]) (by rw [Nat.add_sub_cancel_left]) ?_
    refine j_iload_n C 2 dX9_fundAt_18 rfl rfl ?_
    refine j_aload_n C 0 dX9_fundAt_19 rfl rfl ?_
    refine kg_0_fundCount C hinX9 (by decide +kernel) dX9_fundAt_20 ?_
    refine j_icmp_ge C 44 dX9_fundAt_23 (by decide) (fun c23 => ?_) (fun c23 => ?_)
    · have c23 := (nI_leI (a := n 2) (b := j) (by omega) (by omega)).mp c23
      refine j_null C dX9_fundAt_44 ?_
      exact j_aret (r := none) C hQ dX9_fundAt_45 ⟨(if_neg (fun h => by have h2 := (nI_ltI (a := 24 + j) (b := 24 + n 2) (by omega) (by omega)).mp h.2; omega)).symm, rfl⟩
    · have c23 : ¬ ((n 2) ≤ j) := fun h => c23 ((nI_leI (a := n 2) (b := j) (by omega) (by omega)).mpr h)
      refine j_iload_n C 2 dX9_fundAt_26 rfl rfl ?_
      refine j_aload_n C 0 dX9_fundAt_27 rfl rfl ?_
      refine kg_0_funds C hinX9 (by decide +kernel) dX9_fundAt_28 ?_
      refine kn_8 C dX9_fundAt_31 ?_
      refine j_icmp_ge C 44 dX9_fundAt_32 (by decide) (fun c32 => absurd c32 (fun h => by have := (nI_leI (a := 4) (b := j) (by omega) (by omega)).mp h; omega)) (fun c32 => ?_)
      refine j_aload_n C 0 dX9_fundAt_35 rfl rfl ?_
      refine kg_0_funds C hinX9 (by decide +kernel) dX9_fundAt_36 ?_
      refine j_iload_n C 2 dX9_fundAt_39 rfl rfl ?_
      refine kq_8 C j rfl (by omega) (by omega) dX9_fundAt_40 ?_
      refine j_goto C 45 dX9_fundAt_41 (by decide) ?_
      exact j_aret (r := some (a 19 j)) C hQ dX9_fundAt_45 ⟨(oF_j hn (by omega)).symm, rfl⟩
  · refine j_null C dX9_fundAt_11 ?_
    exact j_aret (r := none) C hQ dX9_fundAt_12 ⟨(if_neg (fun h => bI_0.mp c8 ⟨h.1, by obtain ⟨j, hj, rfl⟩ := kF_nI hn h; exact (nI_leI (a := 24 + j) (b := 27) (by omega) (by omega)).mpr (by omega)⟩)).symm, rfl⟩

set_option maxHeartbeats 4000000 in
set_option maxRecDepth 100000 in
theorem cc_X9_bidderAt (l : Launch) (d : jD) (ad adK adV : Nat → Nat) (al : Nat) (a : Nat → Nat → Nat) (n : Nat → Nat) (op : Option Nat) (c : Nat → Nat → Nat → Int32) (hn : nOK n) (x : Int32) : jMq (cEf ad adK adV al) d l yX9_bidderAt wsX9_bidderAt ({ frames := 2, cells := 0, slots := 0, locals := 44 } : Room) 0 0 [.ref (a 0 0), .int x] (cW a d n op ad c) (fun r u => r = oB a n x ∧ u = cW a d n op ad c) := by
  refine jMq.mk (cEf_k ad adK adV al) (by decide) rfl (Nat.le_of_ble_eq_true rfl) (fun X A C hQ => ?_)
  obtain ⟨hn0, hn1, hn2⟩ := id hn
  refine j_lvq (lv2 := [(0, .ref (a 0 0)), (1, .int x)]) rfl ?_
  refine j_aload_n C 0 dX9_bidderAt_0 rfl rfl ?_
  refine j_iload_n C 1 dX9_bidderAt_1 rfl rfl ?_
  refine j_callV_q C 1 0 (cc_X9_personAt l d ad adK adV al a n op c hn x) cG_0 rfl gX9_bidderAt_X9_personAt rfl rfl rfl (by decide +kernel) ⟨(Nat.le_of_ble_eq_true rfl), (Nat.le_of_ble_eq_true rfl)⟩ ⟨(Nat.le_of_ble_eq_true rfl), (Nat.le_of_ble_eq_true rfl)⟩ rfl rfl (Nat.le_of_ble_eq_true rfl) dX9_bidderAt_2 (fun r2 u2 h2 => ?_)
  obtain ⟨rfl, rfl⟩ := h2
  by_cases hkp : kP n x
  · refine j_st (st2 := [.ref (a 18 (tn x))]) (congrArg (fun z => va_rf z :: _) (if_pos hkp)) ?_
    refine j_astore_n C [(0, .ref (a 0 0)), (1, .int x), (2, .ref (a 18 (tn x)))] [1, 2, 0] dX9_bidderAt_5 rfl (by decide) rfl ?_
    refine j_aload_n C 2 dX9_bidderAt_6 rfl rfl ?_
    refine j_ifnull C dX9_bidderAt_7 ?_
    refine j_aload_n C 2 dX9_bidderAt_10 rfl rfl ?_
    exact j_aret (r := some (a 18 (tn x))) C hQ dX9_bidderAt_11 ⟨(if_pos hkp).symm, rfl⟩
  · refine j_st (st2 := [.null]) (congrArg (fun z => va_rf z :: _) (if_neg hkp)) ?_
    refine j_astore_nN C [(0, .ref (a 0 0)), (1, .int x), (2, .null)] [1, 2, 0] dX9_bidderAt_5 rfl (by decide) rfl ?_
    refine j_aload_nN C 2 dX9_bidderAt_6 rfl rfl ?_
    refine j_ifnullN C 12 dX9_bidderAt_7 (by decide) ?_
    refine j_aload_n C 0 dX9_bidderAt_12 rfl rfl ?_
    refine j_iload_n C 1 dX9_bidderAt_13 rfl rfl ?_
    refine j_callV_q C 1 0 (cc_X9_fundAt l d ad adK adV al a n op c hn x) cG_0 rfl gX9_bidderAt_X9_fundAt rfl rfl rfl (by decide +kernel) ⟨(Nat.le_of_ble_eq_true rfl), (Nat.le_of_ble_eq_true rfl)⟩ ⟨(Nat.le_of_ble_eq_true rfl), (Nat.le_of_ble_eq_true rfl)⟩ rfl rfl (Nat.le_of_ble_eq_true rfl) dX9_bidderAt_14 (fun r14 u14 h14 => ?_)
    obtain ⟨rfl, rfl⟩ := h14
    exact j_aret (r := oF a n x) C hQ dX9_bidderAt_17 ⟨(if_neg hkp).symm, rfl⟩

def cCost (c : Nat → Nat → Nat → Int32) (b : Nat) : Nat → Int32
  | 0 => 0
  | k + 1 => cCost c b k + c 14 k b * c 13 k 3

set_option maxHeartbeats 4000000 in
set_option maxRecDepth 100000 in
theorem cc_X9_costOfBids (l : Launch) (d : jD) (ad adK adV : Nat → Nat) (al : Nat) (a : Nat → Nat → Nat) (n : Nat → Nat) (op : Option Nat) (c : Nat → Nat → Nat → Int32) (hn : nOK n) (b : Nat) (hb : b < 28) : jMi (cEf ad adK adV al) d l yX9_costOfBids wsX9_costOfBids ({ frames := 1, cells := 0, slots := 0, locals := 21 } : Room) 0 0 [.ref (a 0 0), .int (nI b)] (cW a d n op ad c) (fun r u => r = cCost c b (n 0) ∧ u = cW a d n op ad c) := by
  refine jMi.mk (cEf_k ad adK adV al) (by decide) rfl (Nat.le_of_ble_eq_true rfl) (fun X A C hQ => ?_)
  have hinX8 : ∀ w ∈ u_ws RX8 TX8 8, w ∈ wsX9_costOfBids := fun w h => List.mem_cons_of_mem _ (List.mem_append_right _ h)
  have hinX9 : ∀ w ∈ u_ws RX9 TX9 11, w ∈ wsX9_costOfBids := fun w h => List.mem_cons_of_mem _ (List.mem_append_left _ (List.mem_append_right _ h))
  obtain ⟨hn0, hn1, hn2⟩ := id hn
  refine j_lvq (lv2 := [(0, .ref (a 0 0)), (1, .int (nI b))]) rfl ?_
  have loop : ∀ fz i : Nat, i ≤ n 0 → n 0 - i < fz → jJ X l d A 5 0 0 (cW a d n op ad c) [(0, .ref (a 0 0)), (1, .int (nI b)), (2, .int (cCost c b i)), (3, .int (nI i))] 4 [] := by
    intro fz
    induction fz with
    | zero => intro i _ h; exact absurd h (Nat.not_lt_zero _)
    | succ fz ih =>
      intro i hi hfz
      refine j_iload_n C 3 dX9_costOfBids_4 rfl rfl ?_
      refine j_aload_n C 0 dX9_costOfBids_5 rfl rfl ?_
      refine kg_0_workCount C hinX9 (by decide +kernel) dX9_costOfBids_6 ?_
      refine j_icmp_ge C 50 dX9_costOfBids_9 (by decide) (fun c9 => ?_) (fun c9 => ?_)
      · have c9 := (nI_leI (a := n 0) (b := i) (by omega) (by omega)).mp c9
        have hi0 : i = n 0 := by omega
        subst hi0
        refine j_iload_n C 2 dX9_costOfBids_50 rfl rfl ?_
        exact j_iret C hQ dX9_costOfBids_51 (⟨rfl, rfl⟩)
      · have c9 : ¬ ((n 0) ≤ i) := fun h => c9 ((nI_leI (a := n 0) (b := i) (by omega) (by omega)).mpr h)
        refine j_aload_n C 0 dX9_costOfBids_12 rfl rfl ?_
        refine j_iload_n C 3 dX9_costOfBids_13 rfl rfl ?_
        refine j_callV_q C 1 0 (cc_X9_workAt l d ad adK adV al a n op c hn (nI i)) cG_0 rfl gX9_costOfBids_X9_workAt rfl rfl rfl (by decide +kernel) ⟨(Nat.le_of_ble_eq_true rfl), (Nat.le_of_ble_eq_true rfl)⟩ ⟨(Nat.le_of_ble_eq_true rfl), (Nat.le_of_ble_eq_true rfl)⟩ rfl rfl (Nat.le_of_ble_eq_true rfl) dX9_costOfBids_14 (fun r14 u14 h14 => ?_)
        obtain ⟨rfl, rfl⟩ := h14
        refine j_st (st2 := [.ref (a 13 i)]) (congrArg (fun z => va_rf z :: _) (oW_j hn (by omega))) ?_
        refine j_astore C [(0, .ref (a 0 0)), (1, .int (nI b)), (2, .int (cCost c b i)), (3, .int (nI i)), (4, .ref (a 13 i))] [1, 2, 3, 4, 0] dX9_costOfBids_17 (by decide) rfl ?_
        refine j_iload_n C 2 dX9_costOfBids_19 rfl rfl ?_
        refine j_aload C 4 dX9_costOfBids_20 rfl ?_
        refine j_ifnonnull C 29 dX9_costOfBids_22 (by decide) ?_
        refine j_aload C 4 dX9_costOfBids_29 rfl ?_
        refine kgN_13_asked C hinX8 (by omega) nst_X9_126 dX9_costOfBids_31 ?_
        refine j_iload_n C 1 dX9_costOfBids_34 rfl rfl ?_
        refine kl_14 C (by omega) b rfl (by omega) dX9_costOfBids_35 ?_
        refine j_aload C 4 dX9_costOfBids_36 rfl ?_
        refine kgN_13_priceNow C hinX8 (by omega) nst_X9_129 dX9_costOfBids_38 ?_
        refine j_imul C dX9_costOfBids_41 ?_
        refine j_iadd C dX9_costOfBids_42 ?_
        refine j_istore_n C [(0, .ref (a 0 0)), (1, .int (nI b)), (2, .int ((cCost c b i) + ((c 14 i b) * (c 13 i 3)))), (3, .int (nI i)), (4, .ref (a 13 i))] [1, 2, 0, 3, 4] dX9_costOfBids_43 rfl (by decide) rfl ?_
        refine j_iinc C (nI (i + 1)) [(0, .ref (a 0 0)), (1, .int (nI b)), (2, .int ((cCost c b i) + ((c 14 i b) * (c 13 i 3)))), (3, .int (nI (i + 1))), (4, .ref (a 13 i))] 3 [1, 2, 3, 0, 4] dX9_costOfBids_44 rfl (nI_1 i) (by decide) rfl ?_
        refine j_goto C 4 dX9_costOfBids_47 (by decide) ?_
        refine j_lv (lv' := [(0, .ref (a 0 0)), (1, .int (nI b)), (2, .int ((cCost c b i) + ((c 14 i b) * (c 13 i 3)))), (3, .int (nI (i + 1)))]) [0, 1, 2, 3] rfl ?_
        exact ih (i + 1) (by omega) (by omega)
  refine j_iconst C 0 dX9_costOfBids_0 (by decide) ?_
  refine j_istore_n C [(0, .ref (a 0 0)), (1, .int (nI b)), (2, .int 0)] [1, 2, 0] dX9_costOfBids_1 rfl (by decide) rfl ?_
  refine j_iconst C 0 dX9_costOfBids_2 (by decide) ?_
  refine j_istore_n C [(0, .ref (a 0 0)), (1, .int (nI b)), (2, .int 0), (3, .int 0)] [1, 2, 3, 0] dX9_costOfBids_3 rfl (by decide) rfl ?_
  exact loop _ 0 (Nat.zero_le _) (Nat.lt_succ_self _)

def cHeldS (c : Nat → Nat → Nat → Int32) (b : Nat) : Nat → Int32
  | 0 => 0
  | k + 1 => cHeldS c b k + c 15 k b

set_option maxHeartbeats 4000000 in
set_option maxRecDepth 100000 in
theorem cc_X9_sharesHeldBy (l : Launch) (d : jD) (ad adK adV : Nat → Nat) (al : Nat) (a : Nat → Nat → Nat) (n : Nat → Nat) (op : Option Nat) (c : Nat → Nat → Nat → Int32) (hn : nOK n) (b : Nat) (hb : b < 28) : jMi (cEf ad adK adV al) d l yX9_sharesHeldBy wsX9_sharesHeldBy ({ frames := 1, cells := 0, slots := 0, locals := 21 } : Room) 0 0 [.ref (a 0 0), .int (nI b)] (cW a d n op ad c) (fun r u => r = cHeldS c b (n 0) ∧ u = cW a d n op ad c) := by
  refine jMi.mk (cEf_k ad adK adV al) (by decide) rfl (Nat.le_of_ble_eq_true rfl) (fun X A C hQ => ?_)
  have hinX8 : ∀ w ∈ u_ws RX8 TX8 8, w ∈ wsX9_sharesHeldBy := fun w h => List.mem_cons_of_mem _ (List.mem_append_right _ h)
  have hinX9 : ∀ w ∈ u_ws RX9 TX9 11, w ∈ wsX9_sharesHeldBy := fun w h => List.mem_cons_of_mem _ (List.mem_append_left _ (List.mem_append_right _ h))
  obtain ⟨hn0, hn1, hn2⟩ := id hn
  refine j_lvq (lv2 := [(0, .ref (a 0 0)), (1, .int (nI b))]) rfl ?_
  have loop : ∀ fz i : Nat, i ≤ n 0 → n 0 - i < fz → jJ X l d A 5 0 0 (cW a d n op ad c) [(0, .ref (a 0 0)), (1, .int (nI b)), (2, .int (cHeldS c b i)), (3, .int (nI i))] 4 [] := by
    intro fz
    induction fz with
    | zero => intro i _ h; exact absurd h (Nat.not_lt_zero _)
    | succ fz ih =>
      intro i hi hfz
      refine j_iload_n C 3 dX9_sharesHeldBy_4 rfl rfl ?_
      refine j_aload_n C 0 dX9_sharesHeldBy_5 rfl rfl ?_
      refine kg_0_workCount C hinX9 (by decide +kernel) dX9_sharesHeldBy_6 ?_
      refine j_icmp_ge C 44 dX9_sharesHeldBy_9 (by decide) (fun c9 => ?_) (fun c9 => ?_)
      · have c9 := (nI_leI (a := n 0) (b := i) (by omega) (by omega)).mp c9
        have hi0 : i = n 0 := by omega
        subst hi0
        refine j_iload_n C 2 dX9_sharesHeldBy_44 rfl rfl ?_
        exact j_iret C hQ dX9_sharesHeldBy_45 (⟨rfl, rfl⟩)
      · have c9 : ¬ ((n 0) ≤ i) := fun h => c9 ((nI_leI (a := n 0) (b := i) (by omega) (by omega)).mpr h)
        refine j_aload_n C 0 dX9_sharesHeldBy_12 rfl rfl ?_
        refine j_iload_n C 3 dX9_sharesHeldBy_13 rfl rfl ?_
        refine j_callV_q C 1 0 (cc_X9_workAt l d ad adK adV al a n op c hn (nI i)) cG_0 rfl gX9_sharesHeldBy_X9_workAt rfl rfl rfl (by decide +kernel) ⟨(Nat.le_of_ble_eq_true rfl), (Nat.le_of_ble_eq_true rfl)⟩ ⟨(Nat.le_of_ble_eq_true rfl), (Nat.le_of_ble_eq_true rfl)⟩ rfl rfl (Nat.le_of_ble_eq_true rfl) dX9_sharesHeldBy_14 (fun r14 u14 h14 => ?_)
        obtain ⟨rfl, rfl⟩ := h14
        refine j_st (st2 := [.ref (a 13 i)]) (congrArg (fun z => va_rf z :: _) (oW_j hn (by omega))) ?_
        refine j_astore C [(0, .ref (a 0 0)), (1, .int (nI b)), (2, .int (cHeldS c b i)), (3, .int (nI i)), (4, .ref (a 13 i))] [1, 2, 3, 4, 0] dX9_sharesHeldBy_17 (by decide) rfl ?_
        refine j_iload_n C 2 dX9_sharesHeldBy_19 rfl rfl ?_
        refine j_aload C 4 dX9_sharesHeldBy_20 rfl ?_
        refine j_ifnonnull C 29 dX9_sharesHeldBy_22 (by decide) ?_
        refine j_aload C 4 dX9_sharesHeldBy_29 rfl ?_
        refine kgN_13_held C hinX8 (by omega) nst_X9_184 dX9_sharesHeldBy_31 ?_
        refine j_iload_n C 1 dX9_sharesHeldBy_34 rfl rfl ?_
        refine kl_15 C (by omega) b rfl (by omega) dX9_sharesHeldBy_35 ?_
        refine j_iadd C dX9_sharesHeldBy_36 ?_
        refine j_istore_n C [(0, .ref (a 0 0)), (1, .int (nI b)), (2, .int ((cHeldS c b i) + (c 15 i b))), (3, .int (nI i)), (4, .ref (a 13 i))] [1, 2, 0, 3, 4] dX9_sharesHeldBy_37 rfl (by decide) rfl ?_
        refine j_iinc C (nI (i + 1)) [(0, .ref (a 0 0)), (1, .int (nI b)), (2, .int ((cHeldS c b i) + (c 15 i b))), (3, .int (nI (i + 1))), (4, .ref (a 13 i))] 3 [1, 2, 3, 0, 4] dX9_sharesHeldBy_38 rfl (nI_1 i) (by decide) rfl ?_
        refine j_goto C 4 dX9_sharesHeldBy_41 (by decide) ?_
        refine j_lv (lv' := [(0, .ref (a 0 0)), (1, .int (nI b)), (2, .int ((cHeldS c b i) + (c 15 i b))), (3, .int (nI (i + 1)))]) [0, 1, 2, 3] rfl ?_
        exact ih (i + 1) (by omega) (by omega)
  refine j_iconst C 0 dX9_sharesHeldBy_0 (by decide) ?_
  refine j_istore_n C [(0, .ref (a 0 0)), (1, .int (nI b)), (2, .int 0)] [1, 2, 0] dX9_sharesHeldBy_1 rfl (by decide) rfl ?_
  refine j_iconst C 0 dX9_sharesHeldBy_2 (by decide) ?_
  refine j_istore_n C [(0, .ref (a 0 0)), (1, .int (nI b)), (2, .int 0), (3, .int 0)] [1, 2, 3, 0] dX9_sharesHeldBy_3 rfl (by decide) rfl ?_
  exact loop _ 0 (Nat.zero_le _) (Nat.lt_succ_self _)

def cWorth (c : Nat → Nat → Nat → Int32) (b : Nat) : Nat → Int32
  | 0 => 0
  | k + 1 => cWorth c b k + c 15 k b * c 13 k 3

set_option maxHeartbeats 4000000 in
set_option maxRecDepth 100000 in
theorem cc_X9_worthHeldBy (l : Launch) (d : jD) (ad adK adV : Nat → Nat) (al : Nat) (a : Nat → Nat → Nat) (n : Nat → Nat) (op : Option Nat) (c : Nat → Nat → Nat → Int32) (hn : nOK n) (b : Nat) (hb : b < 28) : jMi (cEf ad adK adV al) d l yX9_worthHeldBy wsX9_worthHeldBy ({ frames := 1, cells := 0, slots := 0, locals := 21 } : Room) 0 0 [.ref (a 0 0), .int (nI b)] (cW a d n op ad c) (fun r u => r = cWorth c b (n 0) ∧ u = cW a d n op ad c) := by
  refine jMi.mk (cEf_k ad adK adV al) (by decide) rfl (Nat.le_of_ble_eq_true rfl) (fun X A C hQ => ?_)
  have hinX8 : ∀ w ∈ u_ws RX8 TX8 8, w ∈ wsX9_worthHeldBy := fun w h => List.mem_cons_of_mem _ (List.mem_append_right _ h)
  have hinX9 : ∀ w ∈ u_ws RX9 TX9 11, w ∈ wsX9_worthHeldBy := fun w h => List.mem_cons_of_mem _ (List.mem_append_left _ (List.mem_append_right _ h))
  obtain ⟨hn0, hn1, hn2⟩ := id hn
  refine j_lvq (lv2 := [(0, .ref (a 0 0)), (1, .int (nI b))]) rfl ?_
  have loop : ∀ fz i : Nat, i ≤ n 0 → n 0 - i < fz → jJ X l d A 5 0 0 (cW a d n op ad c) [(0, .ref (a 0 0)), (1, .int (nI b)), (2, .int (cWorth c b i)), (3, .int (nI i))] 4 [] := by
    intro fz
    induction fz with
    | zero => intro i _ h; exact absurd h (Nat.not_lt_zero _)
    | succ fz ih =>
      intro i hi hfz
      refine j_iload_n C 3 dX9_worthHeldBy_4 rfl rfl ?_
      refine j_aload_n C 0 dX9_worthHeldBy_5 rfl rfl ?_
      refine kg_0_workCount C hinX9 (by decide +kernel) dX9_worthHeldBy_6 ?_
      refine j_icmp_ge C 50 dX9_worthHeldBy_9 (by decide) (fun c9 => ?_) (fun c9 => ?_)
      · have c9 := (nI_leI (a := n 0) (b := i) (by omega) (by omega)).mp c9
        have hi0 : i = n 0 := by omega
        subst hi0
        refine j_iload_n C 2 dX9_worthHeldBy_50 rfl rfl ?_
        exact j_iret C hQ dX9_worthHeldBy_51 (⟨rfl, rfl⟩)
      · have c9 : ¬ ((n 0) ≤ i) := fun h => c9 ((nI_leI (a := n 0) (b := i) (by omega) (by omega)).mpr h)
        refine j_aload_n C 0 dX9_worthHeldBy_12 rfl rfl ?_
        refine j_iload_n C 3 dX9_worthHeldBy_13 rfl rfl ?_
        refine j_callV_q C 1 0 (cc_X9_workAt l d ad adK adV al a n op c hn (nI i)) cG_0 rfl gX9_worthHeldBy_X9_workAt rfl rfl rfl (by decide +kernel) ⟨(Nat.le_of_ble_eq_true rfl), (Nat.le_of_ble_eq_true rfl)⟩ ⟨(Nat.le_of_ble_eq_true rfl), (Nat.le_of_ble_eq_true rfl)⟩ rfl rfl (Nat.le_of_ble_eq_true rfl) dX9_worthHeldBy_14 (fun r14 u14 h14 => ?_)
        obtain ⟨rfl, rfl⟩ := h14
        refine j_st (st2 := [.ref (a 13 i)]) (congrArg (fun z => va_rf z :: _) (oW_j hn (by omega))) ?_
        refine j_astore C [(0, .ref (a 0 0)), (1, .int (nI b)), (2, .int (cWorth c b i)), (3, .int (nI i)), (4, .ref (a 13 i))] [1, 2, 3, 4, 0] dX9_worthHeldBy_17 (by decide) rfl ?_
        refine j_iload_n C 2 dX9_worthHeldBy_19 rfl rfl ?_
        refine j_aload C 4 dX9_worthHeldBy_20 rfl ?_
        refine j_ifnonnull C 29 dX9_worthHeldBy_22 (by decide) ?_
        refine j_aload C 4 dX9_worthHeldBy_29 rfl ?_
        refine kgN_13_held C hinX8 (by omega) nst_X9_184 dX9_worthHeldBy_31 ?_
        refine j_iload_n C 1 dX9_worthHeldBy_34 rfl rfl ?_
        refine kl_15 C (by omega) b rfl (by omega) dX9_worthHeldBy_35 ?_
        refine j_aload C 4 dX9_worthHeldBy_36 rfl ?_
        refine kgN_13_priceNow C hinX8 (by omega) nst_X9_129 dX9_worthHeldBy_38 ?_
        refine j_imul C dX9_worthHeldBy_41 ?_
        refine j_iadd C dX9_worthHeldBy_42 ?_
        refine j_istore_n C [(0, .ref (a 0 0)), (1, .int (nI b)), (2, .int ((cWorth c b i) + ((c 15 i b) * (c 13 i 3)))), (3, .int (nI i)), (4, .ref (a 13 i))] [1, 2, 0, 3, 4] dX9_worthHeldBy_43 rfl (by decide) rfl ?_
        refine j_iinc C (nI (i + 1)) [(0, .ref (a 0 0)), (1, .int (nI b)), (2, .int ((cWorth c b i) + ((c 15 i b) * (c 13 i 3)))), (3, .int (nI (i + 1))), (4, .ref (a 13 i))] 3 [1, 2, 3, 0, 4] dX9_worthHeldBy_44 rfl (nI_1 i) (by decide) rfl ?_
        refine j_goto C 4 dX9_worthHeldBy_47 (by decide) ?_
        refine j_lv (lv' := [(0, .ref (a 0 0)), (1, .int (nI b)), (2, .int ((cWorth c b i) + ((c 15 i b) * (c 13 i 3)))), (3, .int (nI (i + 1)))]) [0, 1, 2, 3] rfl ?_
        exact ih (i + 1) (by omega) (by omega)
  refine j_iconst C 0 dX9_worthHeldBy_0 (by decide) ?_
  refine j_istore_n C [(0, .ref (a 0 0)), (1, .int (nI b)), (2, .int 0)] [1, 2, 0] dX9_worthHeldBy_1 rfl (by decide) rfl ?_
  refine j_iconst C 0 dX9_worthHeldBy_2 (by decide) ?_
  refine j_istore_n C [(0, .ref (a 0 0)), (1, .int (nI b)), (2, .int 0), (3, .int 0)] [1, 2, 3, 0] dX9_worthHeldBy_3 rfl (by decide) rfl ?_
  exact loop _ 0 (Nat.zero_le _) (Nat.lt_succ_self _)


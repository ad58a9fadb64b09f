/-! the tape of the class -/
def cbt (x k : Int32) : Int32 := vp_nar .byte (x.toUInt32 >>> (k.toUInt32 &&& Int32.toUInt32 31)).toInt32.toInt8.toInt32
def cAp1 (c : Nat → Nat → Nat → Int32) (tp : Nat) (v : Int32) : Nat → Nat → Nat → Int32 := cu (cu c 2 0 tp v) 1 0 1 (nI (tp + 1))
def cApp (c : Nat → Nat → Nat → Int32) (tp : Nat) (x : Int32) : Nat → Nat → Nat → Int32 := cAp1 (cAp1 (cAp1 (cAp1 c tp (cbt x 24)) (tp + 1) (cbt x 16)) (tp + 1 + 1) (cbt x 8)) (tp + 1 + 1 + 1) (cbt x 0)
def cAt (c : Nat → Nat → Nat → Int32) (tp p : Nat) : Int32 := if p < tp then c 2 0 p &&& 255 else -1

set_option maxHeartbeats 4000000 in
set_option maxRecDepth 100000 in
theorem cc_X7_hasRoomFor (l : Launch) (d : jD) (ad adK adV : Nat → Nat) (al : Nat) (a : Nat → Nat → Nat) (n : Nat → Nat) (op : Option Nat) (c : Nat → Nat → Nat → Int32) (hn : nOK n) (x : Int32) (tp : Nat) (hT : c 1 0 1 = nI tp) (htp : tp ≤ 140) : jMi (cEf ad adK adV al) d l yX7_hasRoomFor wsX7_hasRoomFor ({ frames := 0, cells := 0, slots := 0, locals := 0 } : Room) 0 0 [.ref (a 1 0), .int x] (cW a d n op ad c) (fun r u => r = bI (x ≤ nI (140 - tp)) ∧ u = cW a d n op ad c) := by
  refine jMi.mk (cEf_k ad adK adV al) (by decide) rfl (Nat.le_of_ble_eq_true rfl) (fun X A C hQ => ?_)
  have hinX7 : ∀ w ∈ u_ws RX7 TX7 2, w ∈ wsX7_hasRoomFor := fun w h => List.mem_cons_of_mem _ (List.mem_append_right _ h)
  refine j_lvq (lv2 := [(0, .ref (a 1 0)), (1, .int x)]) rfl ?_
  refine j_iload_n C 1 dX7_hasRoomFor_0 rfl rfl ?_
  refine j_sipush C 140 dX7_hasRoomFor_1 (by decide) ?_
  refine j_aload_n C 0 dX7_hasRoomFor_4 rfl rfl ?_
  refine kg_1_length C hinX7 (by decide +kernel) dX7_hasRoomFor_5 ?_
  refine j_st (st2 := [.int (nI tp), .int 140, .int x]) (congrArg (fun z => Value.int z :: _) hT) ?_
  refine j_isubN C 140 tp (by omega) dX7_hasRoomFor_8 ?_
  refine j_icmp_gt C 16 dX7_hasRoomFor_9 (by decide) (fun c9 => ?_) (fun c9 => ?_)
  · refine j_iconst C 0 dX7_hasRoomFor_16 (by decide) ?_
    exact j_zret C hQ rfl dX7_hasRoomFor_17 (⟨bI_f (fun h => i_nlt.mpr h c9), rfl⟩)
  · refine j_iconst C 1 dX7_hasRoomFor_12 (by decide) ?_
    refine j_goto C 17 dX7_hasRoomFor_13 (by decide) ?_
    exact j_zret C hQ rfl dX7_hasRoomFor_17 (⟨bI_t (i_nlt.mp c9), rfl⟩)

set_option maxHeartbeats 4000000 in
set_option maxRecDepth 100000 in
theorem cc_X7_append (l : Launch) (d : jD) (ad adK adV : Nat → Nat) (al : Nat) (a : Nat → Nat → Nat) (n : Nat → Nat) (op : Option Nat) (c : Nat → Nat → Nat → Int32) (hn : nOK n) (x : Int32) (tp : Nat) (hT : c 1 0 1 = nI tp) (htp : tp + 4 ≤ 140) : jMv (cEf ad adK adV al) d l yX7_append wsX7_append ({ frames := 0, cells := 0, slots := 0, locals := 0 } : Room) 0 0 [.ref (a 1 0), .int x] (cW a d n op ad c) (fun u => u = cW a d n op ad (cApp c tp x)) := by
  refine jMv.mk (cEf_k ad adK adV al) (by decide) rfl (Nat.le_of_ble_eq_true rfl) (fun X A C hQ => ?_)
  have hinX7 : ∀ w ∈ u_ws RX7 TX7 2, w ∈ wsX7_append := fun w h => List.mem_cons_of_mem _ (List.mem_append_right _ h)
  refine j_lvq (lv2 := [(0, .ref (a 1 0)), (1, .int x)]) rfl ?_
  refine j_bipush C 24 dX7_append_0 (by decide) ?_
  refine j_istore_n C [(0, .ref (a 1 0)), (1, .int x), (2, .int 24)] [1, 2, 0] dX7_append_2 rfl (by decide) rfl ?_
  refine j_iload_n C 2 dX7_append_3 rfl rfl ?_
  refine j_if_lt C 46 dX7_append_4 (by decide) (fun h => absurd h (by decide)) (fun _ => ?_)
  refine j_aload_n C 0 dX7_append_7 rfl rfl ?_
  refine kg_1_length C hinX7 (by decide +kernel) dX7_append_8 ?_
  refine j_st (st2 := [.int (nI tp)]) (congrArg (fun z => Value.int z :: _) hT) ?_
  refine j_sipush C 140 dX7_append_11 (by decide) ?_
  refine j_icmp_ge C 46 dX7_append_14 (by decide) (fun c14 => absurd c14 (fun h => by have := (nI_leI (a := 140) (b := tp) (by omega) (by omega)).mp h; omega)) (fun c14 => ?_)
  refine j_aload_n C 0 dX7_append_17 rfl rfl ?_
  refine kg_1_bytes C hinX7 (by decide +kernel) dX7_append_18 ?_
  refine j_aload_n C 0 dX7_append_21 rfl rfl ?_
  refine kg_1_length C hinX7 (by decide +kernel) dX7_append_22 ?_
  refine j_st (st2 := [.int (nI tp), .ref (a 2 0)]) (congrArg (fun z => Value.int z :: _) hT) ?_
  refine j_iload_n C 1 dX7_append_25 rfl rfl ?_
  refine j_iload_n C 2 dX7_append_26 rfl rfl ?_
  refine j_iushr C dX7_append_27 ?_
  refine j_i2b C dX7_append_28 ?_
  refine ks_2 C tp rfl (by omega) dX7_append_29 ?_
  refine j_aload_n C 0 dX7_append_30 rfl rfl ?_
  refine j_dup C dX7_append_31 rfl ?_
  refine kg_1_length C hinX7 (by decide +kernel) dX7_append_32 ?_
  refine j_st (st2 := [.int (nI tp), .ref (a 1 0)]) (congrArg (fun z => Value.int z :: _) hT) ?_
  refine j_iconst C 1 dX7_append_35 (by decide) ?_
  refine j_iaddN C tp 1 dX7_append_36 ?_
  refine kp_1_length C hinX7 (by decide +kernel) dX7_append_37 ?_
  refine j_iinc C 16 [(0, .ref (a 1 0)), (1, .int x), (2, .int 16)] 2 [1, 2, 0] dX7_append_40 rfl (by decide) (by decide) rfl ?_
  refine j_goto C 3 dX7_append_43 (by decide) ?_
  refine j_iload_n C 2 dX7_append_3 rfl rfl ?_
  refine j_if_lt C 46 dX7_append_4 (by decide) (fun h => absurd h (by decide)) (fun _ => ?_)
  refine j_aload_n C 0 dX7_append_7 rfl rfl ?_
  refine kg_1_length C hinX7 (by decide +kernel) dX7_append_8 ?_
  refine j_st (st2 := [.int (nI (tp + 1))]) rfl ?_
  refine j_sipush C 140 dX7_append_11 (by decide) ?_
  refine j_icmp_ge C 46 dX7_append_14 (by decide) (fun c14 => absurd c14 (fun h => by have := (nI_leI (a := 140) (b := tp + 1) (by omega) (by omega)).mp h; omega)) (fun c14 => ?_)
  refine j_aload_n C 0 dX7_append_17 rfl rfl ?_
  refine kg_1_bytes C hinX7 (by decide +kernel) dX7_append_18 ?_
  refine j_aload_n C 0 dX7_append_21 rfl rfl ?_
  refine kg_1_length C hinX7 (by decide +kernel) dX7_append_22 ?_
  refine j_st (st2 := [.int (nI (tp + 1)), .ref (a 2 0)]) rfl ?_
  refine j_iload_n C 1 dX7_append_25 rfl rfl ?_
  refine j_iload_n C 2 dX7_append_26 rfl rfl ?_
  refine j_iushr C dX7_append_27 ?_
  refine j_i2b C dX7_append_28 ?_
  refine ks_2 C (tp + 1) rfl (by omega) dX7_append_29 ?_
  refine j_aload_n C 0 dX7_append_30 rfl rfl ?_
  refine j_dup C dX7_append_31 rfl ?_
  refine kg_1_length C hinX7 (by decide +kernel) dX7_append_32 ?_
  refine j_st (st2 := [.int (nI (tp + 1)), .ref (a 1 0)]) rfl ?_
  refine j_iconst C 1 dX7_append_35 (by decide) ?_
  refine j_iaddN C (tp + 1) 1 dX7_append_36 ?_
  refine kp_1_length C hinX7 (by decide +kernel) dX7_append_37 ?_
  refine j_iinc C 8 [(0, .ref (a 1 0)), (1, .int x), (2, .int 8)] 2 [1, 2, 0] dX7_append_40 rfl (by decide) (by decide) rfl ?_
  refine j_goto C 3 dX7_append_43 (by decide) ?_
  refine j_iload_n C 2 dX7_append_3 rfl rfl ?_
  refine j_if_lt C 46 dX7_append_4 (by decide) (fun h => absurd h (by decide)) (fun _ => ?_)
  refine j_aload_n C 0 dX7_append_7 rfl rfl ?_
  refine kg_1_length C hinX7 (by decide +kernel) dX7_append_8 ?_
  refine j_st (st2 := [.int (nI (tp + 1 + 1))]) rfl ?_
  refine j_sipush C 140 dX7_append_11 (by decide) ?_
  refine j_icmp_ge C 46 dX7_append_14 (by decide) (fun c14 => absurd c14 (fun h => by have := (nI_leI (a := 140) (b := tp + 1 + 1) (by omega) (by omega)).mp h; omega)) (fun c14 => ?_)
  refine j_aload_n C 0 dX7_append_17 rfl rfl ?_
  refine kg_1_bytes C hinX7 (by decide +kernel) dX7_append_18 ?_
  refine j_aload_n C 0 dX7_append_21 rfl rfl ?_
  refine kg_1_length C hinX7 (by decide +kernel) dX7_append_22 ?_
  refine j_st (st2 := [.int (nI (tp + 1 + 1)), .ref (a 2 0)]) rfl ?_
  refine j_iload_n C 1 dX7_append_25 rfl rfl ?_
  refine j_iload_n C 2 dX7_append_26 rfl rfl ?_
  refine j_iushr C dX7_append_27 ?_
  refine j_i2b C dX7_append_28 ?_
  refine ks_2 C (tp + 1 + 1) rfl (by omega) dX7_append_29 ?_
  refine j_aload_n C 0 dX7_append_30 rfl rfl ?_
  refine j_dup C dX7_append_31 rfl ?_
  refine kg_1_length C hinX7 (by decide +kernel) dX7_append_32 ?_
  refine j_st (st2 := [.int (nI (tp + 1 + 1)), .ref (a 1 0)]) rfl ?_
  refine j_iconst C 1 dX7_append_35 (by decide) ?_
  refine j_iaddN C (tp + 1 + 1) 1 dX7_append_36 ?_
  refine kp_1_length C hinX7 (by decide +kernel) dX7_append_37 ?_
  refine j_iinc C 0 [(0, .ref (a 1 0)), (1, .int x), (2, .int 0)] 2 [1, 2, 0] dX7_append_40 rfl (by decide) (by decide) rfl ?_
  refine j_goto C 3 dX7_append_43 (by decide) ?_
  refine j_iload_n C 2 dX7_append_3 rfl rfl ?_
  refine j_if_lt C 46 dX7_append_4 (by decide) (fun h => absurd h (by decide)) (fun _ => ?_)
  refine j_aload_n C 0 dX7_append_7 rfl rfl ?_
  refine kg_1_length C hinX7 (by decide +kernel) dX7_append_8 ?_
  refine j_st (st2 := [.int (nI (tp + 1 + 1 + 1))]) rfl ?_
  refine j_sipush C 140 dX7_append_11 (by decide) ?_
  refine j_icmp_ge C 46 dX7_append_14 (by decide) (fun c14 => absurd c14 (fun h => by have := (nI_leI (a := 140) (b := tp + 1 + 1 + 1) (by omega) (by omega)).mp h; omega)) (fun c14 => ?_)
  refine j_aload_n C 0 dX7_append_17 rfl rfl ?_
  refine kg_1_bytes C hinX7 (by decide +kernel) dX7_append_18 ?_
  refine j_aload_n C 0 dX7_append_21 rfl rfl ?_
  refine kg_1_length C hinX7 (by decide +kernel) dX7_append_22 ?_
  refine j_st (st2 := [.int (nI (tp + 1 + 1 + 1)), .ref (a 2 0)]) rfl ?_
  refine j_iload_n C 1 dX7_append_25 rfl rfl ?_
  refine j_iload_n C 2 dX7_append_26 rfl rfl ?_
  refine j_iushr C dX7_append_27 ?_
  refine j_i2b C dX7_append_28 ?_
  refine ks_2 C (tp + 1 + 1 + 1) rfl (by omega) dX7_append_29 ?_
  refine j_aload_n C 0 dX7_append_30 rfl rfl ?_
  refine j_dup C dX7_append_31 rfl ?_
  refine kg_1_length C hinX7 (by decide +kernel) dX7_append_32 ?_
  refine j_st (st2 := [.int (nI (tp + 1 + 1 + 1)), .ref (a 1 0)]) rfl ?_
  refine j_iconst C 1 dX7_append_35 (by decide) ?_
  refine j_iaddN C (tp + 1 + 1 + 1) 1 dX7_append_36 ?_
  refine kp_1_length C hinX7 (by decide +kernel) dX7_append_37 ?_
  refine j_iinc C (-8) [(0, .ref (a 1 0)), (1, .int x), (2, .int (-8))] 2 [1, 2, 0] dX7_append_40 rfl (by decide) (by decide) rfl ?_
  refine j_goto C 3 dX7_append_43 (by decide) ?_
  refine j_iload_n C 2 dX7_append_3 rfl rfl ?_
  refine j_if_lt C 46 dX7_append_4 (by decide) (fun _ => ?_) (fun h => absurd h (by decide))
  exact j_vret C hQ dX7_append_46 rfl

set_option maxHeartbeats 4000000 in
set_option maxRecDepth 100000 in
theorem cc_X7_shortenTo (l : Launch) (d : jD) (ad adK adV : Nat → Nat) (al : Nat) (a : Nat → Nat → Nat) (n : Nat → Nat) (op : Option Nat) (c : Nat → Nat → Nat → Int32) (hn : nOK n) (x : Int32) : jMi (cEf ad adK adV al) d l yX7_shortenTo wsX7_shortenTo ({ frames := 1, cells := 0, slots := 0, locals := 22 } : Room) 0 0 [.ref (a 1 0), .int x] (cW a d n op ad c) (fun r u => r = bI (0 ≤ x ∧ x ≤ c 1 0 1) ∧ u = cW a d n op ad (if 0 ≤ x ∧ x ≤ c 1 0 1 then cu c 1 0 1 x else c)) := by
  refine jMi.mk (cEf_k ad adK adV al) (by decide) rfl (Nat.le_of_ble_eq_true rfl) (fun X A C hQ => ?_)
  have hinX7 : ∀ w ∈ u_ws RX7 TX7 2, w ∈ wsX7_shortenTo := fun w h => List.mem_cons_of_mem _ (List.mem_append_right _ h)
  refine j_lvq (lv2 := [(0, .ref (a 1 0)), (1, .int x)]) rfl ?_
  refine j_iload_n C 1 dX7_shortenTo_0 rfl rfl ?_
  refine j_iconst C 0 dX7_shortenTo_1 (by decide) ?_
  refine j_aload_n C 0 dX7_shortenTo_2 rfl rfl ?_
  refine kg_1_length C hinX7 (by decide +kernel) dX7_shortenTo_3 ?_
  refine j_callSN_i C 3 (cc_X9_isWithin (cEf ad adK adV al) (cEf_k ad adK adV al) l d _ x 0 (c 1 0 1)) gX7_shortenTo_X9_isWithin_n19 nst_X7_19 (by decide +kernel) (by decide +kernel) rfl rfl rfl (by decide +kernel) ⟨(Nat.le_of_ble_eq_true rfl), (Nat.le_of_ble_eq_true rfl)⟩ ⟨(Nat.le_of_ble_eq_true rfl), (Nat.le_of_ble_eq_true rfl)⟩ rfl rfl (Nat.le_of_ble_eq_true rfl) dX7_shortenTo_6 (fun r6 u6 h6 => ?_)
  obtain ⟨rfl, rfl⟩ := h6
  refine j_if_ne C 14 dX7_shortenTo_9 (by decide) (fun c9 => ?_) (fun c9 => ?_)
  · have c9 := bI_n0.mp c9
    refine j_aload_n C 0 dX7_shortenTo_14 rfl rfl ?_
    refine j_iload_n C 1 dX7_shortenTo_15 rfl rfl ?_
    refine kp_1_length C hinX7 (by decide +kernel) dX7_shortenTo_16 ?_
    refine j_iconst C 1 dX7_shortenTo_19 (by decide) ?_
    exact j_zret C hQ rfl dX7_shortenTo_20 (⟨bI_t c9, by rw [if_pos c9]⟩)
  · have c9 := bI_0.mp c9
    refine j_iconst C 0 dX7_shortenTo_12 (by decide) ?_
    exact j_zret C hQ rfl dX7_shortenTo_13 (⟨(bI_f c9), by rw [if_neg c9]⟩)

set_option maxHeartbeats 4000000 in
set_option maxRecDepth 100000 in
theorem cc_X7_at (l : Launch) (d : jD) (ad adK adV : Nat → Nat) (al : Nat) (a : Nat → Nat → Nat) (n : Nat → Nat) (op : Option Nat) (c : Nat → Nat → Nat → Int32) (hn : nOK n) (p tp : Nat) (hp : p < 2 ^ 31) (hT : c 1 0 1 = nI tp) (htp : tp ≤ 140) : jMi (cEf ad adK adV al) d l yX7_at wsX7_at ({ frames := 0, cells := 0, slots := 0, locals := 0 } : Room) 0 0 [.ref (a 1 0), .int (nI p)] (cW a d n op ad c) (fun r u => r = cAt c tp p ∧ u = cW a d n op ad c) := by
  refine jMi.mk (cEf_k ad adK adV al) (by decide) rfl (Nat.le_of_ble_eq_true rfl) (fun X A C hQ => ?_)
  have hinX7 : ∀ w ∈ u_ws RX7 TX7 2, w ∈ wsX7_at := fun w h => List.mem_cons_of_mem _ (List.mem_append_right _ h)
  refine j_lvq (lv2 := [(0, .ref (a 1 0)), (1, .int (nI p))]) rfl ?_
  refine j_iload_n C 1 dX7_at_0 rfl rfl ?_
  refine j_if_lt C 32 dX7_at_1 (by decide) (fun c1 => absurd c1 (nI_pos (by omega))) (fun c1 => ?_)
  refine j_iload_n C 1 dX7_at_4 rfl rfl ?_
  refine j_aload_n C 0 dX7_at_5 rfl rfl ?_
  refine kg_1_length C hinX7 (by decide +kernel) dX7_at_6 ?_
  refine j_st (st2 := [.int (nI tp), .int (nI p)]) (congrArg (fun z => Value.int z :: _) hT) ?_
  refine j_icmp_ge C 32 dX7_at_9 (by decide) (fun c9 => ?_) (fun c9 => ?_)
  · have c9 := (nI_leI (a := tp) (b := p) (by omega) (by omega)).mp c9
    refine j_iconst C (-1) dX7_at_32 (by decide) ?_
    exact j_iret C hQ dX7_at_33 (⟨by rw [cAt, if_neg (by omega)], rfl⟩)
  · have c9 : ¬ (tp ≤ p) := fun h => c9 ((nI_leI (a := tp) (b := p) (by omega) (by omega)).mpr h)
    refine j_iload_n C 1 dX7_at_12 rfl rfl ?_
    refine j_sipush C 140 dX7_at_13 (by decide) ?_
    refine j_icmp_ge C 32 dX7_at_16 (by decide) (fun c16 => absurd c16 (fun h => by have := (nI_leI (a := 140) (b := p) (by omega) (by omega)).mp h; omega)) (fun c16 => ?_)
    refine j_aload_n C 0 dX7_at_19 rfl rfl ?_
    refine kg_1_bytes C hinX7 (by decide +kernel) dX7_at_20 ?_
    refine j_iload_n C 1 dX7_at_23 rfl rfl ?_
    refine kl_2 C p rfl (by omega) dX7_at_24 ?_
    refine j_sipush C 255 dX7_at_25 (by decide) ?_
    refine j_iand C dX7_at_28 ?_
    refine j_goto C 33 dX7_at_29 (by decide) ?_
    exact j_iret C hQ dX7_at_33 (⟨by rw [cAt, if_pos (by omega)], rfl⟩)

def zFeed (c : Nat → Nat → Nat → Int32) (x1 x2 x3 x4 x5 : Int32) (tp : Nat) : Int32 × (Nat → Nat → Nat → Int32) := if tp + 20 ≤ 140 then (nI (tp + 20), cApp (cApp (cApp (cApp (cApp c (tp + 0) x1) (tp + 4) x2) (tp + 8) x3) (tp + 12) x4) (tp + 16) x5) else (-1, c)

set_option maxHeartbeats 4000000 in
set_option maxRecDepth 100000 in
theorem cc_X9_feed (l : Launch) (d : jD) (ad adK adV : Nat → Nat) (al : Nat) (a : Nat → Nat → Nat) (n : Nat → Nat) (op : Option Nat) (c : Nat → Nat → Nat → Int32) (hn : nOK n) (x1 x2 x3 x4 x5 : Int32) (tp : Nat) (hT : c 1 0 1 = nI tp) (htp : tp ≤ 140) : jMi (cEf ad adK adV al) d l yX9_feed wsX9_feed ({ frames := 1, cells := 0, slots := 0, locals := 22 } : Room) 0 0 [.ref (a 0 0), .int x1, .int x2, .int x3, .int x4, .int x5] (cW a d n op ad c) (fun r1 u => r1 = (zFeed c x1 x2 x3 x4 x5 tp).1 ∧ u = cW a d n op ad (zFeed c x1 x2 x3 x4 x5 tp).2) := by
  refine jMi.mk (cEf_k ad adK adV al) (by decide) rfl (Nat.le_of_ble_eq_true rfl) (fun X A C hQ => ?_)
  have hinX7 : ∀ w ∈ u_ws RX7 TX7 2, w ∈ wsX9_feed := fun w h => List.mem_cons_of_mem _ (List.mem_append_right _ h)
  have hinX9 : ∀ w ∈ u_ws RX9 TX9 11, w ∈ wsX9_feed := fun w h => List.mem_cons_of_mem _ (List.mem_append_left _ (List.mem_append_right _ h))
  refine j_lvq (lv2 := [(0, .ref (a 0 0)), (1, .int x1), (2, .int x2), (3, .int x3), (4, .int x4), (5, .int x5)]) rfl ?_
  refine j_aload_n C 0 dX9_feed_0 rfl rfl ?_
  refine kg_0_tape C hinX9 (by decide +kernel) dX9_feed_1 ?_
  refine j_bipush C 20 dX9_feed_4 (by decide) ?_
  refine j_callV_i C 1 1 (cc_X7_hasRoomFor l d ad adK adV al a n op c hn 20 tp hT htp) cG_1 rfl gX9_feed_X7_hasRoomFor rfl rfl rfl (by decide +kernel) ⟨(Nat.le_of_ble_eq_true rfl), (Nat.le_of_ble_eq_true rfl)⟩ ⟨(Nat.le_of_ble_eq_true rfl), (Nat.le_of_ble_eq_true rfl)⟩ rfl rfl (Nat.le_of_ble_eq_true rfl) dX9_feed_6 (fun r6 u6 h6 => ?_)
  obtain ⟨rfl, rfl⟩ := h6
  refine j_if_ne C 14 dX9_feed_9 (by decide) (fun c9 => ?_) (fun c9 => ?_)
  · have c9 : tp + 20 ≤ 140 := by have := (nI_leI (a := 20) (b := 140 - tp) (by omega) (by omega)).mp (bI_n0.mp c9); omega
    refine j_aload_n C 0 dX9_feed_14 rfl rfl ?_
    refine kg_0_tape C hinX9 (by decide +kernel) dX9_feed_15 ?_
    refine j_iload_n C 1 dX9_feed_18 rfl rfl ?_
    refine j_callV_v C 1 1 (cc_X7_append l d ad adK adV al a n op c hn x1 (tp + 0) hT (by omega)) cG_1 rfl gX9_feed_X7_append rfl rfl rfl (by decide +kernel) ⟨(Nat.le_of_ble_eq_true rfl), (Nat.le_of_ble_eq_true rfl)⟩ ⟨(Nat.le_of_ble_eq_true rfl), (Nat.le_of_ble_eq_true rfl)⟩ rfl rfl (Nat.le_of_ble_eq_true rfl) dX9_feed_19 (fun u19 h19 => ?_)
    obtain rfl := h19
    refine j_aload_n C 0 dX9_feed_22 rfl rfl ?_
    refine kg_0_tape C hinX9 (by decide +kernel) dX9_feed_23 ?_
    refine j_iload_n C 2 dX9_feed_26 rfl rfl ?_
    refine j_callV_v C 1 1 (cc_X7_append l d ad adK adV al a n op (cApp c (tp + 0) x1) hn x2 (tp + 4) rfl (by omega)) cG_1 rfl gX9_feed_X7_append rfl rfl rfl (by decide +kernel) ⟨(Nat.le_of_ble_eq_true rfl), (Nat.le_of_ble_eq_true rfl)⟩ ⟨(Nat.le_of_ble_eq_true rfl), (Nat.le_of_ble_eq_true rfl)⟩ rfl rfl (Nat.le_of_ble_eq_true rfl) dX9_feed_27 (fun u27 h27 => ?_)
    obtain rfl := h27
    refine j_aload_n C 0 dX9_feed_30 rfl rfl ?_
    refine kg_0_tape C hinX9 (by decide +kernel) dX9_feed_31 ?_
    refine j_iload_n C 3 dX9_feed_34 rfl rfl ?_
    refine j_callV_v C 1 1 (cc_X7_append l d ad adK adV al a n op (cApp (cApp c (tp + 0) x1) (tp + 4) x2) hn x3 (tp + 8) rfl (by omega)) cG_1 rfl gX9_feed_X7_append rfl rfl rfl (by decide +kernel) ⟨(Nat.le_of_ble_eq_true rfl), (Nat.le_of_ble_eq_true rfl)⟩ ⟨(Nat.le_of_ble_eq_true rfl), (Nat.le_of_ble_eq_true rfl)⟩ rfl rfl (Nat.le_of_ble_eq_true rfl) dX9_feed_35 (fun u35 h35 => ?_)
    obtain rfl := h35
    refine j_aload_n C 0 dX9_feed_38 rfl rfl ?_
    refine kg_0_tape C hinX9 (by decide +kernel) dX9_feed_39 ?_
    refine j_iload C 4 dX9_feed_42 rfl ?_
    refine j_callV_v C 1 1 (cc_X7_append l d ad adK adV al a n op (cApp (cApp (cApp c (tp + 0) x1) (tp + 4) x2) (tp + 8) x3) hn x4 (tp + 12) rfl (by omega)) cG_1 rfl gX9_feed_X7_append rfl rfl rfl (by decide +kernel) ⟨(Nat.le_of_ble_eq_true rfl), (Nat.le_of_ble_eq_true rfl)⟩ ⟨(Nat.le_of_ble_eq_true rfl), (Nat.le_of_ble_eq_true rfl)⟩ rfl rfl (Nat.le_of_ble_eq_true rfl) dX9_feed_44 (fun u44 h44 => ?_)
    obtain rfl := h44
    refine j_aload_n C 0 dX9_feed_47 rfl rfl ?_
    refine kg_0_tape C hinX9 (by decide +kernel) dX9_feed_48 ?_
    refine j_iload C 5 dX9_feed_51 rfl ?_
    refine j_callV_v C 1 1 (cc_X7_append l d ad adK adV al a n op (cApp (cApp (cApp (cApp c (tp + 0) x1) (tp + 4) x2) (tp + 8) x3) (tp + 12) x4) hn x5 (tp + 16) rfl (by omega)) cG_1 rfl gX9_feed_X7_append rfl rfl rfl (by decide +kernel) ⟨(Nat.le_of_ble_eq_true rfl), (Nat.le_of_ble_eq_true rfl)⟩ ⟨(Nat.le_of_ble_eq_true rfl), (Nat.le_of_ble_eq_true rfl)⟩ rfl rfl (Nat.le_of_ble_eq_true rfl) dX9_feed_53 (fun u53 h53 => ?_)
    obtain rfl := h53
    refine j_aload_n C 0 dX9_feed_56 rfl rfl ?_
    refine kg_0_tape C hinX9 (by decide +kernel) dX9_feed_57 ?_
    refine kgN_1_length C hinX7 nst_X9_56 dX9_feed_60 ?_
    refine j_st (st2 := [.int (nI (tp + 20))]) (congrArg (fun z => Value.int z :: _) rfl) ?_
    exact j_iret C hQ dX9_feed_63 (⟨by rw [zFeed, if_pos c9], by rw [zFeed, if_pos c9]⟩)
  · have c9 : ¬ tp + 20 ≤ 140 := fun h => bI_0.mp c9 ((nI_leI (a := 20) (b := 140 - tp) (by omega) (by omega)).mpr (by omega))
    refine j_iconst C (-1) dX9_feed_12 (by decide) ?_
    exact j_iret C hQ dX9_feed_13 (⟨by rw [zFeed, if_neg c9], by rw [zFeed, if_neg c9]⟩)

set_option maxHeartbeats 4000000 in
set_option maxRecDepth 100000 in
theorem cc_X9_end (l : Launch) (d : jD) (ad adK adV : Nat → Nat) (al : Nat) (a : Nat → Nat → Nat) (n : Nat → Nat) (op : Option Nat) (c : Nat → Nat → Nat → Int32) (hn : nOK n) (x : Int32) : jMi (cEf ad adK adV al) d l yX9_end wsX9_end ({ frames := 2, cells := 0, slots := 0, locals := 43 } : Room) 0 0 [.ref (a 0 0), .int x] (cW a d n op ad c) (fun r u => r = bI (0 ≤ x ∧ x ≤ c 1 0 1) ∧ u = cW a d n op ad (if 0 ≤ x ∧ x ≤ c 1 0 1 then cu c 1 0 1 x else c)) := by
  refine jMi.mk (cEf_k ad adK adV al) (by decide) rfl (Nat.le_of_ble_eq_true rfl) (fun X A C hQ => ?_)
  have hinX9 : ∀ w ∈ u_ws RX9 TX9 11, w ∈ wsX9_end := fun w h => List.mem_cons_of_mem _ (List.mem_append_left _ (List.mem_append_right _ h))
  refine j_lvq (lv2 := [(0, .ref (a 0 0)), (1, .int x)]) rfl ?_
  refine j_aload_n C 0 dX9_end_0 rfl rfl ?_
  refine kg_0_tape C hinX9 (by decide +kernel) dX9_end_1 ?_
  refine j_iload_n C 1 dX9_end_4 rfl rfl ?_
  refine j_callV_i C 1 1 (cc_X7_shortenTo l d ad adK adV al a n op c hn x) cG_1 rfl gX9_end_X7_shortenTo rfl rfl rfl (by decide +kernel) ⟨(Nat.le_of_ble_eq_true rfl), (Nat.le_of_ble_eq_true rfl)⟩ ⟨(Nat.le_of_ble_eq_true rfl), (Nat.le_of_ble_eq_true rfl)⟩ rfl rfl (Nat.le_of_ble_eq_true rfl) dX9_end_5 (fun r5 u5 h5 => ?_)
  obtain ⟨rfl, rfl⟩ := h5
  exact j_zret C hQ (by unfold bI; split <;> rfl) dX9_end_8 (⟨rfl, rfl⟩)

set_option maxHeartbeats 4000000 in
set_option maxRecDepth 100000 in
theorem cc_X9_fault (l : Launch) (d : jD) (ad adK adV : Nat → Nat) (al : Nat) (a : Nat → Nat → Nat) (n : Nat → Nat) (op : Option Nat) (c : Nat → Nat → Nat → Int32) (hn : nOK n) : jMi (cEf ad adK adV al) d l yX9_fault wsX9_fault ({ frames := 0, cells := 0, slots := 0, locals := 0 } : Room) 0 0 [.ref (a 0 0)] (cW a d n op ad c) (fun r u => r = c 3 0 5 ∧ u = cW a d n op ad c) := by
  refine jMi.mk (cEf_k ad adK adV al) (by decide) rfl (Nat.le_of_ble_eq_true rfl) (fun X A C hQ => ?_)
  have hinX6 : ∀ w ∈ u_ws RX6 TX6 7, w ∈ wsX9_fault := fun w h => List.mem_cons_of_mem _ (List.mem_append_right _ h)
  have hinX9 : ∀ w ∈ u_ws RX9 TX9 11, w ∈ wsX9_fault := fun w h => List.mem_cons_of_mem _ (List.mem_append_left _ (List.mem_append_right _ h))
  refine j_lvq (lv2 := [(0, .ref (a 0 0))]) rfl ?_
  refine j_aload_n C 0 dX9_fault_0 rfl rfl ?_
  refine kg_0_ruleText C hinX9 (by decide +kernel) dX9_fault_1 ?_
  refine kgN_3_faultKind C hinX6 nst_X9_67 dX9_fault_4 ?_
  exact j_iret C hQ dX9_fault_7 (⟨rfl, rfl⟩)

def zRule (c : Nat → Nat → Nat → Int32) (k : Int32) : Int32 := if 0 ≤ k ∧ k < 6 then c 4 0 (tn k) else -1

set_option maxHeartbeats 4000000 in
set_option maxRecDepth 100000 in
theorem cc_X9_rule (l : Launch) (d : jD) (ad adK adV : Nat → Nat) (al : Nat) (a : Nat → Nat → Nat) (n : Nat → Nat) (op : Option Nat) (c : Nat → Nat → Nat → Int32) (hn : nOK n) (k : Int32) : jMi (cEf ad adK adV al) d l yX9_rule wsX9_rule ({ frames := 0, cells := 0, slots := 0, locals := 0 } : Room) 0 0 [.ref (a 0 0), .int k] (cW a d n op ad c) (fun r u => r = zRule c k ∧ u = cW a d n op ad c) := by
  refine jMi.mk (cEf_k ad adK adV al) (by decide) rfl (Nat.le_of_ble_eq_true rfl) (fun X A C hQ => ?_)
  have hinX6 : ∀ w ∈ u_ws RX6 TX6 7, w ∈ wsX9_rule := fun w h => List.mem_cons_of_mem _ (List.mem_append_right _ h)
  have hinX9 : ∀ w ∈ u_ws RX9 TX9 11, w ∈ wsX9_rule := fun w h => List.mem_cons_of_mem _ (List.mem_append_left _ (List.mem_append_right _ h))
  refine j_lvq (lv2 := [(0, .ref (a 0 0)), (1, .int k)]) rfl ?_
  refine j_iload_n C 1 dX9_rule_0 rfl rfl ?_
  refine j_if_lt C 28 dX9_rule_1 (by decide) (fun c1 => ?_) (fun c1 => ?_)
  · refine j_iconst C (-1) dX9_rule_28 (by decide) ?_
    exact j_iret C hQ dX9_rule_29 (⟨(if_neg (fun h => i_nlt.mpr h.1 c1)).symm, rfl⟩)
  · refine j_iload_n C 1 dX9_rule_4 rfl rfl ?_
    refine j_aload_n C 0 dX9_rule_5 rfl rfl ?_
    refine kg_0_ruleText C hinX9 (by decide +kernel) dX9_rule_6 ?_
    refine kgN_3_values C hinX6 nst_X9_70 dX9_rule_9 ?_
    refine kn_4 C dX9_rule_12 ?_
    refine j_icmp_ge C 28 dX9_rule_13 (by decide) (fun c13 => ?_) (fun c13 => ?_)
    · refine j_iconst C (-1) dX9_rule_28 (by decide) ?_
      exact j_iret C hQ dX9_rule_29 (⟨(if_neg (fun h => i_nlt.mpr c13 h.2)).symm, rfl⟩)
    · obtain ⟨jk, hjk, rfl⟩ := nI_in2 (n := 6) (i_nlt.mp c1) (i_nle.mp c13) (by decide)
      refine j_aload_n C 0 dX9_rule_16 rfl rfl ?_
      refine kg_0_ruleText C hinX9 (by decide +kernel) dX9_rule_17 ?_
      refine kgN_3_values C hinX6 nst_X9_70 dX9_rule_20 ?_
      refine j_iload_n C 1 dX9_rule_23 rfl rfl ?_
      refine kl_4 C jk rfl (by omega) dX9_rule_24 ?_
      refine j_goto C 29 dX9_rule_25 (by decide) ?_
      exact j_iret C hQ dX9_rule_29 (⟨by rw [zRule, if_pos ⟨i_nlt.mp c1, i_nle.mp c13⟩, tn_nI (show jk < 20000 by omega)], rfl⟩)

def zCount (n : Nat → Nat) (c : Nat → Nat → Nat → Int32) (x : Int32) : Int32 := if x = 0 then c 0 0 9 else if x = 1 then nI (n 0) else if x = 2 then nI (n 1) else if x = 3 then nI (n 2) else if x = 4 then c 0 0 10 else if x = 5 then c 1 0 1 else -1

set_option maxHeartbeats 4000000 in
set_option maxRecDepth 100000 in
theorem cc_X9_count (l : Launch) (d : jD) (ad adK adV : Nat → Nat) (al : Nat) (a : Nat → Nat → Nat) (n : Nat → Nat) (op : Option Nat) (c : Nat → Nat → Nat → Int32) (hn : nOK n) (y : Int32) : jMi (cEf ad adK adV al) d l yX9_count wsX9_count ({ frames := 0, cells := 0, slots := 0, locals := 0 } : Room) 0 0 [.ref (a 0 0), .int y] (cW a d n op ad c) (fun r u => r = zCount n c y ∧ u = cW a d n op ad c) := by
  refine jMi.mk (cEf_k ad adK adV al) (by decide) rfl (Nat.le_of_ble_eq_true rfl) (fun X A C hQ => ?_)
  have hinX7 : ∀ w ∈ u_ws RX7 TX7 2, w ∈ wsX9_count := fun w h => List.mem_cons_of_mem _ (List.mem_append_right _ h)
  have hinX9 : ∀ w ∈ u_ws RX9 TX9 11, w ∈ wsX9_count := fun w h => List.mem_cons_of_mem _ (List.mem_append_left _ (List.mem_append_right _ h))
  refine j_lvq (lv2 := [(0, .ref (a 0 0)), (1, .int y)]) rfl ?_
  refine j_iload_n C 1 dX9_count_0 rfl rfl ?_
  rcases sw6 y with h | h | h | h | h | h | h
  · subst h
    refine j_tableIn C 40 dX9_count_1 (by decide) (by decide) rfl (by decide) ?_
    refine j_aload_n C 0 dX9_count_40 rfl rfl ?_
    refine kg_0_roundNow C hinX9 (by decide +kernel) dX9_count_41 ?_
    exact j_iret C hQ dX9_count_44 (⟨rfl, rfl⟩)
  · subst h
    refine j_tableIn C 45 dX9_count_1 (by decide) (by decide) rfl (by decide) ?_
    refine j_aload_n C 0 dX9_count_45 rfl rfl ?_
    refine kg_0_workCount C hinX9 (by decide +kernel) dX9_count_46 ?_
    exact j_iret C hQ dX9_count_49 (⟨rfl, rfl⟩)
  · subst h
    refine j_tableIn C 50 dX9_count_1 (by decide) (by decide) rfl (by decide) ?_
    refine j_aload_n C 0 dX9_count_50 rfl rfl ?_
    refine kg_0_peopleCount C hinX9 (by decide +kernel) dX9_count_51 ?_
    exact j_iret C hQ dX9_count_54 (⟨rfl, rfl⟩)
  · subst h
    refine j_tableIn C 55 dX9_count_1 (by decide) (by decide) rfl (by decide) ?_
    refine j_aload_n C 0 dX9_count_55 rfl rfl ?_
    refine kg_0_fundCount C hinX9 (by decide +kernel) dX9_count_56 ?_
    exact j_iret C hQ dX9_count_59 (⟨rfl, rfl⟩)
  · subst h
    refine j_tableIn C 60 dX9_count_1 (by decide) (by decide) rfl (by decide) ?_
    refine j_aload_n C 0 dX9_count_60 rfl rfl ?_
    refine kg_0_soldInAll C hinX9 (by decide +kernel) dX9_count_61 ?_
    exact j_iret C hQ dX9_count_64 (⟨rfl, rfl⟩)
  · subst h
    refine j_tableIn C 65 dX9_count_1 (by decide) (by decide) rfl (by decide) ?_
    refine j_aload_n C 0 dX9_count_65 rfl rfl ?_
    refine kg_0_tape C hinX9 (by decide +kernel) dX9_count_66 ?_
    refine kgN_1_length C hinX7 nst_X9_56 dX9_count_69 ?_
    exact j_iret C hQ dX9_count_72 (⟨rfl, rfl⟩)
  · refine j_tableOut C 73 dX9_count_1 h (by decide) ?_
    refine j_iconst C (-1) dX9_count_73 (by decide) ?_
    exact j_iret C hQ dX9_count_74 (⟨by simp only [zCount, if_neg (show ¬ y = 0 from sw_ne h (by decide) (j := 0) (by decide)), if_neg (show ¬ y = 1 from sw_ne h (by decide) (j := 1) (by decide)), if_neg (show ¬ y = 2 from sw_ne h (by decide) (j := 2) (by decide)), if_neg (show ¬ y = 3 from sw_ne h (by decide) (j := 3) (by decide)), if_neg (show ¬ y = 4 from sw_ne h (by decide) (j := 4) (by decide)), if_neg (show ¬ y = 5 from sw_ne h (by decide) (j := 5) (by decide))], rfl⟩)

set_option maxHeartbeats 4000000 in
set_option maxRecDepth 100000 in
theorem cc_X8_heldAsOf (l : Launch) (d : jD) (ad adK adV : Nat → Nat) (al : Nat) (a : Nat → Nat → Nat) (n : Nat → Nat) (op : Option Nat) (c : Nat → Nat → Nat → Int32) (hn : nOK n) (i r b : Nat) (hi : i < n 0) (hr : r < 50) (hb : b < 28) : jMi (cEf ad adK adV al) d l yX8_heldAsOf wsX8_heldAsOf ({ frames := 1, cells := 0, slots := 0, locals := 22 } : Room) 0 0 [.ref (a 13 i), .int (nI r), .int (nI b)] (cW a d n op ad c) (fun r1 u => r1 = c 17 i (r * 28 + b) ∧ u = cW a d n op ad c) := by
  refine jMi.mk (cEf_k ad adK adV al) (by decide) rfl (Nat.le_of_ble_eq_true rfl) (fun X A C hQ => ?_)
  have hinX8 : ∀ w ∈ u_ws RX8 TX8 8, w ∈ wsX8_heldAsOf := fun w h => List.mem_cons_of_mem _ (List.mem_append_right _ h)
  refine j_lvq (lv2 := [(0, .ref (a 13 i)), (1, .int (nI r)), (2, .int (nI b))]) rfl ?_
  refine j_iload_n C 1 dX8_heldAsOf_0 rfl rfl ?_
  refine j_iconst C 0 dX8_heldAsOf_1 (by decide) ?_
  refine j_bipush C 49 dX8_heldAsOf_2 (by decide) ?_
  refine j_callSN_i C 3 (cc_X9_isWithin (cEf ad adK adV al) (cEf_k ad adK adV al) l d _ (nI r) 0 49) gX8_heldAsOf_X9_isWithin_n37 nst_X8_37 (by decide +kernel) (by decide +kernel) rfl rfl rfl (by decide +kernel) ⟨(Nat.le_of_ble_eq_true rfl), (Nat.le_of_ble_eq_true rfl)⟩ ⟨(Nat.le_of_ble_eq_true rfl), (Nat.le_of_ble_eq_true rfl)⟩ rfl rfl (Nat.le_of_ble_eq_true rfl) dX8_heldAsOf_4 (fun r4 u4 h4 => ?_)
  obtain ⟨rfl, rfl⟩ := h4
  refine j_if_eq C 20 dX8_heldAsOf_7 (by decide) (fun c7 => absurd c7 (bI_n0.mpr ⟨nI_pos' (by omega), (nI_leI (a := r) (b := 49) (by omega) (by omega)).mpr (by omega)⟩)) (fun c7 => ?_)
  refine j_iload_n C 2 dX8_heldAsOf_10 rfl rfl ?_
  refine j_iconst C 0 dX8_heldAsOf_11 (by decide) ?_
  refine j_bipush C 27 dX8_heldAsOf_12 (by decide) ?_
  refine j_callSN_i C 3 (cc_X9_isWithin (cEf ad adK adV al) (cEf_k ad adK adV al) l d _ (nI b) 0 27) gX8_heldAsOf_X9_isWithin_n37 nst_X8_37 (by decide +kernel) (by decide +kernel) rfl rfl rfl (by decide +kernel) ⟨(Nat.le_of_ble_eq_true rfl), (Nat.le_of_ble_eq_true rfl)⟩ ⟨(Nat.le_of_ble_eq_true rfl), (Nat.le_of_ble_eq_true rfl)⟩ rfl rfl (Nat.le_of_ble_eq_true rfl) dX8_heldAsOf_14 (fun r14 u14 h14 => ?_)
  obtain ⟨rfl, rfl⟩ := h14
  refine j_if_ne C 22 dX8_heldAsOf_17 (by decide) (fun c17 => ?_) (fun c17 => absurd c17 (bI_n0.mpr ⟨nI_pos' (by omega), (nI_leI (a := b) (b := 27) (by omega) (by omega)).mpr (by omega)⟩))
  refine j_aload_n C 0 dX8_heldAsOf_22 rfl rfl ?_
  refine kg_13_heldRows C hinX8 hi (by decide +kernel) dX8_heldAsOf_23 ?_
  refine j_iload_n C 1 dX8_heldAsOf_26 rfl rfl ?_
  refine j_bipush C 28 dX8_heldAsOf_27 (by decide) ?_
  refine j_imulN C r 28 dX8_heldAsOf_29 ?_
  refine j_iload_n C 2 dX8_heldAsOf_30 rfl rfl ?_
  refine j_iaddN C (r * 28) b dX8_heldAsOf_31 ?_
  refine kl_17 C hi (r * 28 + b) rfl (by omega) dX8_heldAsOf_32 ?_
  exact j_iret C hQ dX8_heldAsOf_33 (⟨rfl, rfl⟩)

def cKp (c : Nat → Nat → Nat → Int32) (w r : Nat) : Nat → Nat → Nat → Nat → Int32
  | 0 => c
  | k + 1 => cu (cu (cKp c w r k) 14 w k 0) 17 w (r * 28 + k) (cKp c w r k 15 w k)
def cKeep (c : Nat → Nat → Nat → Int32) (w r : Nat) : Nat → Nat → Nat → Int32 := cu (cKp c w r 28) 16 w r (cKp c w r 28 13 w 3)

set_option maxHeartbeats 4000000 in
set_option maxRecDepth 100000 in
theorem cc_X8_keepFor (l : Launch) (d : jD) (ad adK adV : Nat → Nat) (al : Nat) (a : Nat → Nat → Nat) (n : Nat → Nat) (op : Option Nat) (c : Nat → Nat → Nat → Int32) (hn : nOK n) (i r : Nat) (hi : i < n 0) (hr : r < 50) : jMv (cEf ad adK adV al) d l yX8_keepFor wsX8_keepFor ({ frames := 1, cells := 0, slots := 0, locals := 22 } : Room) 0 0 [.ref (a 13 i), .int (nI r)] (cW a d n op ad c) (fun u => u = cW a d n op ad (cKeep c i r)) := by
  refine jMv.mk (cEf_k ad adK adV al) (by decide) rfl (Nat.le_of_ble_eq_true rfl) (fun X A C hQ => ?_)
  have hinX8 : ∀ w ∈ u_ws RX8 TX8 8, w ∈ wsX8_keepFor := fun w h => List.mem_cons_of_mem _ (List.mem_append_right _ h)
  refine j_lvq (lv2 := [(0, .ref (a 13 i)), (1, .int (nI r))]) rfl ?_
  have loop : ∀ fz k : Nat, k ≤ 28 → 28 - k < fz → jJ X l d A 3 0 0 (cW a d n op ad (cKp c i r k)) [(0, .ref (a 13 i)), (1, .int (nI r)), (2, .int (nI k))] 13 [] := by
    intro fz
    induction fz with
    | zero => intro k _ h; exact absurd h (Nat.not_lt_zero _)
    | succ fz ih =>
      intro k hk hfz
      refine j_iload_n C 2 dX8_keepFor_13 rfl rfl ?_
      refine j_bipush C 28 dX8_keepFor_14 (by decide) ?_
      refine j_icmp_ge C 49 dX8_keepFor_16 (by decide) (fun c16 => ?_) (fun c16 => ?_)
      · have c16 := (nI_leI (a := 28) (b := k) (by omega) (by omega)).mp c16
        obtain rfl : k = 28 := by omega
        refine j_aload_n C 0 dX8_keepFor_49 rfl rfl ?_
        refine kg_13_priceIn C hinX8 hi (by decide +kernel) dX8_keepFor_50 ?_
        refine j_iload_n C 1 dX8_keepFor_53 rfl rfl ?_
        refine j_aload_n C 0 dX8_keepFor_54 rfl rfl ?_
        refine kg_13_priceNow C hinX8 hi (by decide +kernel) dX8_keepFor_55 ?_
        refine ks_16 C hi r rfl (by omega) dX8_keepFor_58 ?_
        exact j_vret C hQ dX8_keepFor_59 rfl
      · have c16 : ¬ (28 ≤ k) := fun h => c16 ((nI_leI (a := 28) (b := k) (by omega) (by omega)).mpr h)
        refine j_aload_n C 0 dX8_keepFor_19 rfl rfl ?_
        refine kg_13_asked C hinX8 hi (by decide +kernel) dX8_keepFor_20 ?_
        refine j_iload_n C 2 dX8_keepFor_23 rfl rfl ?_
        refine j_iconst C 0 dX8_keepFor_24 (by decide) ?_
        refine ks_14 C hi k rfl (by omega) dX8_keepFor_25 ?_
        refine j_aload_n C 0 dX8_keepFor_26 rfl rfl ?_
        refine kg_13_heldRows C hinX8 hi (by decide +kernel) dX8_keepFor_27 ?_
        refine j_iload_n C 1 dX8_keepFor_30 rfl rfl ?_
        refine j_bipush C 28 dX8_keepFor_31 (by decide) ?_
        refine j_imulN C r 28 dX8_keepFor_33 ?_
        refine j_iload_n C 2 dX8_keepFor_34 rfl rfl ?_
        refine j_iaddN C (r * 28) k dX8_keepFor_35 ?_
        refine j_aload_n C 0 dX8_keepFor_36 rfl rfl ?_
        refine kg_13_held C hinX8 hi (by decide +kernel) dX8_keepFor_37 ?_
        refine j_iload_n C 2 dX8_keepFor_40 rfl rfl ?_
        refine kl_15 C hi k rfl (by omega) dX8_keepFor_41 ?_
        refine j_st (st2 := [.int (cKp c i r k 15 i k), .int (nI (r * 28 + k)), .ref (a 17 i)]) rfl ?_
        refine ks_17 C hi (r * 28 + k) rfl (by omega) dX8_keepFor_42 ?_
        refine j_iinc C (nI (k + 1)) [(0, .ref (a 13 i)), (1, .int (nI r)), (2, .int (nI (k + 1)))] 2 [1, 2, 0] dX8_keepFor_43 rfl (nI_1 k) (by decide) rfl ?_
        refine j_goto C 13 dX8_keepFor_46 (by decide) ?_
        exact ih (k + 1) (by omega) (by omega)
  refine j_iload_n C 1 dX8_keepFor_0 rfl rfl ?_
  refine j_iconst C 0 dX8_keepFor_1 (by decide) ?_
  refine j_bipush C 49 dX8_keepFor_2 (by decide) ?_
  refine j_callSN_i C 3 (cc_X9_isWithin (cEf ad adK adV al) (cEf_k ad adK adV al) l d _ (nI r) 0 49) gX8_keepFor_X9_isWithin_n37 nst_X8_37 (by decide +kernel) (by decide +kernel) rfl rfl rfl (by decide +kernel) ⟨(Nat.le_of_ble_eq_true rfl), (Nat.le_of_ble_eq_true rfl)⟩ ⟨(Nat.le_of_ble_eq_true rfl), (Nat.le_of_ble_eq_true rfl)⟩ rfl rfl (Nat.le_of_ble_eq_true rfl) dX8_keepFor_4 (fun r4 u4 h4 => ?_)
  obtain ⟨rfl, rfl⟩ := h4
  refine j_if_ne C 11 dX8_keepFor_7 (by decide) (fun c7 => ?_) (fun c7 => absurd c7 (bI_n0.mpr ⟨nI_pos' (by omega), (nI_leI (a := r) (b := 49) (by omega) (by omega)).mpr (by omega)⟩))
  refine j_iconst C 0 dX8_keepFor_11 (by decide) ?_
  refine j_istore_n C [(0, .ref (a 13 i)), (1, .int (nI r)), (2, .int 0)] [1, 2, 0] dX8_keepFor_12 rfl (by decide) rfl ?_
  exact loop _ 0 (Nat.zero_le _) (Nat.lt_succ_self _)


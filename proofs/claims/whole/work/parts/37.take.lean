def cBg (c : Nat → Nat → Nat → Int32) : Nat → Nat → Nat → Nat → Int32
  | 0 => c
  | k + 1 => cu (cBg c k) 5 0 k (-1)
def cBeg (c : Nat → Nat → Nat → Int32) : Nat → Nat → Nat → Int32 := cu (cu (cu (cu (cBg c 6) 3 0 2 0) 3 0 3 1) 3 0 5 0) 3 0 6 0
def cPf (c : Nat → Nat → Nat → Int32) : Nat → Nat → Nat → Nat → Int32
  | 0 => c
  | k + 1 => cu (cPf c k) 4 0 k (if cPf c k 5 0 k = -1 then unR k else cPf c k 5 0 k)

set_option maxHeartbeats 4000000 in
set_option maxRecDepth 100000 in
theorem cc_X6_setFault (l : Launch) (d : jD) (ad adK adV : Nat → Nat) (al : Nat) (a : Nat → Nat → Nat) (n : Nat → Nat) (op : Option Nat) (c : Nat → Nat → Nat → Int32) (hn : nOK n) (k : Int32) (p : Nat) : jMv (cEf ad adK adV al) d l yX6_setFault wsX6_setFault ({ frames := 0, cells := 0, slots := 0, locals := 0 } : Room) 0 0 [.ref (a 3 0), .int k, .int (nI p)] (cW a d n op ad c) (fun u => u = cW a d n op ad (cFt c k p)) := by
  refine jMv.mk (cEf_k ad adK adV al) (by decide) rfl (Nat.le_of_ble_eq_true rfl) (fun X A C hQ => ?_)
  have hinX6 : ∀ w ∈ u_ws RX6 TX6 7, w ∈ wsX6_setFault := fun w h => List.mem_cons_of_mem _ (List.mem_append_right _ h)
  refine j_lvq (lv2 := [(0, .ref (a 3 0)), (1, .int k), (2, .int (nI p))]) rfl ?_
  refine j_aload_n C 0 dX6_setFault_0 rfl rfl ?_
  refine j_iload_n C 1 dX6_setFault_1 rfl rfl ?_
  refine kp_3_faultKind C hinX6 (by decide +kernel) dX6_setFault_2 ?_
  refine j_aload_n C 0 dX6_setFault_5 rfl rfl ?_
  refine j_iload_n C 2 dX6_setFault_6 rfl rfl ?_
  refine kp_3_faultPlace C hinX6 (by decide +kernel) dX6_setFault_7 ?_
  exact j_vret C hQ dX6_setFault_10 rfl

set_option maxHeartbeats 4000000 in
set_option maxRecDepth 100000 in
theorem cc_X6_begin (l : Launch) (d : jD) (ad adK adV : Nat → Nat) (al : Nat) (a : Nat → Nat → Nat) (n : Nat → Nat) (op : Option Nat) (c : Nat → Nat → Nat → Int32) (hn : nOK n) : jMv (cEf ad adK adV al) d l yX6_begin wsX6_begin ({ frames := 0, cells := 0, slots := 0, locals := 0 } : Room) 0 0 [.ref (a 3 0)] (cW a d n op ad c) (fun u => u = cW a d n none ad (cBeg c)) := by
  refine jMv.mk (cEf_k ad adK adV al) (by decide) rfl (Nat.le_of_ble_eq_true rfl) (fun X A C hQ => ?_)
  have hinX6 : ∀ w ∈ u_ws RX6 TX6 7, w ∈ wsX6_begin := fun w h => List.mem_cons_of_mem _ (List.mem_append_right _ h)
  refine j_lvq (lv2 := [(0, .ref (a 3 0))]) rfl ?_
  have loop : ∀ fz i : Nat, i ≤ 6 → 6 - i < fz → jJ X l d A 2 0 0 (cW a d n op ad (cBg c i)) [(0, .ref (a 3 0)), (1, .int (nI i))] 2 [] := by
    intro fz
    induction fz with
    | zero => intro i _ h; exact absurd h (Nat.not_lt_zero _)
    | succ fz ih =>
      intro i hi hfz
      refine j_iload_n C 1 dX6_begin_2 rfl rfl ?_
      refine j_aload_n C 0 dX6_begin_3 rfl rfl ?_
      refine kg_3_told C hinX6 (by decide +kernel) dX6_begin_4 ?_
      refine kn_5 C dX6_begin_7 ?_
      refine j_icmp_ge C 24 dX6_begin_8 (by decide) (fun c8 => ?_) (fun c8 => ?_)
      · have c8 := (nI_leI (a := 6) (b := i) (by omega) (by omega)).mp c8
        obtain rfl : i = 6 := by omega
        refine j_aload_n C 0 dX6_begin_24 rfl rfl ?_
        refine j_iconst C 0 dX6_begin_25 (by decide) ?_
        refine kp_3_toldCount C hinX6 (by decide +kernel) dX6_begin_26 ?_
        refine j_aload_n C 0 dX6_begin_29 rfl rfl ?_
        refine j_iconst C 1 dX6_begin_30 (by decide) ?_
        refine kp_3_awaited C hinX6 (by decide +kernel) dX6_begin_31 ?_
        refine j_aload_n C 0 dX6_begin_34 rfl rfl ?_
        refine j_null C dX6_begin_35 ?_
        refine kp_3_open C none hinX6 (by decide +kernel) dX6_begin_36 ?_
        refine j_aload_n C 0 dX6_begin_39 rfl rfl ?_
        refine j_iconst C 0 dX6_begin_40 (by decide) ?_
        refine kp_3_faultKind C hinX6 (by decide +kernel) dX6_begin_41 ?_
        refine j_aload_n C 0 dX6_begin_44 rfl rfl ?_
        refine j_iconst C 0 dX6_begin_45 (by decide) ?_
        refine kp_3_faultPlace C hinX6 (by decide +kernel) dX6_begin_46 ?_
        exact j_vret C hQ dX6_begin_49 rfl
      · have c8 : ¬ (6 ≤ i) := fun h => c8 ((nI_leI (a := 6) (b := i) (by omega) (by omega)).mpr h)
        refine j_aload_n C 0 dX6_begin_11 rfl rfl ?_
        refine kg_3_told C hinX6 (by decide +kernel) dX6_begin_12 ?_
        refine j_iload_n C 1 dX6_begin_15 rfl rfl ?_
        refine j_iconst C (-1) dX6_begin_16 (by decide) ?_
        refine ks_5 C i rfl (by omega) dX6_begin_17 ?_
        refine j_iinc C (nI (i + 1)) [(0, .ref (a 3 0)), (1, .int (nI (i + 1)))] 1 [1, 0] dX6_begin_18 rfl (nI_1 i) (by decide) rfl ?_
        refine j_goto C 2 dX6_begin_21 (by decide) ?_
        exact ih (i + 1) (by omega) (by omega)
  refine j_iconst C 0 dX6_begin_0 (by decide) ?_
  refine j_istore_n C [(0, .ref (a 3 0)), (1, .int 0)] [1, 0] dX6_begin_1 rfl (by decide) rfl ?_
  exact loop _ 0 (Nat.zero_le _) (Nat.lt_succ_self _)

set_option maxHeartbeats 4000000 in
set_option maxRecDepth 100000 in
theorem cc_X6_putInForce (l : Launch) (d : jD) (ad adK adV : Nat → Nat) (al : Nat) (a : Nat → Nat → Nat) (n : Nat → Nat) (op : Option Nat) (c : Nat → Nat → Nat → Int32) (hn : nOK n) : jMv (cEf ad adK adV al) d l yX6_putInForce wsX6_putInForce ({ frames := 0, cells := 0, slots := 0, locals := 0 } : Room) 0 0 [.ref (a 3 0)] (cW a d n op ad c) (fun u => u = cW a d n op ad (cPf c 6)) := by
  refine jMv.mk (cEf_k ad adK adV al) (by decide) rfl (Nat.le_of_ble_eq_true rfl) (fun X A C hQ => ?_)
  have hinX6 : ∀ w ∈ u_ws RX6 TX6 7, w ∈ wsX6_putInForce := fun w h => List.mem_cons_of_mem _ (List.mem_append_right _ h)
  refine j_lvq (lv2 := [(0, .ref (a 3 0))]) rfl ?_
  have loop : ∀ fz i : Nat, i ≤ 6 → 6 - i < fz → jJ X l d A 5 0 0 (cW a d n op ad (cPf c i)) [(0, .ref (a 3 0)), (1, .ref al), (2, .int 6), (3, .int (nI i))] 9 [] := by
    intro fz
    induction fz with
    | zero => intro i _ h; exact absurd h (Nat.not_lt_zero _)
    | succ fz ih =>
      intro i hi hfz
      refine j_iload_n C 3 dX6_putInForce_9 rfl rfl ?_
      refine j_iload_n C 2 dX6_putInForce_10 rfl rfl ?_
      refine j_icmp_ge C 67 dX6_putInForce_11 (by decide) (fun c11 => ?_) (fun c11 => ?_)
      · have c11 := (nI_leI (a := 6) (b := i) (by omega) (by omega)).mp c11
        obtain rfl : i = 6 := by omega
        exact j_vret C hQ dX6_putInForce_67 rfl
      · have c11 : ¬ (6 ≤ i) := fun h => c11 ((nI_leI (a := 6) (b := i) (by omega) (by omega)).mpr h)
        refine j_aload_n C 1 dX6_putInForce_14 rfl rfl ?_
        refine j_iload_n C 3 dX6_putInForce_15 rfl rfl ?_
        refine je_ald C i (by omega) dX6_putInForce_16 ?_
        refine j_astore C [(0, .ref (a 3 0)), (1, .ref al), (2, .int 6), (3, .int (nI i)), (4, .ref (ad i))] [1, 2, 3, 4, 0] dX6_putInForce_17 (by decide) rfl ?_
        refine j_aload_n C 0 dX6_putInForce_19 rfl rfl ?_
        refine kg_3_values C hinX6 (by decide +kernel) dX6_putInForce_20 ?_
        refine j_aload C 4 dX6_putInForce_23 rfl ?_
        refine je_get C i 0 (by omega) rfl nst_X6_24 dX6_putInForce_25 ?_
        refine j_st (st2 := [.int (nI i), .ref (a 4 0)]) (congrArg (fun z => Value.int z :: _) (numR (by omega))) ?_
        refine j_aload_n C 0 dX6_putInForce_28 rfl rfl ?_
        refine kg_3_told C hinX6 (by decide +kernel) dX6_putInForce_29 ?_
        refine j_aload C 4 dX6_putInForce_32 rfl ?_
        refine je_get C i 0 (by omega) rfl nst_X6_24 dX6_putInForce_34 ?_
        refine j_st (st2 := [.int (nI i), .ref (a 5 0), .int (nI i), .ref (a 4 0)]) (congrArg (fun z => Value.int z :: _) (numR (by omega))) ?_
        refine kl_5 C i rfl (by omega) dX6_putInForce_37 ?_
        refine j_iconst C (-1) dX6_putInForce_38 (by decide) ?_
        refine j_icmp_ne C 50 dX6_putInForce_39 (by decide) (fun c39 => ?_) (fun c39 => ?_)
        · refine j_aload_n C 0 dX6_putInForce_50 rfl rfl ?_
          refine kg_3_told C hinX6 (by decide +kernel) dX6_putInForce_51 ?_
          refine j_aload C 4 dX6_putInForce_54 rfl ?_
          refine je_get C i 0 (by omega) rfl nst_X6_24 dX6_putInForce_56 ?_
          refine j_st (st2 := [.int (nI i), .ref (a 5 0), .int (nI i), .ref (a 4 0)]) (congrArg (fun z => Value.int z :: _) (numR (by omega))) ?_
          refine kl_5 C i rfl (by omega) dX6_putInForce_59 ?_
          refine ks_4 C i rfl (by omega) dX6_putInForce_60 ?_
          refine j_iinc C (nI (i + 1)) [(0, .ref (a 3 0)), (1, .ref al), (2, .int 6), (3, .int (nI (i + 1))), (4, .ref (ad i))] 3 [1, 2, 3, 0, 4] dX6_putInForce_61 rfl (nI_1 i) (by decide) rfl ?_
          refine j_goto C 9 dX6_putInForce_64 (by decide) ?_
          refine j_lv [0, 1, 2, 3] rfl ?_
          refine j_ws (ws2 := cW a d n op ad (cPf c (i + 1))) (by rw [cPf, if_neg c39]) ?_
          exact ih (i + 1) (by omega) (by omega)
        · refine j_aload C 4 dX6_putInForce_42 rfl ?_
          refine je_get C i 3 (by omega) rfl nst_X6_28 dX6_putInForce_44 ?_
          refine j_goto C 60 dX6_putInForce_47 (by decide) ?_
          refine ks_4 C i rfl (by omega) dX6_putInForce_60 ?_
          refine j_iinc C (nI (i + 1)) [(0, .ref (a 3 0)), (1, .ref al), (2, .int 6), (3, .int (nI (i + 1))), (4, .ref (ad i))] 3 [1, 2, 3, 0, 4] dX6_putInForce_61 rfl (nI_1 i) (by decide) rfl ?_
          refine j_goto C 9 dX6_putInForce_64 (by decide) ?_
          refine j_lv [0, 1, 2, 3] rfl ?_
          refine j_ws (ws2 := cW a d n op ad (cPf c (i + 1))) (by rw [cPf, if_pos c39]) ?_
          exact ih (i + 1) (by omega) (by omega)
  refine je_all C nst_X6_9 dX6_putInForce_0 ?_
  refine j_astore_n C [(0, .ref (a 3 0)), (1, .ref al)] [1, 0] dX6_putInForce_3 rfl (by decide) rfl ?_
  refine j_aload_n C 1 dX6_putInForce_4 rfl rfl ?_
  refine je_len C dX6_putInForce_5 ?_
  refine j_istore_n C [(0, .ref (a 3 0)), (1, .ref al), (2, .int 6)] [1, 2, 0] dX6_putInForce_6 rfl (by decide) rfl ?_
  refine j_iconst C 0 dX6_putInForce_7 (by decide) ?_
  refine j_istore_n C [(0, .ref (a 3 0)), (1, .ref al), (2, .int 6), (3, .int 0)] [1, 2, 3, 0] dX6_putInForce_8 rfl (by decide) rfl ?_
  exact loop _ 0 (Nat.zero_le _) (Nat.lt_succ_self _)

set_option maxHeartbeats 4000000 in
set_option maxRecDepth 100000 in
theorem cc_X6_takeWord (l : Launch) (d : jD) (ad adK adV : Nat → Nat) (al : Nat) (a : Nat → Nat → Nat) (n : Nat → Nat) (op : Option Nat) (c : Nat → Nat → Nat → Int32) (hn : nOK n) (tp : Nat) (hT : c 1 0 1 = nI tp) (htp : tp ≤ 140) (p e : Nat) (hp : p < e) (he : e ≤ tp) : jMv (cEf ad adK adV al) d l yX6_takeWord wsX6_takeWord ({ frames := 6, cells := 0, slots := 0, locals := 135 } : Room) 0 0 [.ref (a 3 0), .ref (a 1 0), .int (nI p), .int (nI e)] (cW a d n op ad c) (fun u => u = cW a d n (zTW c tp p e).1 ad (zTW c tp p e).2) := by
  refine jMv.mk (cEf_k ad adK adV al) (by decide) rfl (Nat.le_of_ble_eq_true rfl) (fun X A C hQ => ?_)
  have hinX6 : ∀ w ∈ u_ws RX6 TX6 7, w ∈ wsX6_takeWord := fun w h => List.mem_cons_of_mem _ (List.mem_append_left _ (List.mem_append_right _ h))
  refine j_lvq (lv2 := [(0, .ref (a 3 0)), (1, .ref (a 1 0)), (2, .int (nI p)), (3, .int (nI e))]) rfl ?_
  refine j_aload_n C 0 dX6_takeWord_0 rfl rfl ?_
  refine j_aload_n C 1 dX6_takeWord_1 rfl rfl ?_
  refine j_iload_n C 2 dX6_takeWord_2 rfl rfl ?_
  refine j_iload_n C 3 dX6_takeWord_3 rfl rfl ?_
  refine j_callS_q C 3 (cc_X6_ruleOf l d ad adK adV al a n op c hn tp hT htp p e hp he) gX6_takeWord_X6_ruleOf rfl rfl rfl (by decide +kernel) ⟨(Nat.le_of_ble_eq_true rfl), (Nat.le_of_ble_eq_true rfl)⟩ ⟨(Nat.le_of_ble_eq_true rfl), (Nat.le_of_ble_eq_true rfl)⟩ rfl rfl (Nat.le_of_ble_eq_true rfl) dX6_takeWord_4 (fun r4 u4 h4 => ?_)
  obtain ⟨rfl, rfl⟩ := h4
  cases hO : rF c tp p e 6 0 with
  | none =>
    refine j_st (st2 := [.null, .ref (a 3 0)]) rfl ?_
    refine kp_3_open C none hinX6 (by decide +kernel) dX6_takeWord_7 ?_
    refine j_aload_n C 0 dX6_takeWord_10 rfl rfl ?_
    refine kg_3_open C hinX6 (by decide +kernel) dX6_takeWord_11 ?_
    refine j_st (st2 := [.null]) rfl ?_
    refine j_ifnonnullN C dX6_takeWord_14 ?_
    refine j_aload_n C 0 dX6_takeWord_17 rfl rfl ?_
    refine j_iconst C 1 dX6_takeWord_18 (by decide) ?_
    refine j_iload_n C 2 dX6_takeWord_19 rfl rfl ?_
    refine j_callV_v C 2 3 (cc_X6_setFault l d ad adK adV al a n none c hn 1 p) cG_3 rfl gX6_takeWord_X6_setFault rfl rfl rfl (by decide +kernel) ⟨(Nat.le_of_ble_eq_true rfl), (Nat.le_of_ble_eq_true rfl)⟩ ⟨(Nat.le_of_ble_eq_true rfl), (Nat.le_of_ble_eq_true rfl)⟩ rfl rfl (Nat.le_of_ble_eq_true rfl) dX6_takeWord_20 (fun u20 h20 => ?_)
    obtain rfl := h20
    refine j_goto C 56 dX6_takeWord_23 (by decide) ?_
    exact j_vret C hQ dX6_takeWord_56 (by rw [zTW, hO])
  | some i0 =>
    have hi0 : i0 < 6 := by have := rF_lt 6 0 hO; omega
    refine j_st (st2 := [.ref (ad i0), .ref (a 3 0)]) rfl ?_
    refine kp_3_open C (some i0) hinX6 (by decide +kernel) dX6_takeWord_7 ?_
    refine j_aload_n C 0 dX6_takeWord_10 rfl rfl ?_
    refine kg_3_open C hinX6 (by decide +kernel) dX6_takeWord_11 ?_
    refine j_st (st2 := [.ref (ad i0)]) rfl ?_
    refine j_ifnonnull C 26 dX6_takeWord_14 (by decide) ?_
    refine j_aload_n C 0 dX6_takeWord_26 rfl rfl ?_
    refine kg_3_told C hinX6 (by decide +kernel) dX6_takeWord_27 ?_
    refine j_aload_n C 0 dX6_takeWord_30 rfl rfl ?_
    refine kg_3_open C hinX6 (by decide +kernel) dX6_takeWord_31 ?_
    refine j_st (st2 := [.ref (ad i0), .ref (a 5 0)]) rfl ?_
    refine je_get C i0 0 hi0 rfl nst_X6_24 dX6_takeWord_34 ?_
    refine j_st (st2 := [.int (nI i0), .ref (a 5 0)]) (congrArg (fun z => Value.int z :: _) (numR hi0)) ?_
    refine kl_5 C i0 rfl (by omega) dX6_takeWord_37 ?_
    refine j_iconst C (-1) dX6_takeWord_38 (by decide) ?_
    refine j_icmp_eq C 51 dX6_takeWord_39 (by decide) (fun c39 => ?_) (fun c39 => ?_)
    · refine j_aload_n C 0 dX6_takeWord_51 rfl rfl ?_
      refine j_iconst C 2 dX6_takeWord_52 (by decide) ?_
      refine kp_3_awaited C hinX6 (by decide +kernel) dX6_takeWord_53 ?_
      exact j_vret C hQ dX6_takeWord_56 (by rw [zTW, hO]; dsimp only; rw [if_pos c39])
    · refine j_aload_n C 0 dX6_takeWord_42 rfl rfl ?_
      refine j_iconst C 3 dX6_takeWord_43 (by decide) ?_
      refine j_iload_n C 2 dX6_takeWord_44 rfl rfl ?_
      refine j_callV_v C 2 3 (cc_X6_setFault l d ad adK adV al a n (some i0) c hn 3 p) cG_3 rfl gX6_takeWord_X6_setFault rfl rfl rfl (by decide +kernel) ⟨(Nat.le_of_ble_eq_true rfl), (Nat.le_of_ble_eq_true rfl)⟩ ⟨(Nat.le_of_ble_eq_true rfl), (Nat.le_of_ble_eq_true rfl)⟩ rfl rfl (Nat.le_of_ble_eq_true rfl) dX6_takeWord_45 (fun u45 h45 => ?_)
      obtain rfl := h45
      refine j_goto C 56 dX6_takeWord_48 (by decide) ?_
      exact j_vret C hQ dX6_takeWord_56 (by rw [zTW, hO]; dsimp only; rw [if_neg c39])

set_option maxHeartbeats 4000000 in
set_option maxRecDepth 100000 in
theorem cc_X6_takeNumber_none (l : Launch) (d : jD) (ad adK adV : Nat → Nat) (al : Nat) (a : Nat → Nat → Nat) (n : Nat → Nat) (c : Nat → Nat → Nat → Int32) (hn : nOK n) (tp : Nat) (hT : c 1 0 1 = nI tp) (htp : tp ≤ 140) (p e : Nat) (hp : p < e) (he : e ≤ tp) : jMv (cEf ad adK adV al) d l yX6_takeNumber wsX6_takeNumber ({ frames := 1, cells := 0, slots := 0, locals := 22 } : Room) 0 0 [.ref (a 3 0), .ref (a 1 0), .int (nI p), .int (nI e)] (cW a d n none ad c) (fun u => u = cW a d n (zTN none c tp p e).1 ad (zTN none c tp p e).2) := by
  refine jMv.mk (cEf_k ad adK adV al) (by decide) rfl (Nat.le_of_ble_eq_true rfl) (fun X A C hQ => ?_)
  have hinX6 : ∀ w ∈ u_ws RX6 TX6 7, w ∈ wsX6_takeNumber := fun w h => List.mem_cons_of_mem _ (List.mem_append_left _ (List.mem_append_right _ h))
  refine j_lvq (lv2 := [(0, .ref (a 3 0)), (1, .ref (a 1 0)), (2, .int (nI p)), (3, .int (nI e))]) rfl ?_
  have loop : ∀ fz k : Nat, k ≤ e - p → e - p - k < fz → jJ X l d A 6 0 0 (cW a d n none ad c) [(0, .ref (a 3 0)), (1, .ref (a 1 0)), (2, .int (nI p)), (3, .int (nI e)), (4, .int (nmb c tp p k)), (5, .int (nI (p + k)))] 6 [] := by
    intro fz
    induction fz with
    | zero => intro k _ h; exact absurd h (Nat.not_lt_zero _)
    | succ fz ih =>
      intro k hk hfz
      refine j_iload C 5 dX6_takeNumber_6 rfl ?_
      refine j_iload_n C 3 dX6_takeNumber_8 rfl rfl ?_
      refine j_icmp_ge C 35 dX6_takeNumber_9 (by decide) (fun c9 => ?_) (fun c9 => ?_)
      · have c9 := (nI_leI (a := e) (b := p + k) (by omega) (by omega)).mp c9
        obtain rfl : k = e - p := by omega
        refine j_aload_n C 0 dX6_takeNumber_35 rfl rfl ?_
        refine kg_3_open C hinX6 (by decide +kernel) dX6_takeNumber_36 ?_
        refine j_st (st2 := [.null]) rfl ?_
        refine j_ifnullN C 64 dX6_takeNumber_39 (by decide) ?_
        refine j_aload_n C 0 dX6_takeNumber_64 rfl rfl ?_
        refine j_iconst C 2 dX6_takeNumber_65 (by decide) ?_
        refine j_iload_n C 2 dX6_takeNumber_66 rfl rfl ?_
        refine j_callV_v C 2 3 (cc_X6_setFault l d ad adK adV al a n none c hn 2 p) cG_3 rfl gX6_takeNumber_X6_setFault rfl rfl rfl (by decide +kernel) ⟨(Nat.le_of_ble_eq_true rfl), (Nat.le_of_ble_eq_true rfl)⟩ ⟨(Nat.le_of_ble_eq_true rfl), (Nat.le_of_ble_eq_true rfl)⟩ rfl rfl (Nat.le_of_ble_eq_true rfl) dX6_takeNumber_67 (fun u67 h67 => ?_)
        obtain rfl := h67
        refine j_goto C 102 dX6_takeNumber_70 (by decide) ?_
        exact j_vret C hQ dX6_takeNumber_102 (by rw [zTN])
      · have c9 : ¬ (e ≤ (p + k)) := fun h => c9 ((nI_leI (a := e) (b := p + k) (by omega) (by omega)).mpr h)
        refine j_iload C 4 dX6_takeNumber_12 rfl ?_
        refine j_bipush C 10 dX6_takeNumber_14 (by decide) ?_
        refine j_imul C dX6_takeNumber_16 ?_
        refine j_aload_n C 1 dX6_takeNumber_17 rfl rfl ?_
        refine j_iload C 5 dX6_takeNumber_18 rfl ?_
        refine j_callV_i C 1 1 (cc_X7_at l d ad adK adV al a n none c hn (p + k) tp (by omega) hT htp) cG_1 rfl gX6_takeNumber_X7_at rfl rfl rfl (by decide +kernel) ⟨(Nat.le_of_ble_eq_true rfl), (Nat.le_of_ble_eq_true rfl)⟩ ⟨(Nat.le_of_ble_eq_true rfl), (Nat.le_of_ble_eq_true rfl)⟩ rfl rfl (Nat.le_of_ble_eq_true rfl) dX6_takeNumber_20 (fun r20 u20 h20 => ?_)
        obtain ⟨rfl, rfl⟩ := h20
        refine j_iadd C dX6_takeNumber_23 ?_
        refine j_bipush C 48 dX6_takeNumber_24 (by decide) ?_
        refine j_isub C dX6_takeNumber_26 ?_
        refine j_istore C [(0, .ref (a 3 0)), (1, .ref (a 1 0)), (2, .int (nI p)), (3, .int (nI e)), (4, .int ((((nmb c tp p k) * 10) + (cAt c tp (p + k))) - 48)), (5, .int (nI (p + k)))] [1, 2, 3, 4, 0, 5] dX6_takeNumber_27 (by decide) rfl ?_
        refine j_iinc C (nI (p + k + 1)) [(0, .ref (a 3 0)), (1, .ref (a 1 0)), (2, .int (nI p)), (3, .int (nI e)), (4, .int ((((nmb c tp p k) * 10) + (cAt c tp (p + k))) - 48)), (5, .int (nI (p + k + 1)))] 5 [1, 2, 3, 4, 5, 0] dX6_takeNumber_29 rfl (nI_1 (p + k)) (by decide) rfl ?_
        refine j_goto C 6 dX6_takeNumber_32 (by decide) ?_
        exact ih (k + 1) (by omega) (by omega)
  refine j_iconst C 0 dX6_takeNumber_0 (by decide) ?_
  refine j_istore C [(0, .ref (a 3 0)), (1, .ref (a 1 0)), (2, .int (nI p)), (3, .int (nI e)), (4, .int 0)] [1, 2, 3, 4, 0] dX6_takeNumber_1 (by decide) rfl ?_
  refine j_iload_n C 2 dX6_takeNumber_3 rfl rfl ?_
  refine j_istore C [(0, .ref (a 3 0)), (1, .ref (a 1 0)), (2, .int (nI p)), (3, .int (nI e)), (4, .int 0), (5, .int (nI p))] [1, 2, 3, 4, 5, 0] dX6_takeNumber_4 (by decide) rfl ?_
  exact loop _ 0 (Nat.zero_le _) (Nat.lt_succ_self _)

set_option maxHeartbeats 4000000 in
set_option maxRecDepth 100000 in
theorem cc_X6_takeNumber_some (l : Launch) (d : jD) (ad adK adV : Nat → Nat) (al : Nat) (a : Nat → Nat → Nat) (n : Nat → Nat) (c : Nat → Nat → Nat → Int32) (hn : nOK n) (tp : Nat) (hT : c 1 0 1 = nI tp) (htp : tp ≤ 140) (i0 : Nat) (hi0 : i0 < 6) (p e : Nat) (hp : p < e) (he : e ≤ tp) : jMv (cEf ad adK adV al) d l yX6_takeNumber wsX6_takeNumber ({ frames := 1, cells := 0, slots := 0, locals := 22 } : Room) 0 0 [.ref (a 3 0), .ref (a 1 0), .int (nI p), .int (nI e)] (cW a d n (some i0) ad c) (fun u => u = cW a d n (zTN (some i0) c tp p e).1 ad (zTN (some i0) c tp p e).2) := by
  refine jMv.mk (cEf_k ad adK adV al) (by decide) rfl (Nat.le_of_ble_eq_true rfl) (fun X A C hQ => ?_)
  have hinX6 : ∀ w ∈ u_ws RX6 TX6 7, w ∈ wsX6_takeNumber := fun w h => List.mem_cons_of_mem _ (List.mem_append_left _ (List.mem_append_right _ h))
  refine j_lvq (lv2 := [(0, .ref (a 3 0)), (1, .ref (a 1 0)), (2, .int (nI p)), (3, .int (nI e))]) rfl ?_
  have loop : ∀ fz k : Nat, k ≤ e - p → e - p - k < fz → jJ X l d A 6 0 0 (cW a d n (some i0) ad c) [(0, .ref (a 3 0)), (1, .ref (a 1 0)), (2, .int (nI p)), (3, .int (nI e)), (4, .int (nmb c tp p k)), (5, .int (nI (p + k)))] 6 [] := by
    intro fz
    induction fz with
    | zero => intro k _ h; exact absurd h (Nat.not_lt_zero _)
    | succ fz ih =>
      intro k hk hfz
      refine j_iload C 5 dX6_takeNumber_6 rfl ?_
      refine j_iload_n C 3 dX6_takeNumber_8 rfl rfl ?_
      refine j_icmp_ge C 35 dX6_takeNumber_9 (by decide) (fun c9 => ?_) (fun c9 => ?_)
      · have c9 := (nI_leI (a := e) (b := p + k) (by omega) (by omega)).mp c9
        obtain rfl : k = e - p := by omega
        refine j_aload_n C 0 dX6_takeNumber_35 rfl rfl ?_
        refine kg_3_open C hinX6 (by decide +kernel) dX6_takeNumber_36 ?_
        refine j_st (st2 := [.ref (ad i0)]) rfl ?_
        refine j_ifnull C dX6_takeNumber_39 ?_
        refine j_iload C 4 dX6_takeNumber_42 rfl ?_
        refine j_aload_n C 0 dX6_takeNumber_44 rfl rfl ?_
        refine kg_3_open C hinX6 (by decide +kernel) dX6_takeNumber_45 ?_
        refine j_st (st2 := [.ref (ad i0), .int (nmb c tp p (e - p))]) rfl ?_
        refine je_get C i0 1 hi0 rfl nst_X6_101 dX6_takeNumber_48 ?_
        refine j_aload_n C 0 dX6_takeNumber_51 rfl rfl ?_
        refine kg_3_open C hinX6 (by decide +kernel) dX6_takeNumber_52 ?_
        refine j_st (st2 := [.ref (ad i0), .int (loR i0), .int (nmb c tp p (e - p))]) rfl ?_
        refine je_get C i0 2 hi0 rfl nst_X6_104 dX6_takeNumber_55 ?_
        refine j_callSN_i C 3 (cc_X9_isWithin (cEf ad adK adV al) (cEf_k ad adK adV al) l d _ (nmb c tp p (e - p)) (loR i0) (hiR i0)) gX6_takeNumber_X9_isWithin_n107 nst_X6_107 (by decide +kernel) (by decide +kernel) rfl rfl rfl (by decide +kernel) ⟨(Nat.le_of_ble_eq_true rfl), (Nat.le_of_ble_eq_true rfl)⟩ ⟨(Nat.le_of_ble_eq_true rfl), (Nat.le_of_ble_eq_true rfl)⟩ rfl rfl (Nat.le_of_ble_eq_true rfl) dX6_takeNumber_58 (fun r58 u58 h58 => ?_)
        obtain ⟨rfl, rfl⟩ := h58
        refine j_if_ne C 73 dX6_takeNumber_61 (by decide) (fun c61 => ?_) (fun c61 => ?_)
        · refine j_aload_n C 0 dX6_takeNumber_73 rfl rfl ?_
          refine kg_3_told C hinX6 (by decide +kernel) dX6_takeNumber_74 ?_
          refine j_aload_n C 0 dX6_takeNumber_77 rfl rfl ?_
          refine kg_3_open C hinX6 (by decide +kernel) dX6_takeNumber_78 ?_
          refine j_st (st2 := [.ref (ad i0), .ref (a 5 0)]) rfl ?_
          refine je_get C i0 0 hi0 rfl nst_X6_24 dX6_takeNumber_81 ?_
          refine j_st (st2 := [.int (nI i0), .ref (a 5 0)]) (congrArg (fun z => Value.int z :: _) (numR hi0)) ?_
          refine j_iload C 4 dX6_takeNumber_84 rfl ?_
          refine ks_5 C i0 rfl (by omega) dX6_takeNumber_86 ?_
          refine j_aload_n C 0 dX6_takeNumber_87 rfl rfl ?_
          refine j_dup C dX6_takeNumber_88 rfl ?_
          refine kg_3_toldCount C hinX6 (by decide +kernel) dX6_takeNumber_89 ?_
          refine j_st (st2 := [.int (c 3 0 2), .ref (a 3 0)]) rfl ?_
          refine j_iconst C 1 dX6_takeNumber_92 (by decide) ?_
          refine j_iadd C dX6_takeNumber_93 ?_
          refine kp_3_toldCount C hinX6 (by decide +kernel) dX6_takeNumber_94 ?_
          refine j_aload_n C 0 dX6_takeNumber_97 rfl rfl ?_
          refine j_iconst C 3 dX6_takeNumber_98 (by decide) ?_
          refine kp_3_awaited C hinX6 (by decide +kernel) dX6_takeNumber_99 ?_
          exact j_vret C hQ dX6_takeNumber_102 (by rw [zTN]; rw [if_pos (bI_n0.mp c61)])
        · refine j_aload_n C 0 dX6_takeNumber_64 rfl rfl ?_
          refine j_iconst C 2 dX6_takeNumber_65 (by decide) ?_
          refine j_iload_n C 2 dX6_takeNumber_66 rfl rfl ?_
          refine j_callV_v C 2 3 (cc_X6_setFault l d ad adK adV al a n (some i0) c hn 2 p) cG_3 rfl gX6_takeNumber_X6_setFault rfl rfl rfl (by decide +kernel) ⟨(Nat.le_of_ble_eq_true rfl), (Nat.le_of_ble_eq_true rfl)⟩ ⟨(Nat.le_of_ble_eq_true rfl), (Nat.le_of_ble_eq_true rfl)⟩ rfl rfl (Nat.le_of_ble_eq_true rfl) dX6_takeNumber_67 (fun u67 h67 => ?_)
          obtain rfl := h67
          refine j_goto C 102 dX6_takeNumber_70 (by decide) ?_
          exact j_vret C hQ dX6_takeNumber_102 (by rw [zTN]; rw [if_neg (bI_0.mp c61)])
      · have c9 : ¬ (e ≤ (p + k)) := fun h => c9 ((nI_leI (a := e) (b := p + k) (by omega) (by omega)).mpr h)
        refine j_iload C 4 dX6_takeNumber_12 rfl ?_
        refine j_bipush C 10 dX6_takeNumber_14 (by decide) ?_
        refine j_imul C dX6_takeNumber_16 ?_
        refine j_aload_n C 1 dX6_takeNumber_17 rfl rfl ?_
        refine j_iload C 5 dX6_takeNumber_18 rfl ?_
        refine j_callV_i C 1 1 (cc_X7_at l d ad adK adV al a n (some i0) c hn (p + k) tp (by omega) hT htp) cG_1 rfl gX6_takeNumber_X7_at rfl rfl rfl (by decide +kernel) ⟨(Nat.le_of_ble_eq_true rfl), (Nat.le_of_ble_eq_true rfl)⟩ ⟨(Nat.le_of_ble_eq_true rfl), (Nat.le_of_ble_eq_true rfl)⟩ rfl rfl (Nat.le_of_ble_eq_true rfl) dX6_takeNumber_20 (fun r20 u20 h20 => ?_)
        obtain ⟨rfl, rfl⟩ := h20
        refine j_iadd C dX6_takeNumber_23 ?_
        refine j_bipush C 48 dX6_takeNumber_24 (by decide) ?_
        refine j_isub C dX6_takeNumber_26 ?_
        refine j_istore C [(0, .ref (a 3 0)), (1, .ref (a 1 0)), (2, .int (nI p)), (3, .int (nI e)), (4, .int ((((nmb c tp p k) * 10) + (cAt c tp (p + k))) - 48)), (5, .int (nI (p + k)))] [1, 2, 3, 4, 0, 5] dX6_takeNumber_27 (by decide) rfl ?_
        refine j_iinc C (nI (p + k + 1)) [(0, .ref (a 3 0)), (1, .ref (a 1 0)), (2, .int (nI p)), (3, .int (nI e)), (4, .int ((((nmb c tp p k) * 10) + (cAt c tp (p + k))) - 48)), (5, .int (nI (p + k + 1)))] 5 [1, 2, 3, 4, 5, 0] dX6_takeNumber_29 rfl (nI_1 (p + k)) (by decide) rfl ?_
        refine j_goto C 6 dX6_takeNumber_32 (by decide) ?_
        exact ih (k + 1) (by omega) (by omega)
  refine j_iconst C 0 dX6_takeNumber_0 (by decide) ?_
  refine j_istore C [(0, .ref (a 3 0)), (1, .ref (a 1 0)), (2, .int (nI p)), (3, .int (nI e)), (4, .int 0)] [1, 2, 3, 4, 0] dX6_takeNumber_1 (by decide) rfl ?_
  refine j_iload_n C 2 dX6_takeNumber_3 rfl rfl ?_
  refine j_istore C [(0, .ref (a 3 0)), (1, .ref (a 1 0)), (2, .int (nI p)), (3, .int (nI e)), (4, .int 0), (5, .int (nI p))] [1, 2, 3, 4, 5, 0] dX6_takeNumber_4 (by decide) rfl ?_
  exact loop _ 0 (Nat.zero_le _) (Nat.lt_succ_self _)

theorem cc_X6_takeNumber (l : Launch) (d : jD) (ad adK adV : Nat → Nat) (al : Nat) (a : Nat → Nat → Nat) (n : Nat → Nat) (op : Option Nat) (c : Nat → Nat → Nat → Int32) (hn : nOK n) (tp : Nat) (hT : c 1 0 1 = nI tp) (htp : tp ≤ 140) (ho : ∀ i, op = some i → i < 6) (p e : Nat) (hp : p < e) (he : e ≤ tp) : jMv (cEf ad adK adV al) d l yX6_takeNumber wsX6_takeNumber ({ frames := 1, cells := 0, slots := 0, locals := 22 } : Room) 0 0 [.ref (a 3 0), .ref (a 1 0), .int (nI p), .int (nI e)] (cW a d n op ad c) (fun u => u = cW a d n (zTN op c tp p e).1 ad (zTN op c tp p e).2) := by
  cases op with
  | none => exact cc_X6_takeNumber_none l d ad adK adV al a n c hn tp hT htp p e hp he
  | some i0 => exact cc_X6_takeNumber_some l d ad adK adV al a n c hn tp hT htp i0 (ho i0 rfl) p e hp he

set_option maxHeartbeats 4000000 in
set_option maxRecDepth 100000 in
theorem cc_X6_takeToken (l : Launch) (d : jD) (ad adK adV : Nat → Nat) (al : Nat) (a : Nat → Nat → Nat) (n : Nat → Nat) (op : Option Nat) (c : Nat → Nat → Nat → Int32) (hn : nOK n) (tp : Nat) (hT : c 1 0 1 = nI tp) (htp : tp ≤ 140) (ho : ∀ i, op = some i → i < 6) (p e : Nat) (hp : p < e) (he : e ≤ tp) : jMv (cEf ad adK adV al) d l yX6_takeToken wsX6_takeToken ({ frames := 7, cells := 0, slots := 0, locals := 158 } : Room) 0 0 [.ref (a 3 0), .ref (a 1 0), .int (nI p), .int (nI e)] (cW a d n op ad c) (fun u => u = cW a d n (zTT op c tp p e).1 ad (zTT op c tp p e).2) := by
  refine jMv.mk (cEf_k ad adK adV al) (by decide) rfl (Nat.le_of_ble_eq_true rfl) (fun X A C hQ => ?_)
  have hinX6 : ∀ w ∈ u_ws RX6 TX6 7, w ∈ wsX6_takeToken := fun w h => List.mem_cons_of_mem _ (List.mem_append_left _ (List.mem_append_right _ h))
  refine j_lvq (lv2 := [(0, .ref (a 3 0)), (1, .ref (a 1 0)), (2, .int (nI p)), (3, .int (nI e))]) rfl ?_
  refine j_aload_n C 1 dX6_takeToken_0 rfl rfl ?_
  refine j_iload_n C 2 dX6_takeToken_1 rfl rfl ?_
  refine j_iload_n C 3 dX6_takeToken_2 rfl rfl ?_
  refine j_callS_i C 3 (cc_X6_tokenKind l d ad adK adV al a n op c hn tp hT htp p e hp he) gX6_takeToken_X6_tokenKind rfl rfl rfl (by decide +kernel) ⟨(Nat.le_of_ble_eq_true rfl), (Nat.le_of_ble_eq_true rfl)⟩ ⟨(Nat.le_of_ble_eq_true rfl), (Nat.le_of_ble_eq_true rfl)⟩ rfl rfl (Nat.le_of_ble_eq_true rfl) dX6_takeToken_3 (fun r3 u3 h3 => ?_)
  obtain ⟨rfl, rfl⟩ := h3
  refine j_istore C [(0, .ref (a 3 0)), (1, .ref (a 1 0)), (2, .int (nI p)), (3, .int (nI e)), (4, .int (tokK c tp p e))] [1, 2, 3, 4, 0] dX6_takeToken_6 (by decide) rfl ?_
  refine j_iload C 4 dX6_takeToken_8 rfl ?_
  refine j_aload_n C 0 dX6_takeToken_10 rfl rfl ?_
  refine kg_3_awaited C hinX6 (by decide +kernel) dX6_takeToken_11 ?_
  refine j_icmp_eq C 26 dX6_takeToken_14 (by decide) (fun c14 => ?_) (fun c14 => ?_)
  · refine j_iload C 4 dX6_takeToken_26 rfl ?_
    refine j_iconst C 1 dX6_takeToken_28 (by decide) ?_
    refine j_icmp_ne C 42 dX6_takeToken_29 (by decide) (fun c29 => ?_) (fun c29 => ?_)
    · refine j_iload C 4 dX6_takeToken_42 rfl ?_
      refine j_iconst C 2 dX6_takeToken_44 (by decide) ?_
      refine j_icmp_ne C 58 dX6_takeToken_45 (by decide) (fun c45 => ?_) (fun c45 => ?_)
      · refine j_aload_n C 0 dX6_takeToken_58 rfl rfl ?_
        refine j_iconst C 1 dX6_takeToken_59 (by decide) ?_
        refine kp_3_awaited C hinX6 (by decide +kernel) dX6_takeToken_60 ?_
        exact j_vret C hQ dX6_takeToken_63 (by rw [zTT, if_pos c14, if_neg c29, if_neg c45])
      · refine j_aload_n C 0 dX6_takeToken_48 rfl rfl ?_
        refine j_aload_n C 1 dX6_takeToken_49 rfl rfl ?_
        refine j_iload_n C 2 dX6_takeToken_50 rfl rfl ?_
        refine j_iload_n C 3 dX6_takeToken_51 rfl rfl ?_
        refine j_callV_v C 3 3 (cc_X6_takeNumber l d ad adK adV al a n op c hn tp hT htp ho p e hp he) cG_3 rfl gX6_takeToken_X6_takeNumber rfl rfl rfl (by decide +kernel) ⟨(Nat.le_of_ble_eq_true rfl), (Nat.le_of_ble_eq_true rfl)⟩ ⟨(Nat.le_of_ble_eq_true rfl), (Nat.le_of_ble_eq_true rfl)⟩ rfl rfl (Nat.le_of_ble_eq_true rfl) dX6_takeToken_52 (fun u52 h52 => ?_)
        obtain rfl := h52
        refine j_goto C 63 dX6_takeToken_55 (by decide) ?_
        exact j_vret C hQ dX6_takeToken_63 (by rw [zTT, if_pos c14, if_neg c29, if_pos c45])
    · refine j_aload_n C 0 dX6_takeToken_32 rfl rfl ?_
      refine j_aload_n C 1 dX6_takeToken_33 rfl rfl ?_
      refine j_iload_n C 2 dX6_takeToken_34 rfl rfl ?_
      refine j_iload_n C 3 dX6_takeToken_35 rfl rfl ?_
      refine j_callV_v C 3 3 (cc_X6_takeWord l d ad adK adV al a n op c hn tp hT htp p e hp he) cG_3 rfl gX6_takeToken_X6_takeWord rfl rfl rfl (by decide +kernel) ⟨(Nat.le_of_ble_eq_true rfl), (Nat.le_of_ble_eq_true rfl)⟩ ⟨(Nat.le_of_ble_eq_true rfl), (Nat.le_of_ble_eq_true rfl)⟩ rfl rfl (Nat.le_of_ble_eq_true rfl) dX6_takeToken_36 (fun u36 h36 => ?_)
      obtain rfl := h36
      refine j_goto C 63 dX6_takeToken_39 (by decide) ?_
      exact j_vret C hQ dX6_takeToken_63 (by rw [zTT, if_pos c14, if_pos c29])
  · refine j_aload_n C 0 dX6_takeToken_17 rfl rfl ?_
    refine j_iconst C 1 dX6_takeToken_18 (by decide) ?_
    refine j_iload_n C 2 dX6_takeToken_19 rfl rfl ?_
    refine j_callV_v C 2 3 (cc_X6_setFault l d ad adK adV al a n op c hn 1 p) cG_3 rfl gX6_takeToken_X6_setFault rfl rfl rfl (by decide +kernel) ⟨(Nat.le_of_ble_eq_true rfl), (Nat.le_of_ble_eq_true rfl)⟩ ⟨(Nat.le_of_ble_eq_true rfl), (Nat.le_of_ble_eq_true rfl)⟩ rfl rfl (Nat.le_of_ble_eq_true rfl) dX6_takeToken_20 (fun u20 h20 => ?_)
    obtain rfl := h20
    refine j_goto C 63 dX6_takeToken_23 (by decide) ?_
    exact j_vret C hQ dX6_takeToken_63 (by rw [zTT, if_neg c14])


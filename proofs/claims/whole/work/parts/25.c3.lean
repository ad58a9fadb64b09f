abbrev kB (n : Nat → Nat) (x : Int32) : Prop := kP n x ∨ kF n x
def zAsks (n : Nat → Nat) (c : Nat → Nat → Nat → Int32) (b x : Int32) : Int32 := if kB n b ∧ kW n x then c 14 (tn x) (tn b) else -1
def zHolds (n : Nat → Nat) (c : Nat → Nat → Nat → Int32) (b x r : Int32) : Int32 := if kB n b ∧ kW n x ∧ (0 ≤ r ∧ r ≤ c 0 0 9) then c 17 (tn x) (tn r * 28 + tn b) else -1
def zPrice (n : Nat → Nat) (c : Nat → Nat → Nat → Int32) (x r : Int32) : Int32 := if kW n x ∧ (c 13 (tn x) 1 ≤ r ∧ r ≤ c 0 0 9) then c 16 (tn x) (tn r) else -1
def sumA (f : Nat → Int32) : Nat → Int32
  | 0 => 0
  | k + 1 => sumA f k + f k
def zAbout (n : Nat → Nat) (c : Nat → Nat → Nat → Int32) (x y : Int32) : Int32 := if kW n x then (if y = 0 then c 13 (tn x) 0 else if y = 1 then c 13 (tn x) 2 else if y = 2 then c 13 (tn x) 3 else if y = 3 then sumA (c 14 (tn x)) 28 else -1) else -1
def cPts (c : Nat → Nat → Nat → Int32) (b : Nat) : Int32 := if b < 24 then c 18 b 0 else c 19 (b - 24) 0
abbrev zCB (n : Nat → Nat) (c : Nat → Nat → Nat → Int32) (b x : Nat) (y : Int32) : Int32 := cCost c b (n 0) + (y - c 14 x b) * c 13 x 3
def zBid (n : Nat → Nat) (c : Nat → Nat → Nat → Int32) (b x y : Int32) : Int32 × (Nat → Nat → Nat → Int32) := if (kB n b ∧ kW n x ∧ (0 ≤ y ∧ y ≤ 1000)) ∧ zCB n c (tn b) (tn x) y ≤ cPts c (tn b) then (zCB n c (tn b) (tn x) y, cu c 14 (tn x) (tn b) y) else (-1, c)

set_option maxHeartbeats 4000000 in
set_option maxRecDepth 100000 in
theorem cc_X9_sumOf (Ef : jE) (hk : jKp Ef) (l : Launch) (d : jD) (ws : va_W) (q0 ar : Nat) (f : Nat → Int32) (he : ws[q0]? = some (ar, .inl (d.2 1, 28, .inl f))) : jMi Ef d l yX9_sumOf wsX9_sumOf ({ frames := 0, cells := 0, slots := 0, locals := 0 } : Room) 0 0 [.ref ar] ws (fun r u => r = sumA f 28 ∧ u = ws) := by
  refine jMi.mk hk (by decide) rfl (Nat.le_of_ble_eq_true rfl) (fun X A C hQ => ?_)
  refine j_lvq (lv2 := [(0, .ref ar)]) rfl ?_
  have loop : ∀ fz i : Nat, i ≤ 28 → 28 - i < fz → jJ X l d A 6 0 0 (ws) [(0, .ref ar), (1, .int (sumA f i)), (2, .ref ar), (3, .int 28), (4, .int (nI i))] 10 [] := by
    intro fz
    induction fz with
    | zero => intro i _ h; exact absurd h (Nat.not_lt_zero _)
    | succ fz ih =>
      intro i hi hfz
      refine j_iload C 4 dX9_sumOf_10 rfl ?_
      refine j_iload_n C 3 dX9_sumOf_12 rfl rfl ?_
      refine j_icmp_ge C 33 dX9_sumOf_13 (by decide) (fun c13 => ?_) (fun c13 => ?_)
      · have c13 := (nI_leI (a := 28) (b := i) (by omega) (by omega)).mp c13
        obtain rfl : i = 28 := by omega
        refine j_iload_n C 1 dX9_sumOf_33 rfl rfl ?_
        exact j_iret C hQ dX9_sumOf_34 (⟨rfl, rfl⟩)
      · have c13 : ¬ (28 ≤ i) := fun h => c13 ((nI_leI (a := 28) (b := i) (by omega) (by omega)).mpr h)
        refine j_aload_n C 2 dX9_sumOf_16 rfl rfl ?_
        refine j_iload C 4 dX9_sumOf_17 rfl ?_
        refine j_iald C q0 i he rfl (by omega) (by decide) dX9_sumOf_19 ?_
        refine j_istore C [(0, .ref ar), (1, .int (sumA f i)), (2, .ref ar), (3, .int 28), (4, .int (nI i)), (5, .int (f i))] [1, 2, 3, 4, 5, 0] dX9_sumOf_20 (by decide) rfl ?_
        refine j_iload_n C 1 dX9_sumOf_22 rfl rfl ?_
        refine j_iload C 5 dX9_sumOf_23 rfl ?_
        refine j_iadd C dX9_sumOf_25 ?_
        refine j_istore_n C [(0, .ref ar), (1, .int ((sumA f i) + (f i))), (2, .ref ar), (3, .int 28), (4, .int (nI i)), (5, .int (f i))] [1, 0, 2, 3, 4, 5] dX9_sumOf_26 rfl (by decide) rfl ?_
        refine j_iinc C (nI (i + 1)) [(0, .ref ar), (1, .int ((sumA f i) + (f i))), (2, .ref ar), (3, .int 28), (4, .int (nI (i + 1))), (5, .int (f i))] 4 [1, 2, 3, 4, 0, 5] dX9_sumOf_27 rfl (nI_1 i) (by decide) rfl ?_
        refine j_goto C 10 dX9_sumOf_30 (by decide) ?_
        refine j_lv (lv' := [(0, .ref ar), (1, .int ((sumA f i) + (f i))), (2, .ref ar), (3, .int 28), (4, .int (nI (i + 1)))]) [0, 1, 2, 3, 4] rfl ?_
        exact ih (i + 1) (by omega) (by omega)
  refine j_iconst C 0 dX9_sumOf_0 (by decide) ?_
  refine j_istore_n C [(0, .ref ar), (1, .int 0)] [1, 0] dX9_sumOf_1 rfl (by decide) rfl ?_
  refine j_aload_n C 0 dX9_sumOf_2 rfl rfl ?_
  refine j_astore_n C [(0, .ref ar), (1, .int 0), (2, .ref ar)] [1, 2, 0] dX9_sumOf_3 rfl (by decide) rfl ?_
  refine j_aload_n C 2 dX9_sumOf_4 rfl rfl ?_
  refine j_alen C q0 1 28 he rfl rfl dX9_sumOf_5 ?_
  refine j_istore_n C [(0, .ref ar), (1, .int 0), (2, .ref ar), (3, .int 28)] [1, 2, 3, 0] dX9_sumOf_6 rfl (by decide) rfl ?_
  refine j_iconst C 0 dX9_sumOf_7 (by decide) ?_
  refine j_istore C [(0, .ref ar), (1, .int 0), (2, .ref ar), (3, .int 28), (4, .int 0)] [1, 2, 3, 4, 0] dX9_sumOf_8 (by decide) rfl ?_
  exact loop _ 0 (Nat.zero_le _) (Nat.lt_succ_self _)

set_option maxHeartbeats 4000000 in
set_option maxRecDepth 100000 in
theorem cc_X9_asks (l : Launch) (d : jD) (ad adK adV : Nat → Nat) (al : Nat) (a : Nat → Nat → Nat) (n : Nat → Nat) (op : Option Nat) (c : Nat → Nat → Nat → Int32) (hn : nOK n) (b x : Int32) : jMi (cEf ad adK adV al) d l yX9_asks wsX9_asks ({ frames := 3, cells := 0, slots := 0, locals := 66 } : Room) 0 0 [.ref (a 0 0), .int b, .int x] (cW a d n op ad c) (fun r u => r = zAsks n c b x ∧ u = cW a d n op ad c) := by
  refine jMi.mk (cEf_k ad adK adV al) (by decide) rfl (Nat.le_of_ble_eq_true rfl) (fun X A C hQ => ?_)
  have hinX8 : ∀ w ∈ u_ws RX8 TX8 8, w ∈ wsX9_asks := fun w h => List.mem_cons_of_mem _ (List.mem_append_left _ (List.mem_append_right _ h))
  obtain ⟨hn0, hn1, hn2⟩ := id hn
  refine j_lvq (lv2 := [(0, .ref (a 0 0)), (1, .int b), (2, .int x)]) rfl ?_
  refine j_aload_n C 0 dX9_asks_0 rfl rfl ?_
  refine j_iload_n C 2 dX9_asks_1 rfl rfl ?_
  refine j_callV_q C 1 0 (cc_X9_workAt l d ad adK adV al a n op c hn x) cG_0 rfl gX9_asks_X9_workAt rfl rfl rfl (by decide +kernel) ⟨(Nat.le_of_ble_eq_true rfl), (Nat.le_of_ble_eq_true rfl)⟩ ⟨(Nat.le_of_ble_eq_true rfl), (Nat.le_of_ble_eq_true rfl)⟩ rfl rfl (Nat.le_of_ble_eq_true rfl) dX9_asks_2 (fun r2 u2 h2 => ?_)
  obtain ⟨rfl, rfl⟩ := h2
  by_cases h2k : kW n x
  · obtain ⟨jx, hjx, rfl⟩ := kW_nI hn h2k
    refine j_st (st2 := [.ref (a 13 jx)]) (congrArg (fun z => va_rf z :: _) (oW_j hn hjx)) ?_
    refine j_astore_n C [(0, .ref (a 0 0)), (1, .int b), (2, .int (nI jx)), (3, .ref (a 13 jx))] [1, 2, 3, 0] dX9_asks_5 rfl (by decide) rfl ?_
    refine j_aload_n C 0 dX9_asks_6 rfl rfl ?_
    refine j_iload_n C 1 dX9_asks_7 rfl rfl ?_
    refine j_callV_q C 1 0 (cc_X9_bidderAt l d ad adK adV al a n op c hn b) cG_0 rfl gX9_asks_X9_bidderAt rfl rfl rfl (by decide +kernel) ⟨(Nat.le_of_ble_eq_true rfl), (Nat.le_of_ble_eq_true rfl)⟩ ⟨(Nat.le_of_ble_eq_true rfl), (Nat.le_of_ble_eq_true rfl)⟩ rfl rfl (Nat.le_of_ble_eq_true rfl) dX9_asks_8 (fun r8 u8 h8 => ?_)
    obtain ⟨rfl, rfl⟩ := h8
    by_cases h8p : kP n b
    · obtain ⟨jb, hjb, rfl⟩ := kP_nI hn h8p
      refine j_st (st2 := [.ref (a 18 jb)]) (congrArg (fun z => va_rf z :: _) (show oB a n (nI jb) = some (a 18 jb) by rw [oB, if_pos h8p, tn_nI (by omega)])) ?_
      refine j_ifnull C dX9_asks_11 ?_
      refine j_aload_n C 3 dX9_asks_14 rfl rfl ?_
      refine j_ifnonnull C 20 dX9_asks_15 (by decide) ?_
      refine j_aload_n C 3 dX9_asks_20 rfl rfl ?_
      refine kgN_13_asked C hinX8 hjx nst_X9_126 dX9_asks_21 ?_
      refine j_iload_n C 1 dX9_asks_24 rfl rfl ?_
      refine kl_14 C hjx jb rfl (by omega) dX9_asks_25 ?_
      exact j_iret C hQ dX9_asks_26 (⟨by rw [zAsks, if_pos ⟨(Or.inl h8p), h2k⟩, tn_nI (show jx < 20000 by omega), tn_nI (show jb < 20000 by omega)], rfl⟩)
    · by_cases h8f : kF n b
      · obtain ⟨jb, hjb, rfl⟩ := kF_nI hn h8f
        refine j_st (st2 := [.ref (a 19 jb)]) (congrArg (fun z => va_rf z :: _) (show oB a n (nI (24 + jb)) = some (a 19 jb) by rw [oB, if_neg h8p]; exact oF_j hn hjb)) ?_
        refine j_ifnull C dX9_asks_11 ?_
        refine j_aload_n C 3 dX9_asks_14 rfl rfl ?_
        refine j_ifnonnull C 20 dX9_asks_15 (by decide) ?_
        refine j_aload_n C 3 dX9_asks_20 rfl rfl ?_
        refine kgN_13_asked C hinX8 hjx nst_X9_126 dX9_asks_21 ?_
        refine j_iload_n C 1 dX9_asks_24 rfl rfl ?_
        refine kl_14 C hjx (24 + jb) rfl (by omega) dX9_asks_25 ?_
        exact j_iret C hQ dX9_asks_26 (⟨by rw [zAsks, if_pos ⟨(Or.inr h8f), h2k⟩, tn_nI (show jx < 20000 by omega), tn_nI (show 24 + jb < 20000 by omega)], rfl⟩)
      · refine j_st (st2 := [.null]) (congrArg (fun z => va_rf z :: _) (show oB a n b = none by rw [oB, if_neg h8p]; exact if_neg h8f)) ?_
        refine j_ifnullN C 18 dX9_asks_11 (by decide) ?_
        refine j_iconst C (-1) dX9_asks_18 (by decide) ?_
        exact j_iret C hQ dX9_asks_19 (⟨(if_neg (fun h => (fun h => Or.elim h h8p h8f) h.1)).symm, rfl⟩)
  · refine j_st (st2 := [.null]) (congrArg (fun z => va_rf z :: _) (if_neg h2k)) ?_
    refine j_astore_nN C [(0, .ref (a 0 0)), (1, .int b), (2, .int x), (3, .null)] [1, 2, 3, 0] dX9_asks_5 rfl (by decide) rfl ?_
    refine j_aload_n C 0 dX9_asks_6 rfl rfl ?_
    refine j_iload_n C 1 dX9_asks_7 rfl rfl ?_
    refine j_callV_q C 1 0 (cc_X9_bidderAt l d ad adK adV al a n op c hn b) cG_0 rfl gX9_asks_X9_bidderAt rfl rfl rfl (by decide +kernel) ⟨(Nat.le_of_ble_eq_true rfl), (Nat.le_of_ble_eq_true rfl)⟩ ⟨(Nat.le_of_ble_eq_true rfl), (Nat.le_of_ble_eq_true rfl)⟩ rfl rfl (Nat.le_of_ble_eq_true rfl) dX9_asks_8 (fun r8 u8 h8 => ?_)
    obtain ⟨rfl, rfl⟩ := h8
    by_cases h8p : kP n b
    · obtain ⟨jb, hjb, rfl⟩ := kP_nI hn h8p
      refine j_st (st2 := [.ref (a 18 jb)]) (congrArg (fun z => va_rf z :: _) (show oB a n (nI jb) = some (a 18 jb) by rw [oB, if_pos h8p, tn_nI (by omega)])) ?_
      refine j_ifnull C dX9_asks_11 ?_
      refine j_aload_nN C 3 dX9_asks_14 rfl rfl ?_
      refine j_ifnonnullN C dX9_asks_15 ?_
      refine j_iconst C (-1) dX9_asks_18 (by decide) ?_
      exact j_iret C hQ dX9_asks_19 (⟨(if_neg (fun h => h2k h.2)).symm, rfl⟩)
    · by_cases h8f : kF n b
      · obtain ⟨jb, hjb, rfl⟩ := kF_nI hn h8f
        refine j_st (st2 := [.ref (a 19 jb)]) (congrArg (fun z => va_rf z :: _) (show oB a n (nI (24 + jb)) = some (a 19 jb) by rw [oB, if_neg h8p]; exact oF_j hn hjb)) ?_
        refine j_ifnull C dX9_asks_11 ?_
        refine j_aload_nN C 3 dX9_asks_14 rfl rfl ?_
        refine j_ifnonnullN C dX9_asks_15 ?_
        refine j_iconst C (-1) dX9_asks_18 (by decide) ?_
        exact j_iret C hQ dX9_asks_19 (⟨(if_neg (fun h => h2k h.2)).symm, rfl⟩)
      · refine j_st (st2 := [.null]) (congrArg (fun z => va_rf z :: _) (show oB a n b = none by rw [oB, if_neg h8p]; exact if_neg h8f)) ?_
        refine j_ifnullN C 18 dX9_asks_11 (by decide) ?_
        refine j_iconst C (-1) dX9_asks_18 (by decide) ?_
        exact j_iret C hQ dX9_asks_19 (⟨(if_neg (fun h => (fun h => Or.elim h h8p h8f) h.1)).symm, rfl⟩)

set_option maxHeartbeats 4000000 in
set_option maxRecDepth 100000 in
theorem cc_X9_holds (l : Launch) (d : jD) (ad adK adV : Nat → Nat) (al : Nat) (a : Nat → Nat → Nat) (n : Nat → Nat) (op : Option Nat) (c : Nat → Nat → Nat → Int32) (hn : nOK n) (b x r : Int32) (rd : Nat) (hR : c 0 0 9 = nI rd) (hrd : rd ≤ 49) : jMi (cEf ad adK adV al) d l yX9_holds wsX9_holds ({ frames := 3, cells := 0, slots := 0, locals := 66 } : Room) 0 0 [.ref (a 0 0), .int b, .int x, .int r] (cW a d n op ad c) (fun r1 u => r1 = zHolds n c b x r ∧ u = cW a d n op ad c) := by
  refine jMi.mk (cEf_k ad adK adV al) (by decide) rfl (Nat.le_of_ble_eq_true rfl) (fun X A C hQ => ?_)
  have hinX9 : ∀ w ∈ u_ws RX9 TX9 11, w ∈ wsX9_holds := fun w h => List.mem_cons_of_mem _ (List.mem_append_left _ (List.mem_append_right _ h))
  obtain ⟨hn0, hn1, hn2⟩ := id hn
  refine j_lvq (lv2 := [(0, .ref (a 0 0)), (1, .int b), (2, .int x), (3, .int r)]) rfl ?_
  refine j_aload_n C 0 dX9_holds_0 rfl rfl ?_
  refine j_iload_n C 2 dX9_holds_1 rfl rfl ?_
  refine j_callV_q C 1 0 (cc_X9_workAt l d ad adK adV al a n op c hn x) cG_0 rfl gX9_holds_X9_workAt rfl rfl rfl (by decide +kernel) ⟨(Nat.le_of_ble_eq_true rfl), (Nat.le_of_ble_eq_true rfl)⟩ ⟨(Nat.le_of_ble_eq_true rfl), (Nat.le_of_ble_eq_true rfl)⟩ rfl rfl (Nat.le_of_ble_eq_true rfl) dX9_holds_2 (fun r2 u2 h2 => ?_)
  obtain ⟨rfl, rfl⟩ := h2
  by_cases h2k : kW n x
  · obtain ⟨jx, hjx, rfl⟩ := kW_nI hn h2k
    refine j_st (st2 := [.ref (a 13 jx)]) (congrArg (fun z => va_rf z :: _) (oW_j hn hjx)) ?_
    refine j_astore C [(0, .ref (a 0 0)), (1, .int b), (2, .int (nI jx)), (3, .int r), (4, .ref (a 13 jx))] [1, 2, 3, 4, 0] dX9_holds_5 (by decide) rfl ?_
    refine j_aload_n C 0 dX9_holds_7 rfl rfl ?_
    refine j_iload_n C 1 dX9_holds_8 rfl rfl ?_
    refine j_callV_q C 1 0 (cc_X9_bidderAt l d ad adK adV al a n op c hn b) cG_0 rfl gX9_holds_X9_bidderAt rfl rfl rfl (by decide +kernel) ⟨(Nat.le_of_ble_eq_true rfl), (Nat.le_of_ble_eq_true rfl)⟩ ⟨(Nat.le_of_ble_eq_true rfl), (Nat.le_of_ble_eq_true rfl)⟩ rfl rfl (Nat.le_of_ble_eq_true rfl) dX9_holds_9 (fun r9 u9 h9 => ?_)
    obtain ⟨rfl, rfl⟩ := h9
    by_cases h9p : kP n b
    · obtain ⟨jb, hjb, rfl⟩ := kP_nI hn h9p
      refine j_st (st2 := [.ref (a 18 jb)]) (congrArg (fun z => va_rf z :: _) (show oB a n (nI jb) = some (a 18 jb) by rw [oB, if_pos h9p, tn_nI (by omega)])) ?_
      refine j_ifnull C dX9_holds_12 ?_
      refine j_aload C 4 dX9_holds_15 rfl ?_
      refine j_ifnull C dX9_holds_17 ?_
      refine j_iload_n C 3 dX9_holds_20 rfl rfl ?_
      refine j_iconst C 0 dX9_holds_21 (by decide) ?_
      refine j_aload_n C 0 dX9_holds_22 rfl rfl ?_
      refine kg_0_roundNow C hinX9 (by decide +kernel) dX9_holds_23 ?_
      refine j_st (st2 := [.int (nI rd), .int 0, .int r]) (congrArg (fun z => Value.int z :: _) hR) ?_
      refine j_callS_i C 3 (cc_X9_isWithin (cEf ad adK adV al) (cEf_k ad adK adV al) l d _ r 0 (nI rd)) gX9_holds_X9_isWithin rfl rfl rfl (by decide +kernel) ⟨(Nat.le_of_ble_eq_true rfl), (Nat.le_of_ble_eq_true rfl)⟩ ⟨(Nat.le_of_ble_eq_true rfl), (Nat.le_of_ble_eq_true rfl)⟩ rfl rfl (Nat.le_of_ble_eq_true rfl) dX9_holds_26 (fun r26 u26 h26 => ?_)
      obtain ⟨rfl, rfl⟩ := h26
      refine j_if_ne C 34 dX9_holds_29 (by decide) (fun c29 => ?_) (fun c29 => ?_)
      · have c29 : 0 ≤ r ∧ r ≤ nI rd := bI_n0.mp c29
        obtain ⟨jr, hjr, rfl⟩ : ∃ j : Nat, j ≤ rd ∧ r = nI j := by
          obtain ⟨j, hj, rfl⟩ := nI_of (i_nlt.mpr c29.1)
          exact ⟨j, (nI_leI hj (by omega)).mp c29.2, rfl⟩
        refine j_aload C 4 dX9_holds_34 rfl ?_
        refine j_iload_n C 3 dX9_holds_36 rfl rfl ?_
        refine j_iload_n C 1 dX9_holds_37 rfl rfl ?_
        refine j_callV_i C 2 (13 + jx) (cc_X8_heldAsOf l d ad adK adV al a n op c hn jx jr jb hjx (by omega) (by omega)) (cG_13 hjx) rfl gX9_holds_X8_heldAsOf rfl rfl rfl (by decide +kernel) ⟨(Nat.le_of_ble_eq_true rfl), (Nat.le_of_ble_eq_true rfl)⟩ ⟨(Nat.le_of_ble_eq_true rfl), (Nat.le_of_ble_eq_true rfl)⟩ rfl rfl (Nat.le_of_ble_eq_true rfl) dX9_holds_38 (fun r38 u38 h38 => ?_)
        obtain ⟨rfl, rfl⟩ := h38
        exact j_iret C hQ dX9_holds_41 (⟨by rw [zHolds, if_pos ⟨(Or.inl h9p), h2k, (by rw [hR]; exact c29)⟩, tn_nI (show jx < 20000 by omega), tn_nI (show jb < 20000 by omega), tn_nI (show jr < 20000 by omega)], rfl⟩)
      · have c29 : ¬ (0 ≤ r ∧ r ≤ nI rd) := bI_0.mp c29
        refine j_iconst C (-1) dX9_holds_32 (by decide) ?_
        exact j_iret C hQ dX9_holds_33 (⟨(if_neg (fun h => c29 (hR ▸ h.2.2))).symm, rfl⟩)
    · by_cases h9f : kF n b
      · obtain ⟨jb, hjb, rfl⟩ := kF_nI hn h9f
        refine j_st (st2 := [.ref (a 19 jb)]) (congrArg (fun z => va_rf z :: _) (show oB a n (nI (24 + jb)) = some (a 19 jb) by rw [oB, if_neg h9p]; exact oF_j hn hjb)) ?_
        refine j_ifnull C dX9_holds_12 ?_
        refine j_aload C 4 dX9_holds_15 rfl ?_
        refine j_ifnull C dX9_holds_17 ?_
        refine j_iload_n C 3 dX9_holds_20 rfl rfl ?_
        refine j_iconst C 0 dX9_holds_21 (by decide) ?_
        refine j_aload_n C 0 dX9_holds_22 rfl rfl ?_
        refine kg_0_roundNow C hinX9 (by decide +kernel) dX9_holds_23 ?_
        refine j_st (st2 := [.int (nI rd), .int 0, .int r]) (congrArg (fun z => Value.int z :: _) hR) ?_
        refine j_callS_i C 3 (cc_X9_isWithin (cEf ad adK adV al) (cEf_k ad adK adV al) l d _ r 0 (nI rd)) gX9_holds_X9_isWithin rfl rfl rfl (by decide +kernel) ⟨(Nat.le_of_ble_eq_true rfl), (Nat.le_of_ble_eq_true rfl)⟩ ⟨(Nat.le_of_ble_eq_true rfl), (Nat.le_of_ble_eq_true rfl)⟩ rfl rfl (Nat.le_of_ble_eq_true rfl) dX9_holds_26 (fun r26 u26 h26 => ?_)
        obtain ⟨rfl, rfl⟩ := h26
        refine j_if_ne C 34 dX9_holds_29 (by decide) (fun c29 => ?_) (fun c29 => ?_)
        · have c29 : 0 ≤ r ∧ r ≤ nI rd := bI_n0.mp c29
          obtain ⟨jr, hjr, rfl⟩ : ∃ j : Nat, j ≤ rd ∧ r = nI j := by
            obtain ⟨j, hj, rfl⟩ := nI_of (i_nlt.mpr c29.1)
            exact ⟨j, (nI_leI hj (by omega)).mp c29.2, rfl⟩
          refine j_aload C 4 dX9_holds_34 rfl ?_
          refine j_iload_n C 3 dX9_holds_36 rfl rfl ?_
          refine j_iload_n C 1 dX9_holds_37 rfl rfl ?_
          refine j_callV_i C 2 (13 + jx) (cc_X8_heldAsOf l d ad adK adV al a n op c hn jx jr (24 + jb) hjx (by omega) (by omega)) (cG_13 hjx) rfl gX9_holds_X8_heldAsOf rfl rfl rfl (by decide +kernel) ⟨(Nat.le_of_ble_eq_true rfl), (Nat.le_of_ble_eq_true rfl)⟩ ⟨(Nat.le_of_ble_eq_true rfl), (Nat.le_of_ble_eq_true rfl)⟩ rfl rfl (Nat.le_of_ble_eq_true rfl) dX9_holds_38 (fun r38 u38 h38 => ?_)
          obtain ⟨rfl, rfl⟩ := h38
          exact j_iret C hQ dX9_holds_41 (⟨by rw [zHolds, if_pos ⟨(Or.inr h9f), h2k, (by rw [hR]; exact c29)⟩, tn_nI (show jx < 20000 by omega), tn_nI (show 24 + jb < 20000 by omega), tn_nI (show jr < 20000 by omega)], rfl⟩)
        · have c29 : ¬ (0 ≤ r ∧ r ≤ nI rd) := bI_0.mp c29
          refine j_iconst C (-1) dX9_holds_32 (by decide) ?_
          exact j_iret C hQ dX9_holds_33 (⟨(if_neg (fun h => c29 (hR ▸ h.2.2))).symm, rfl⟩)
      · refine j_st (st2 := [.null]) (congrArg (fun z => va_rf z :: _) (show oB a n b = none by rw [oB, if_neg h9p]; exact if_neg h9f)) ?_
        refine j_ifnullN C 32 dX9_holds_12 (by decide) ?_
        refine j_iconst C (-1) dX9_holds_32 (by decide) ?_
        exact j_iret C hQ dX9_holds_33 (⟨(if_neg (fun h => (fun h => Or.elim h h9p h9f) h.1)).symm, rfl⟩)
  · refine j_st (st2 := [.null]) (congrArg (fun z => va_rf z :: _) (if_neg h2k)) ?_
    refine j_astoreN C [(0, .ref (a 0 0)), (1, .int b), (2, .int x), (3, .int r), (4, .null)] [1, 2, 3, 4, 0] dX9_holds_5 (by decide) rfl ?_
    refine j_aload_n C 0 dX9_holds_7 rfl rfl ?_
    refine j_iload_n C 1 dX9_holds_8 rfl rfl ?_
    refine j_callV_q C 1 0 (cc_X9_bidderAt l d ad adK adV al a n op c hn b) cG_0 rfl gX9_holds_X9_bidderAt rfl rfl rfl (by decide +kernel) ⟨(Nat.le_of_ble_eq_true rfl), (Nat.le_of_ble_eq_true rfl)⟩ ⟨(Nat.le_of_ble_eq_true rfl), (Nat.le_of_ble_eq_true rfl)⟩ rfl rfl (Nat.le_of_ble_eq_true rfl) dX9_holds_9 (fun r9 u9 h9 => ?_)
    obtain ⟨rfl, rfl⟩ := h9
    by_cases h9p : kP n b
    · obtain ⟨jb, hjb, rfl⟩ := kP_nI hn h9p
      refine j_st (st2 := [.ref (a 18 jb)]) (congrArg (fun z => va_rf z :: _) (show oB a n (nI jb) = some (a 18 jb) by rw [oB, if_pos h9p, tn_nI (by omega)])) ?_
      refine j_ifnull C dX9_holds_12 ?_
      refine j_aloadN C 4 dX9_holds_15 rfl ?_
      refine j_ifnullN C 32 dX9_holds_17 (by decide) ?_
      refine j_iconst C (-1) dX9_holds_32 (by decide) ?_
      exact j_iret C hQ dX9_holds_33 (⟨(if_neg (fun h => h2k h.2.1)).symm, rfl⟩)
    · by_cases h9f : kF n b
      · obtain ⟨jb, hjb, rfl⟩ := kF_nI hn h9f
        refine j_st (st2 := [.ref (a 19 jb)]) (congrArg (fun z => va_rf z :: _) (show oB a n (nI (24 + jb)) = some (a 19 jb) by rw [oB, if_neg h9p]; exact oF_j hn hjb)) ?_
        refine j_ifnull C dX9_holds_12 ?_
        refine j_aloadN C 4 dX9_holds_15 rfl ?_
        refine j_ifnullN C 32 dX9_holds_17 (by decide) ?_
        refine j_iconst C (-1) dX9_holds_32 (by decide) ?_
        exact j_iret C hQ dX9_holds_33 (⟨(if_neg (fun h => h2k h.2.1)).symm, rfl⟩)
      · refine j_st (st2 := [.null]) (congrArg (fun z => va_rf z :: _) (show oB a n b = none by rw [oB, if_neg h9p]; exact if_neg h9f)) ?_
        refine j_ifnullN C 32 dX9_holds_12 (by decide) ?_
        refine j_iconst C (-1) dX9_holds_32 (by decide) ?_
        exact j_iret C hQ dX9_holds_33 (⟨(if_neg (fun h => (fun h => Or.elim h h9p h9f) h.1)).symm, rfl⟩)

set_option maxHeartbeats 4000000 in
set_option maxRecDepth 100000 in
theorem cc_X9_price (l : Launch) (d : jD) (ad adK adV : Nat → Nat) (al : Nat) (a : Nat → Nat → Nat) (n : Nat → Nat) (op : Option Nat) (c : Nat → Nat → Nat → Int32) (hn : nOK n) (x r : Int32) (rd : Nat) (hR : c 0 0 9 = nI rd) (hrd : rd ≤ 49) (hs : ∀ j, j < n 0 → 0 ≤ c 13 j 1) : jMi (cEf ad adK adV al) d l yX9_price wsX9_price ({ frames := 1, cells := 0, slots := 0, locals := 22 } : Room) 0 0 [.ref (a 0 0), .int x, .int r] (cW a d n op ad c) (fun r1 u => r1 = zPrice n c x r ∧ u = cW a d n op ad c) := by
  refine jMi.mk (cEf_k ad adK adV al) (by decide) rfl (Nat.le_of_ble_eq_true rfl) (fun X A C hQ => ?_)
  have hinX8 : ∀ w ∈ u_ws RX8 TX8 8, w ∈ wsX9_price := fun w h => List.mem_cons_of_mem _ (List.mem_append_left _ (List.mem_append_right _ h))
  have hinX9 : ∀ w ∈ u_ws RX9 TX9 11, w ∈ wsX9_price := fun w h => List.mem_cons_of_mem _ (List.mem_append_right _ h)
  obtain ⟨hn0, hn1, hn2⟩ := id hn
  refine j_lvq (lv2 := [(0, .ref (a 0 0)), (1, .int x), (2, .int r)]) rfl ?_
  refine j_aload_n C 0 dX9_price_0 rfl rfl ?_
  refine j_iload_n C 1 dX9_price_1 rfl rfl ?_
  refine j_callV_q C 1 0 (cc_X9_workAt l d ad adK adV al a n op c hn x) cG_0 rfl gX9_price_X9_workAt rfl rfl rfl (by decide +kernel) ⟨(Nat.le_of_ble_eq_true rfl), (Nat.le_of_ble_eq_true rfl)⟩ ⟨(Nat.le_of_ble_eq_true rfl), (Nat.le_of_ble_eq_true rfl)⟩ rfl rfl (Nat.le_of_ble_eq_true rfl) dX9_price_2 (fun r2 u2 h2 => ?_)
  obtain ⟨rfl, rfl⟩ := h2
  by_cases h2k : kW n x
  · obtain ⟨jx, hjx, rfl⟩ := kW_nI hn h2k
    refine j_st (st2 := [.ref (a 13 jx)]) (congrArg (fun z => va_rf z :: _) (oW_j hn hjx)) ?_
    refine j_astore_n C [(0, .ref (a 0 0)), (1, .int (nI jx)), (2, .int r), (3, .ref (a 13 jx))] [1, 2, 3, 0] dX9_price_5 rfl (by decide) rfl ?_
    refine j_aload_n C 3 dX9_price_6 rfl rfl ?_
    refine j_ifnull C dX9_price_7 ?_
    refine j_iload_n C 2 dX9_price_10 rfl rfl ?_
    refine j_aload_n C 3 dX9_price_11 rfl rfl ?_
    refine kgN_13_madeIn C hinX8 hjx nst_X9_151 dX9_price_12 ?_
    refine j_aload_n C 0 dX9_price_15 rfl rfl ?_
    refine kg_0_roundNow C hinX9 (by decide +kernel) dX9_price_16 ?_
    refine j_st (st2 := [.int (nI rd), .int (c 13 jx 1), .int r]) (congrArg (fun z => Value.int z :: _) hR) ?_
    refine j_callS_i C 3 (cc_X9_isWithin (cEf ad adK adV al) (cEf_k ad adK adV al) l d _ r (c 13 jx 1) (nI rd)) gX9_price_X9_isWithin rfl rfl rfl (by decide +kernel) ⟨(Nat.le_of_ble_eq_true rfl), (Nat.le_of_ble_eq_true rfl)⟩ ⟨(Nat.le_of_ble_eq_true rfl), (Nat.le_of_ble_eq_true rfl)⟩ rfl rfl (Nat.le_of_ble_eq_true rfl) dX9_price_19 (fun r19 u19 h19 => ?_)
    obtain ⟨rfl, rfl⟩ := h19
    refine j_if_ne C 27 dX9_price_22 (by decide) (fun c22 => ?_) (fun c22 => ?_)
    · have c22 : c 13 jx 1 ≤ r ∧ r ≤ nI rd := bI_n0.mp c22
      obtain ⟨jr, hjr, rfl⟩ : ∃ j : Nat, j ≤ rd ∧ r = nI j := by
        obtain ⟨j, hj, rfl⟩ := nI_of (i_nlt.mpr (Int32.le_trans (hs jx hjx) c22.1))
        exact ⟨j, (nI_leI hj (by omega)).mp c22.2, rfl⟩
      refine j_aload_n C 3 dX9_price_27 rfl rfl ?_
      refine kgN_13_priceIn C hinX8 hjx nst_X9_154 dX9_price_28 ?_
      refine j_iload_n C 2 dX9_price_31 rfl rfl ?_
      refine kl_16 C hjx jr rfl (by omega) dX9_price_32 ?_
      exact j_iret C hQ dX9_price_33 (⟨by rw [zPrice, if_pos ⟨h2k, (by rw [tn_nI (show jx < 20000 by omega), hR]; exact c22)⟩, tn_nI (show jx < 20000 by omega), tn_nI (show jr < 20000 by omega)], rfl⟩)
    · have c22 : ¬ (c 13 jx 1 ≤ r ∧ r ≤ nI rd) := bI_0.mp c22
      refine j_iconst C (-1) dX9_price_25 (by decide) ?_
      exact j_iret C hQ dX9_price_26 (⟨(if_neg (fun h => c22 (by have h2 := h.2; rw [tn_nI (show jx < 20000 by omega), hR] at h2; exact h2))).symm, rfl⟩)
  · refine j_st (st2 := [.null]) (congrArg (fun z => va_rf z :: _) (if_neg h2k)) ?_
    refine j_astore_nN C [(0, .ref (a 0 0)), (1, .int x), (2, .int r), (3, .null)] [1, 2, 3, 0] dX9_price_5 rfl (by decide) rfl ?_
    refine j_aload_nN C 3 dX9_price_6 rfl rfl ?_
    refine j_ifnullN C 25 dX9_price_7 (by decide) ?_
    refine j_iconst C (-1) dX9_price_25 (by decide) ?_
    exact j_iret C hQ dX9_price_26 (⟨(if_neg (fun h => h2k h.1)).symm, rfl⟩)

set_option maxHeartbeats 4000000 in
set_option maxRecDepth 100000 in
theorem cc_X9_about (l : Launch) (d : jD) (ad adK adV : Nat → Nat) (al : Nat) (a : Nat → Nat → Nat) (n : Nat → Nat) (op : Option Nat) (c : Nat → Nat → Nat → Int32) (hn : nOK n) (x y : Int32) : jMi (cEf ad adK adV al) d l yX9_about wsX9_about ({ frames := 1, cells := 0, slots := 0, locals := 25 } : Room) 0 0 [.ref (a 0 0), .int x, .int y] (cW a d n op ad c) (fun r u => r = zAbout n c x y ∧ u = cW a d n op ad c) := by
  refine jMi.mk (cEf_k ad adK adV al) (by decide) rfl (Nat.le_of_ble_eq_true rfl) (fun X A C hQ => ?_)
  have hinX8 : ∀ w ∈ u_ws RX8 TX8 8, w ∈ wsX9_about := fun w h => List.mem_cons_of_mem _ (List.mem_append_left _ (List.mem_append_right _ h))
  obtain ⟨hn0, hn1, hn2⟩ := id hn
  refine j_lvq (lv2 := [(0, .ref (a 0 0)), (1, .int x), (2, .int y)]) rfl ?_
  refine j_aload_n C 0 dX9_about_0 rfl rfl ?_
  refine j_iload_n C 1 dX9_about_1 rfl rfl ?_
  refine j_callV_q C 1 0 (cc_X9_workAt l d ad adK adV al a n op c hn x) cG_0 rfl gX9_about_X9_workAt rfl rfl rfl (by decide +kernel) ⟨(Nat.le_of_ble_eq_true rfl), (Nat.le_of_ble_eq_true rfl)⟩ ⟨(Nat.le_of_ble_eq_true rfl), (Nat.le_of_ble_eq_true rfl)⟩ rfl rfl (Nat.le_of_ble_eq_true rfl) dX9_about_2 (fun r2 u2 h2 => ?_)
  obtain ⟨rfl, rfl⟩ := h2
  by_cases h2k : kW n x
  · obtain ⟨jx, hjx, rfl⟩ := kW_nI hn h2k
    refine j_st (st2 := [.ref (a 13 jx)]) (congrArg (fun z => va_rf z :: _) (oW_j hn hjx)) ?_
    refine j_astore_n C [(0, .ref (a 0 0)), (1, .int (nI jx)), (2, .int y), (3, .ref (a 13 jx))] [1, 2, 3, 0] dX9_about_5 rfl (by decide) rfl ?_
    refine j_aload_n C 3 dX9_about_6 rfl rfl ?_
    refine j_ifnonnull C 12 dX9_about_7 (by decide) ?_
    refine j_iload_n C 2 dX9_about_12 rfl rfl ?_
    rcases sw4 y with h | h | h | h | h
    · subst h
      refine j_tableIn C 44 dX9_about_13 (by decide) (by decide) rfl (by decide) ?_
      refine j_aload_n C 3 dX9_about_44 rfl rfl ?_
      refine kgN_13_shares C hinX8 hjx nst_X9_141 dX9_about_45 ?_
      exact j_iret C hQ dX9_about_48 (⟨by rw [zAbout, if_pos h2k]; simp only [tn_nI (show jx < 20000 by omega)]; rfl, rfl⟩)
    · subst h
      refine j_tableIn C 49 dX9_about_13 (by decide) (by decide) rfl (by decide) ?_
      refine j_aload_n C 3 dX9_about_49 rfl rfl ?_
      refine kgN_13_left C hinX8 hjx nst_X9_144 dX9_about_50 ?_
      exact j_iret C hQ dX9_about_53 (⟨by rw [zAbout, if_pos h2k]; simp only [tn_nI (show jx < 20000 by omega)]; rfl, rfl⟩)
    · subst h
      refine j_tableIn C 54 dX9_about_13 (by decide) (by decide) rfl (by decide) ?_
      refine j_aload_n C 3 dX9_about_54 rfl rfl ?_
      refine kgN_13_priceNow C hinX8 hjx nst_X9_129 dX9_about_55 ?_
      exact j_iret C hQ dX9_about_58 (⟨by rw [zAbout, if_pos h2k]; simp only [tn_nI (show jx < 20000 by omega)]; rfl, rfl⟩)
    · subst h
      refine j_tableIn C 59 dX9_about_13 (by decide) (by decide) rfl (by decide) ?_
      refine j_aload_n C 3 dX9_about_59 rfl rfl ?_
      refine kgN_13_asked C hinX8 hjx nst_X9_126 dX9_about_60 ?_
      refine j_callS_i C 1 (cc_X9_sumOf (cEf ad adK adV al) (cEf_k ad adK adV al) l d _ (13 + (n 0 + jx)) (a 14 jx) (c 14 jx) (cG_14 hjx)) gX9_about_X9_sumOf rfl rfl rfl (by decide +kernel) ⟨(Nat.le_of_ble_eq_true rfl), (Nat.le_of_ble_eq_true rfl)⟩ ⟨(Nat.le_of_ble_eq_true rfl), (Nat.le_of_ble_eq_true rfl)⟩ rfl rfl (Nat.le_of_ble_eq_true rfl) dX9_about_63 (fun r63 u63 h63 => ?_)
      obtain ⟨rfl, rfl⟩ := h63
      exact j_iret C hQ dX9_about_66 (⟨by rw [zAbout, if_pos h2k]; simp only [tn_nI (show jx < 20000 by omega)]; rfl, rfl⟩)
    · refine j_tableOut C 67 dX9_about_13 h (by decide) ?_
      refine j_iconst C (-1) dX9_about_67 (by decide) ?_
      exact j_iret C hQ dX9_about_68 (⟨by rw [zAbout, if_pos h2k]; simp only [if_neg (show ¬ y = 0 from sw_ne h (by decide) (j := 0) (by decide)), if_neg (show ¬ y = 1 from sw_ne h (by decide) (j := 1) (by decide)), if_neg (show ¬ y = 2 from sw_ne h (by decide) (j := 2) (by decide)), if_neg (show ¬ y = 3 from sw_ne h (by decide) (j := 3) (by decide))], rfl⟩)
  · refine j_st (st2 := [.null]) (congrArg (fun z => va_rf z :: _) (if_neg h2k)) ?_
    refine j_astore_nN C [(0, .ref (a 0 0)), (1, .int x), (2, .int y), (3, .null)] [1, 2, 3, 0] dX9_about_5 rfl (by decide) rfl ?_
    refine j_aload_nN C 3 dX9_about_6 rfl rfl ?_
    refine j_ifnonnullN C dX9_about_7 ?_
    refine j_iconst C (-1) dX9_about_10 (by decide) ?_
    exact j_iret C hQ dX9_about_11 (⟨(if_neg h2k).symm, rfl⟩)

set_option maxHeartbeats 4000000 in
set_option maxRecDepth 100000 in
theorem cc_X9_bid (l : Launch) (d : jD) (ad adK adV : Nat → Nat) (al : Nat) (a : Nat → Nat → Nat) (n : Nat → Nat) (op : Option Nat) (c : Nat → Nat → Nat → Int32) (hn : nOK n) (b x y : Int32) : jMi (cEf ad adK adV al) d l yX9_bid wsX9_bid ({ frames := 3, cells := 0, slots := 0, locals := 66 } : Room) 0 0 [.ref (a 0 0), .int b, .int x, .int y] (cW a d n op ad c) (fun r1 u => r1 = (zBid n c b x y).1 ∧ u = cW a d n op ad (zBid n c b x y).2) := by
  refine jMi.mk (cEf_k ad adK adV al) (by decide) rfl (Nat.le_of_ble_eq_true rfl) (fun X A C hQ => ?_)
  have hinX3 : ∀ w ∈ u_ws RX3 TX3 4, w ∈ wsX9_bid := fun w h => List.mem_cons_of_mem _ (List.mem_append_left _ (List.mem_append_left _ (List.mem_append_right _ h)))
  have hinX4 : ∀ w ∈ u_ws RX4 TX4 2, w ∈ wsX9_bid := fun w h => List.mem_cons_of_mem _ (List.mem_append_left _ (List.mem_append_right _ h))
  have hinX8 : ∀ w ∈ u_ws RX8 TX8 8, w ∈ wsX9_bid := fun w h => List.mem_cons_of_mem _ (List.mem_append_left _ (List.mem_append_left _ (List.mem_append_left _ (List.mem_append_right _ h))))
  obtain ⟨hn0, hn1, hn2⟩ := id hn
  refine j_lvq (lv2 := [(0, .ref (a 0 0)), (1, .int b), (2, .int x), (3, .int y)]) rfl ?_
  refine j_aload_n C 0 dX9_bid_0 rfl rfl ?_
  refine j_iload_n C 1 dX9_bid_1 rfl rfl ?_
  refine j_callV_q C 1 0 (cc_X9_bidderAt l d ad adK adV al a n op c hn b) cG_0 rfl gX9_bid_X9_bidderAt rfl rfl rfl (by decide +kernel) ⟨(Nat.le_of_ble_eq_true rfl), (Nat.le_of_ble_eq_true rfl)⟩ ⟨(Nat.le_of_ble_eq_true rfl), (Nat.le_of_ble_eq_true rfl)⟩ rfl rfl (Nat.le_of_ble_eq_true rfl) dX9_bid_2 (fun r2 u2 h2 => ?_)
  obtain ⟨rfl, rfl⟩ := h2
  by_cases h2p : kP n b
  · obtain ⟨jb, hjb, rfl⟩ := kP_nI hn h2p
    refine j_st (st2 := [.ref (a 18 jb)]) (congrArg (fun z => va_rf z :: _) (show oB a n (nI jb) = some (a 18 jb) by rw [oB, if_pos h2p, tn_nI (by omega)])) ?_
    refine j_astore C [(0, .ref (a 0 0)), (1, .int (nI jb)), (2, .int x), (3, .int y), (4, .ref (a 18 jb))] [1, 2, 3, 4, 0] dX9_bid_5 (by decide) rfl ?_
    refine j_aload_n C 0 dX9_bid_7 rfl rfl ?_
    refine j_iload_n C 2 dX9_bid_8 rfl rfl ?_
    refine j_callV_q C 1 0 (cc_X9_workAt l d ad adK adV al a n op c hn x) cG_0 rfl gX9_bid_X9_workAt rfl rfl rfl (by decide +kernel) ⟨(Nat.le_of_ble_eq_true rfl), (Nat.le_of_ble_eq_true rfl)⟩ ⟨(Nat.le_of_ble_eq_true rfl), (Nat.le_of_ble_eq_true rfl)⟩ rfl rfl (Nat.le_of_ble_eq_true rfl) dX9_bid_9 (fun r9 u9 h9 => ?_)
    obtain ⟨rfl, rfl⟩ := h9
    by_cases h9k : kW n x
    · obtain ⟨jx, hjx, rfl⟩ := kW_nI hn h9k
      refine j_st (st2 := [.ref (a 13 jx)]) (congrArg (fun z => va_rf z :: _) (oW_j hn hjx)) ?_
      refine j_astore C [(0, .ref (a 0 0)), (1, .int (nI jb)), (2, .int (nI jx)), (3, .int y), (4, .ref (a 18 jb)), (5, .ref (a 13 jx))] [1, 2, 3, 4, 5, 0] dX9_bid_12 (by decide) rfl ?_
      refine j_aload C 4 dX9_bid_14 rfl ?_
      refine j_ifnull C dX9_bid_16 ?_
      refine j_aload C 5 dX9_bid_19 rfl ?_
      refine j_ifnull C dX9_bid_21 ?_
      refine j_iload_n C 3 dX9_bid_24 rfl rfl ?_
      refine j_iconst C 0 dX9_bid_25 (by decide) ?_
      refine j_sipush C 1000 dX9_bid_26 (by decide) ?_
      refine j_callS_i C 3 (cc_X9_isWithin (cEf ad adK adV al) (cEf_k ad adK adV al) l d _ y 0 1000) gX9_bid_X9_isWithin rfl rfl rfl (by decide +kernel) ⟨(Nat.le_of_ble_eq_true rfl), (Nat.le_of_ble_eq_true rfl)⟩ ⟨(Nat.le_of_ble_eq_true rfl), (Nat.le_of_ble_eq_true rfl)⟩ rfl rfl (Nat.le_of_ble_eq_true rfl) dX9_bid_29 (fun r29 u29 h29 => ?_)
      obtain ⟨rfl, rfl⟩ := h29
      refine j_if_ne C 37 dX9_bid_32 (by decide) (fun c32 => ?_) (fun c32 => ?_)
      · have c32 := bI_n0.mp c32
        refine j_aload_n C 0 dX9_bid_37 rfl rfl ?_
        refine j_iload_n C 1 dX9_bid_38 rfl rfl ?_
        refine j_callV_i C 1 0 (cc_X9_costOfBids l d ad adK adV al a n op c hn jb (by omega)) cG_0 rfl gX9_bid_X9_costOfBids rfl rfl rfl (by decide +kernel) ⟨(Nat.le_of_ble_eq_true rfl), (Nat.le_of_ble_eq_true rfl)⟩ ⟨(Nat.le_of_ble_eq_true rfl), (Nat.le_of_ble_eq_true rfl)⟩ rfl rfl (Nat.le_of_ble_eq_true rfl) dX9_bid_39 (fun r39 u39 h39 => ?_)
        obtain ⟨rfl, rfl⟩ := h39
        refine j_iload_n C 3 dX9_bid_42 rfl rfl ?_
        refine j_aload C 5 dX9_bid_43 rfl ?_
        refine kgN_13_asked C hinX8 hjx nst_X9_126 dX9_bid_45 ?_
        refine j_iload_n C 1 dX9_bid_48 rfl rfl ?_
        refine kl_14 C hjx jb rfl (by omega) dX9_bid_49 ?_
        refine j_isub C dX9_bid_50 ?_
        refine j_aload C 5 dX9_bid_51 rfl ?_
        refine kgN_13_priceNow C hinX8 hjx nst_X9_129 dX9_bid_53 ?_
        refine j_imul C dX9_bid_56 ?_
        refine j_iadd C dX9_bid_57 ?_
        refine j_istore C [(0, .ref (a 0 0)), (1, .int (nI jb)), (2, .int (nI jx)), (3, .int y), (4, .ref (a 18 jb)), (5, .ref (a 13 jx)), (6, .int ((cCost c jb (n 0)) + ((y - (c 14 jx jb)) * (c 13 jx 3))))] [1, 2, 3, 4, 5, 6, 0] dX9_bid_58 (by decide) rfl ?_
        refine j_iload C 6 dX9_bid_60 rfl ?_
        refine j_aload C 4 dX9_bid_62 rfl ?_
        refine kg_18_points C hinX4 hjb (by decide +kernel) dX9_bid_64 ?_
        refine j_icmp_le C 72 dX9_bid_67 (by decide) (fun c67 => ?_) (fun c67 => ?_)
        · refine j_aload C 5 dX9_bid_72 rfl ?_
          refine kgN_13_asked C hinX8 hjx nst_X9_126 dX9_bid_74 ?_
          refine j_iload_n C 1 dX9_bid_77 rfl rfl ?_
          refine j_iload_n C 3 dX9_bid_78 rfl rfl ?_
          refine ks_14 C hjx jb rfl (by omega) dX9_bid_79 ?_
          refine j_iload C 6 dX9_bid_80 rfl ?_
          exact j_iret C hQ dX9_bid_82 (⟨by rw [zBid, if_pos (show (kB n (nI (jb)) ∧ kW n (nI jx) ∧ (0 ≤ y ∧ y ≤ 1000)) ∧ zCB n c (tn (nI (jb))) (tn (nI jx)) y ≤ cPts c (tn (nI (jb))) from ⟨⟨(Or.inl h2p), h9k, c32⟩, by rw [tn_nI (show jx < 20000 by omega), tn_nI (show jb < 20000 by omega), show cPts c jb = c 18 jb 0 from if_pos (by omega)]; exact c67⟩), tn_nI (show jx < 20000 by omega), tn_nI (show jb < 20000 by omega)], by rw [zBid, if_pos (show (kB n (nI (jb)) ∧ kW n (nI jx) ∧ (0 ≤ y ∧ y ≤ 1000)) ∧ zCB n c (tn (nI (jb))) (tn (nI jx)) y ≤ cPts c (tn (nI (jb))) from ⟨⟨(Or.inl h2p), h9k, c32⟩, by rw [tn_nI (show jx < 20000 by omega), tn_nI (show jb < 20000 by omega), show cPts c jb = c 18 jb 0 from if_pos (by omega)]; exact c67⟩), tn_nI (show jx < 20000 by omega), tn_nI (show jb < 20000 by omega)]⟩)
        · refine j_iconst C (-1) dX9_bid_70 (by decide) ?_
          exact j_iret C hQ dX9_bid_71 (⟨by rw [zBid, if_neg (fun h => c67 (by have h2 := h.2; rw [tn_nI (show jx < 20000 by omega), tn_nI (show jb < 20000 by omega), show cPts c jb = c 18 jb 0 from if_pos (by omega)] at h2; exact h2))], by rw [zBid, if_neg (fun h => c67 (by have h2 := h.2; rw [tn_nI (show jx < 20000 by omega), tn_nI (show jb < 20000 by omega), show cPts c jb = c 18 jb 0 from if_pos (by omega)] at h2; exact h2))]⟩)
      · have c32 := bI_0.mp c32
        refine j_iconst C (-1) dX9_bid_35 (by decide) ?_
        exact j_iret C hQ dX9_bid_36 (⟨by rw [zBid, if_neg (fun h => c32 h.1.2.2)], by rw [zBid, if_neg (fun h => c32 h.1.2.2)]⟩)
    · refine j_st (st2 := [.null]) (congrArg (fun z => va_rf z :: _) (if_neg h9k)) ?_
      refine j_astoreN C [(0, .ref (a 0 0)), (1, .int (nI jb)), (2, .int x), (3, .int y), (4, .ref (a 18 jb)), (5, .null)] [1, 2, 3, 4, 5, 0] dX9_bid_12 (by decide) rfl ?_
      refine j_aload C 4 dX9_bid_14 rfl ?_
      refine j_ifnull C dX9_bid_16 ?_
      refine j_aloadN C 5 dX9_bid_19 rfl ?_
      refine j_ifnullN C 35 dX9_bid_21 (by decide) ?_
      refine j_iconst C (-1) dX9_bid_35 (by decide) ?_
      exact j_iret C hQ dX9_bid_36 (⟨by rw [zBid, if_neg (fun h => h9k h.1.2.1)], by rw [zBid, if_neg (fun h => h9k h.1.2.1)]⟩)
  · by_cases h2f : kF n b
    · obtain ⟨jb, hjb, rfl⟩ := kF_nI hn h2f
      refine j_st (st2 := [.ref (a 19 jb)]) (congrArg (fun z => va_rf z :: _) (show oB a n (nI (24 + jb)) = some (a 19 jb) by rw [oB, if_neg h2p]; exact oF_j hn hjb)) ?_
      refine j_astore C [(0, .ref (a 0 0)), (1, .int (nI (24 + jb))), (2, .int x), (3, .int y), (4, .ref (a 19 jb))] [1, 2, 3, 4, 0] dX9_bid_5 (by decide) rfl ?_
      refine j_aload_n C 0 dX9_bid_7 rfl rfl ?_
      refine j_iload_n C 2 dX9_bid_8 rfl rfl ?_
      refine j_callV_q C 1 0 (cc_X9_workAt l d ad adK adV al a n op c hn x) cG_0 rfl gX9_bid_X9_workAt rfl rfl rfl (by decide +kernel) ⟨(Nat.le_of_ble_eq_true rfl), (Nat.le_of_ble_eq_true rfl)⟩ ⟨(Nat.le_of_ble_eq_true rfl), (Nat.le_of_ble_eq_true rfl)⟩ rfl rfl (Nat.le_of_ble_eq_true rfl) dX9_bid_9 (fun r9 u9 h9 => ?_)
      obtain ⟨rfl, rfl⟩ := h9
      by_cases h9k : kW n x
      · obtain ⟨jx, hjx, rfl⟩ := kW_nI hn h9k
        refine j_st (st2 := [.ref (a 13 jx)]) (congrArg (fun z => va_rf z :: _) (oW_j hn hjx)) ?_
        refine j_astore C [(0, .ref (a 0 0)), (1, .int (nI (24 + jb))), (2, .int (nI jx)), (3, .int y), (4, .ref (a 19 jb)), (5, .ref (a 13 jx))] [1, 2, 3, 4, 5, 0] dX9_bid_12 (by decide) rfl ?_
        refine j_aload C 4 dX9_bid_14 rfl ?_
        refine j_ifnull C dX9_bid_16 ?_
        refine j_aload C 5 dX9_bid_19 rfl ?_
        refine j_ifnull C dX9_bid_21 ?_
        refine j_iload_n C 3 dX9_bid_24 rfl rfl ?_
        refine j_iconst C 0 dX9_bid_25 (by decide) ?_
        refine j_sipush C 1000 dX9_bid_26 (by decide) ?_
        refine j_callS_i C 3 (cc_X9_isWithin (cEf ad adK adV al) (cEf_k ad adK adV al) l d _ y 0 1000) gX9_bid_X9_isWithin rfl rfl rfl (by decide +kernel) ⟨(Nat.le_of_ble_eq_true rfl), (Nat.le_of_ble_eq_true rfl)⟩ ⟨(Nat.le_of_ble_eq_true rfl), (Nat.le_of_ble_eq_true rfl)⟩ rfl rfl (Nat.le_of_ble_eq_true rfl) dX9_bid_29 (fun r29 u29 h29 => ?_)
        obtain ⟨rfl, rfl⟩ := h29
        refine j_if_ne C 37 dX9_bid_32 (by decide) (fun c32 => ?_) (fun c32 => ?_)
        · have c32 := bI_n0.mp c32
          refine j_aload_n C 0 dX9_bid_37 rfl rfl ?_
          refine j_iload_n C 1 dX9_bid_38 rfl rfl ?_
          refine j_callV_i C 1 0 (cc_X9_costOfBids l d ad adK adV al a n op c hn (24 + jb) (by omega)) cG_0 rfl gX9_bid_X9_costOfBids rfl rfl rfl (by decide +kernel) ⟨(Nat.le_of_ble_eq_true rfl), (Nat.le_of_ble_eq_true rfl)⟩ ⟨(Nat.le_of_ble_eq_true rfl), (Nat.le_of_ble_eq_true rfl)⟩ rfl rfl (Nat.le_of_ble_eq_true rfl) dX9_bid_39 (fun r39 u39 h39 => ?_)
          obtain ⟨rfl, rfl⟩ := h39
          refine j_iload_n C 3 dX9_bid_42 rfl rfl ?_
          refine j_aload C 5 dX9_bid_43 rfl ?_
          refine kgN_13_asked C hinX8 hjx nst_X9_126 dX9_bid_45 ?_
          refine j_iload_n C 1 dX9_bid_48 rfl rfl ?_
          refine kl_14 C hjx (24 + jb) rfl (by omega) dX9_bid_49 ?_
          refine j_isub C dX9_bid_50 ?_
          refine j_aload C 5 dX9_bid_51 rfl ?_
          refine kgN_13_priceNow C hinX8 hjx nst_X9_129 dX9_bid_53 ?_
          refine j_imul C dX9_bid_56 ?_
          refine j_iadd C dX9_bid_57 ?_
          refine j_istore C [(0, .ref (a 0 0)), (1, .int (nI (24 + jb))), (2, .int (nI jx)), (3, .int y), (4, .ref (a 19 jb)), (5, .ref (a 13 jx)), (6, .int ((cCost c (24 + jb) (n 0)) + ((y - (c 14 jx (24 + jb))) * (c 13 jx 3))))] [1, 2, 3, 4, 5, 6, 0] dX9_bid_58 (by decide) rfl ?_
          refine j_iload C 6 dX9_bid_60 rfl ?_
          refine j_aload C 4 dX9_bid_62 rfl ?_
          refine kg_19_points C hinX3 hjb (by decide +kernel) dX9_bid_64 ?_
          refine j_icmp_le C 72 dX9_bid_67 (by decide) (fun c67 => ?_) (fun c67 => ?_)
          · refine j_aload C 5 dX9_bid_72 rfl ?_
            refine kgN_13_asked C hinX8 hjx nst_X9_126 dX9_bid_74 ?_
            refine j_iload_n C 1 dX9_bid_77 rfl rfl ?_
            refine j_iload_n C 3 dX9_bid_78 rfl rfl ?_
            refine ks_14 C hjx (24 + jb) rfl (by omega) dX9_bid_79 ?_
            refine j_iload C 6 dX9_bid_80 rfl ?_
            exact j_iret C hQ dX9_bid_82 (⟨by rw [zBid, if_pos (show (kB n (nI (24 + jb)) ∧ kW n (nI jx) ∧ (0 ≤ y ∧ y ≤ 1000)) ∧ zCB n c (tn (nI (24 + jb))) (tn (nI jx)) y ≤ cPts c (tn (nI (24 + jb))) from ⟨⟨(Or.inr h2f), h9k, c32⟩, by rw [tn_nI (show jx < 20000 by omega), tn_nI (show 24 + jb < 20000 by omega), show cPts c (24 + jb) = c 19 jb 0 by rw [cPts, if_neg (by omega), Nat.add_sub_cancel_left]]; exact c67⟩), tn_nI (show jx < 20000 by omega), tn_nI (show 24 + jb < 20000 by omega)], by rw [zBid, if_pos (show (kB n (nI (24 + jb)) ∧ kW n (nI jx) ∧ (0 ≤ y ∧ y ≤ 1000)) ∧ zCB n c (tn (nI (24 + jb))) (tn (nI jx)) y ≤ cPts c (tn (nI (24 + jb))) from ⟨⟨(Or.inr h2f), h9k, c32⟩, by rw [tn_nI (show jx < 20000 by omega), tn_nI (show 24 + jb < 20000 by omega), show cPts c (24 + jb) = c 19 jb 0 by rw [cPts, if_neg (by omega), Nat.add_sub_cancel_left]]; exact c67⟩), tn_nI (show jx < 20000 by omega), tn_nI (show 24 + jb < 20000 by omega)]⟩)
          · refine j_iconst C (-1) dX9_bid_70 (by decide) ?_
            exact j_iret C hQ dX9_bid_71 (⟨by rw [zBid, if_neg (fun h => c67 (by have h2 := h.2; rw [tn_nI (show jx < 20000 by omega), tn_nI (show 24 + jb < 20000 by omega), show cPts c (24 + jb) = c 19 jb 0 by rw [cPts, if_neg (by omega), Nat.add_sub_cancel_left]] at h2; exact h2))], by rw [zBid, if_neg (fun h => c67 (by have h2 := h.2; rw [tn_nI (show jx < 20000 by omega), tn_nI (show 24 + jb < 20000 by omega), show cPts c (24 + jb) = c 19 jb 0 by rw [cPts, if_neg (by omega), Nat.add_sub_cancel_left]] at h2; exact h2))]⟩)
        · have c32 := bI_0.mp c32
          refine j_iconst C (-1) dX9_bid_35 (by decide) ?_
          exact j_iret C hQ dX9_bid_36 (⟨by rw [zBid, if_neg (fun h => c32 h.1.2.2)], by rw [zBid, if_neg (fun h => c32 h.1.2.2)]⟩)
      · refine j_st (st2 := [.null]) (congrArg (fun z => va_rf z :: _) (if_neg h9k)) ?_
        refine j_astoreN C [(0, .ref (a 0 0)), (1, .int (nI (24 + jb))), (2, .int x), (3, .int y), (4, .ref (a 19 jb)), (5, .null)] [1, 2, 3, 4, 5, 0] dX9_bid_12 (by decide) rfl ?_
        refine j_aload C 4 dX9_bid_14 rfl ?_
        refine j_ifnull C dX9_bid_16 ?_
        refine j_aloadN C 5 dX9_bid_19 rfl ?_
        refine j_ifnullN C 35 dX9_bid_21 (by decide) ?_
        refine j_iconst C (-1) dX9_bid_35 (by decide) ?_
        exact j_iret C hQ dX9_bid_36 (⟨by rw [zBid, if_neg (fun h => h9k h.1.2.1)], by rw [zBid, if_neg (fun h => h9k h.1.2.1)]⟩)
    · refine j_st (st2 := [.null]) (congrArg (fun z => va_rf z :: _) (show oB a n b = none by rw [oB, if_neg h2p]; exact if_neg h2f)) ?_
      refine j_astoreN C [(0, .ref (a 0 0)), (1, .int b), (2, .int x), (3, .int y), (4, .null)] [1, 2, 3, 4, 0] dX9_bid_5 (by decide) rfl ?_
      refine j_aload_n C 0 dX9_bid_7 rfl rfl ?_
      refine j_iload_n C 2 dX9_bid_8 rfl rfl ?_
      refine j_callV_q C 1 0 (cc_X9_workAt l d ad adK adV al a n op c hn x) cG_0 rfl gX9_bid_X9_workAt rfl rfl rfl (by decide +kernel) ⟨(Nat.le_of_ble_eq_true rfl), (Nat.le_of_ble_eq_true rfl)⟩ ⟨(Nat.le_of_ble_eq_true rfl), (Nat.le_of_ble_eq_true rfl)⟩ rfl rfl (Nat.le_of_ble_eq_true rfl) dX9_bid_9 (fun r9 u9 h9 => ?_)
      obtain ⟨rfl, rfl⟩ := h9
      by_cases h9k : kW n x
      · obtain ⟨jx, hjx, rfl⟩ := kW_nI hn h9k
        refine j_st (st2 := [.ref (a 13 jx)]) (congrArg (fun z => va_rf z :: _) (oW_j hn hjx)) ?_
        refine j_astore C [(0, .ref (a 0 0)), (1, .int b), (2, .int (nI jx)), (3, .int y), (4, .null), (5, .ref (a 13 jx))] [1, 2, 3, 4, 5, 0] dX9_bid_12 (by decide) rfl ?_
        refine j_aloadN C 4 dX9_bid_14 rfl ?_
        refine j_ifnullN C 35 dX9_bid_16 (by decide) ?_
        refine j_iconst C (-1) dX9_bid_35 (by decide) ?_
        exact j_iret C hQ dX9_bid_36 (⟨by rw [zBid, if_neg (fun h => (fun h => Or.elim h h2p h2f) h.1.1)], by rw [zBid, if_neg (fun h => (fun h => Or.elim h h2p h2f) h.1.1)]⟩)
      · refine j_st (st2 := [.null]) (congrArg (fun z => va_rf z :: _) (if_neg h9k)) ?_
        refine j_astoreN C [(0, .ref (a 0 0)), (1, .int b), (2, .int x), (3, .int y), (4, .null), (5, .null)] [1, 2, 3, 4, 5, 0] dX9_bid_12 (by decide) rfl ?_
        refine j_aloadN C 4 dX9_bid_14 rfl ?_
        refine j_ifnullN C 35 dX9_bid_16 (by decide) ?_
        refine j_iconst C (-1) dX9_bid_35 (by decide) ?_
        exact j_iret C hQ dX9_bid_36 (⟨by rw [zBid, if_neg (fun h => (fun h => Or.elim h h2p h2f) h.1.1)], by rw [zBid, if_neg (fun h => (fun h => Or.elim h h2p h2f) h.1.1)]⟩)

abbrev okG (n : Nat → Nat) (c : Nat → Nat → Nat → Int32) (b f x : Int32) : Prop := kP n b ∧ kF n f ∧ c 0 0 9 = 0 ∧ 1 ≤ x ∧ x ≤ c 18 (tn b) 0 - cCost c (tn b) (n 0)
def zGive (n : Nat → Nat) (c : Nat → Nat → Nat → Int32) (b f x : Int32) : Int32 × (Nat → Nat → Nat → Int32) := if okG n c b f x then
  (c 20 (tn f - 24) (tn b) + x, cu (cu (cu (cu c 18 (tn b) 0 (c 18 (tn b) 0 - x)) 19 (tn f - 24) 0 (c 19 (tn f - 24) 0 + x)) 19 (tn f - 24) 3 (c 19 (tn f - 24) 3 + x)) 20 (tn f - 24) (tn b) (c 20 (tn f - 24) (tn b) + x)) else (-1, c)

set_option maxHeartbeats 4000000 in
set_option maxRecDepth 100000 in
theorem cc_X9_give (l : Launch) (d : jD) (ad adK adV : Nat → Nat) (al : Nat) (a : Nat → Nat → Nat) (n : Nat → Nat) (op : Option Nat) (c : Nat → Nat → Nat → Int32) (hn : nOK n) (b f x : Int32) : jMi (cEf ad adK adV al) d l yX9_give wsX9_give ({ frames := 2, cells := 0, slots := 0, locals := 45 } : Room) 0 0 [.ref (a 0 0), .int b, .int f, .int x] (cW a d n op ad c) (fun r1 u => r1 = (zGive n c b f x).1 ∧ u = cW a d n op ad (zGive n c b f x).2) := by
  refine jMi.mk (cEf_k ad adK adV al) (by decide) rfl (Nat.le_of_ble_eq_true rfl) (fun X A C hQ => ?_)
  have hinX3 : ∀ w ∈ u_ws RX3 TX3 4, w ∈ wsX9_give := fun w h => List.mem_cons_of_mem _ (List.mem_append_left _ (List.mem_append_left _ (List.mem_append_right _ h)))
  have hinX4 : ∀ w ∈ u_ws RX4 TX4 2, w ∈ wsX9_give := fun w h => List.mem_cons_of_mem _ (List.mem_append_left _ (List.mem_append_right _ h))
  have hinX9 : ∀ w ∈ u_ws RX9 TX9 11, w ∈ wsX9_give := fun w h => List.mem_cons_of_mem _ (List.mem_append_left _ (List.mem_append_left _ (List.mem_append_left _ (List.mem_append_right _ h))))
  obtain ⟨hn0, hn1, hn2⟩ := id hn
  refine j_lvq (lv2 := [(0, .ref (a 0 0)), (1, .int b), (2, .int f), (3, .int x)]) rfl ?_
  refine j_aload_n C 0 dX9_give_0 rfl rfl ?_
  refine j_iload_n C 1 dX9_give_1 rfl rfl ?_
  refine j_callV_q C 1 0 (cc_X9_personAt l d ad adK adV al a n op c hn b) cG_0 rfl gX9_give_X9_personAt rfl rfl rfl (by decide +kernel) ⟨(Nat.le_of_ble_eq_true rfl), (Nat.le_of_ble_eq_true rfl)⟩ ⟨(Nat.le_of_ble_eq_true rfl), (Nat.le_of_ble_eq_true rfl)⟩ rfl rfl (Nat.le_of_ble_eq_true rfl) dX9_give_2 (fun r2 u2 h2 => ?_)
  obtain ⟨rfl, rfl⟩ := h2
  by_cases h2k : kP n b
  · obtain ⟨jb, hjb, rfl⟩ := kP_nI hn h2k
    refine j_st (st2 := [.ref (a 18 jb)]) (congrArg (fun z => va_rf z :: _) (oP_j hn hjb)) ?_
    refine j_astore C [(0, .ref (a 0 0)), (1, .int (nI jb)), (2, .int f), (3, .int x), (4, .ref (a 18 jb))] [1, 2, 3, 4, 0] dX9_give_5 (by decide) rfl ?_
    refine j_aload_n C 0 dX9_give_7 rfl rfl ?_
    refine j_iload_n C 2 dX9_give_8 rfl rfl ?_
    refine j_callV_q C 1 0 (cc_X9_fundAt l d ad adK adV al a n op c hn f) cG_0 rfl gX9_give_X9_fundAt rfl rfl rfl (by decide +kernel) ⟨(Nat.le_of_ble_eq_true rfl), (Nat.le_of_ble_eq_true rfl)⟩ ⟨(Nat.le_of_ble_eq_true rfl), (Nat.le_of_ble_eq_true rfl)⟩ rfl rfl (Nat.le_of_ble_eq_true rfl) dX9_give_9 (fun r9 u9 h9 => ?_)
    obtain ⟨rfl, rfl⟩ := h9
    by_cases h9k : kF n f
    · obtain ⟨jf, hjf, rfl⟩ := kF_nI hn h9k
      refine j_st (st2 := [.ref (a 19 jf)]) (congrArg (fun z => va_rf z :: _) (oF_j hn hjf)) ?_
      refine j_astore C [(0, .ref (a 0 0)), (1, .int (nI jb)), (2, .int (nI (24 + jf))), (3, .int x), (4, .ref (a 18 jb)), (5, .ref (a 19 jf))] [1, 2, 3, 4, 5, 0] dX9_give_12 (by decide) rfl ?_
      refine j_aload C 4 dX9_give_14 rfl ?_
      refine j_ifnull C dX9_give_16 ?_
      refine j_aload C 5 dX9_give_19 rfl ?_
      refine j_ifnull C dX9_give_21 ?_
      refine j_aload_n C 0 dX9_give_24 rfl rfl ?_
      refine kg_0_roundNow C hinX9 (by decide +kernel) dX9_give_25 ?_
      refine j_if_ne C 36 dX9_give_28 (by decide) (fun c28 => ?_) (fun c28 => ?_)
      · refine j_iconst C (-1) dX9_give_36 (by decide) ?_
        exact j_iret C hQ dX9_give_37 (⟨by rw [zGive, if_neg (fun h => c28 h.2.2.1)], by rw [zGive, if_neg (fun h => c28 h.2.2.1)]⟩)
      · refine j_iload_n C 3 dX9_give_31 rfl rfl ?_
        refine j_iconst C 1 dX9_give_32 (by decide) ?_
        refine j_icmp_ge C 38 dX9_give_33 (by decide) (fun c33 => ?_) (fun c33 => ?_)
        · refine j_iload_n C 3 dX9_give_38 rfl rfl ?_
          refine j_aload C 4 dX9_give_39 rfl ?_
          refine j_getS (ref := "CouponSale$Person") C hinX4 (13 + (n 0 + (n 0 + (n 0 + (n 0 + (n 0 + jb)))))) 0 (cG_18 hjb) rfl (by decide) (by decide +kernel) (by decide +kernel) rfl dX9_give_41 ?_
          refine j_aload_n C 0 dX9_give_44 rfl rfl ?_
          refine j_iload_n C 1 dX9_give_45 rfl rfl ?_
          refine j_callV_i C 1 0 (cc_X9_costOfBids l d ad adK adV al a n op c hn jb (by omega)) cG_0 rfl gX9_give_X9_costOfBids rfl rfl rfl (by decide +kernel) ⟨(Nat.le_of_ble_eq_true rfl), (Nat.le_of_ble_eq_true rfl)⟩ ⟨(Nat.le_of_ble_eq_true rfl), (Nat.le_of_ble_eq_true rfl)⟩ rfl rfl (Nat.le_of_ble_eq_true rfl) dX9_give_46 (fun r46 u46 h46 => ?_)
          obtain ⟨rfl, rfl⟩ := h46
          refine j_isub C dX9_give_49 ?_
          refine j_icmp_le C 55 dX9_give_50 (by decide) (fun c50 => ?_) (fun c50 => ?_)
          · refine j_aload C 4 dX9_give_55 rfl ?_
            refine j_dup C dX9_give_57 rfl ?_
            refine j_getS (ref := "CouponSale$Person") C hinX4 (13 + (n 0 + (n 0 + (n 0 + (n 0 + (n 0 + jb)))))) 0 (cG_18 hjb) rfl (by decide) (by decide +kernel) (by decide +kernel) rfl dX9_give_58 ?_
            refine j_iload_n C 3 dX9_give_61 rfl rfl ?_
            refine j_isub C dX9_give_62 ?_
            refine j_putS (ref := "CouponSale$Person") C hinX4 tyX4_ok nmX4 (13 + (n 0 + (n 0 + (n 0 + (n 0 + (n 0 + jb)))))) 0 (cG_18 hjb) rfl (by decide) (by decide +kernel) (by decide +kernel) rfl (ty := .int) rfl rfl rfl (by decide : 0 < 2) (cS_18_0 hjb) dX9_give_63 ?_
            refine j_aload C 5 dX9_give_66 rfl ?_
            refine j_dup C dX9_give_68 rfl ?_
            refine j_getS (ref := "CouponSale$Fund") C hinX3 (13 + (n 0 + (n 0 + (n 0 + (n 0 + (n 0 + (n 1 + jf))))))) 0 (cG_19 hjf) rfl (by decide) (by decide +kernel) (by decide +kernel) rfl dX9_give_69 ?_
            refine j_st (st2 := [.int (c 19 jf 0), .ref (a 19 jf)]) (congrArg (fun z => Value.int z :: _) (by simp [cu_at] : (cu c 18 jb 0 ((c 18 jb 0) - x)) 19 jf 0 = c 19 jf 0)) ?_
            refine j_iload_n C 3 dX9_give_72 rfl rfl ?_
            refine j_iadd C dX9_give_73 ?_
            refine j_putS (ref := "CouponSale$Fund") C hinX3 tyX3_ok nmX3 (13 + (n 0 + (n 0 + (n 0 + (n 0 + (n 0 + (n 1 + jf))))))) 0 (cG_19 hjf) rfl (by decide) (by decide +kernel) (by decide +kernel) rfl (ty := .int) rfl rfl rfl (by decide : 0 < 4) (cS_19_0 hjf) dX9_give_74 ?_
            refine j_aload C 5 dX9_give_77 rfl ?_
            refine j_dup C dX9_give_79 rfl ?_
            refine kgN_19_given C hinX3 hjf nst_X9_116 dX9_give_80 ?_
            refine j_st (st2 := [.int (c 19 jf 3), .ref (a 19 jf)]) (congrArg (fun z => Value.int z :: _) (by simp [cu_at] : (cu (cu c 18 jb 0 ((c 18 jb 0) - x)) 19 jf 0 ((c 19 jf 0) + x)) 19 jf 3 = c 19 jf 3)) ?_
            refine j_iload_n C 3 dX9_give_83 rfl rfl ?_
            refine j_iadd C dX9_give_84 ?_
            refine kpN_19_given C hinX3 hjf nst_X9_116 dX9_give_85 ?_
            refine j_aload C 5 dX9_give_88 rfl ?_
            refine kgN_19_givenBy C hinX3 hjf nst_X9_119 dX9_give_90 ?_
            refine j_iload_n C 1 dX9_give_93 rfl rfl ?_
            refine j_dup2 C dX9_give_94 rfl rfl ?_
            refine kl_20 C hjf jb rfl (by omega) dX9_give_95 ?_
            refine j_st (st2 := [.int (c 20 jf jb), .int (nI jb), .ref (a 20 jf)]) (congrArg (fun z => Value.int z :: _) (by simp [cu_at] : (cu (cu (cu c 18 jb 0 ((c 18 jb 0) - x)) 19 jf 0 ((c 19 jf 0) + x)) 19 jf 3 ((c 19 jf 3) + x)) 20 jf jb = c 20 jf jb)) ?_
            refine j_iload_n C 3 dX9_give_96 rfl rfl ?_
            refine j_iadd C dX9_give_97 ?_
            refine ks_20 C hjf jb rfl (by omega) dX9_give_98 ?_
            refine j_aload C 5 dX9_give_99 rfl ?_
            refine kgN_19_givenBy C hinX3 hjf nst_X9_119 dX9_give_101 ?_
            refine j_iload_n C 1 dX9_give_104 rfl rfl ?_
            refine kl_20 C hjf jb rfl (by omega) dX9_give_105 ?_
            refine j_st (st2 := [.int ((c 20 jf jb) + x)]) (congrArg (fun z => Value.int z :: _) (cu_same (cu (cu (cu c 18 jb 0 ((c 18 jb 0) - x)) 19 jf 0 ((c 19 jf 0) + x)) 19 jf 3 ((c 19 jf 3) + x)) 20 jf jb ((c 20 jf jb) + x))) ?_
            exact j_iret C hQ dX9_give_106 (⟨by rw [zGive, if_pos ⟨h2k, h9k, c28, c33, by rw [tn_nI (show jb < 20000 by omega)]; exact c50⟩]; simp only [tn_nI (show jb < 20000 by omega), tn_nI (show 24 + jf < 20000 by omega), Nat.add_sub_cancel_left], by rw [zGive, if_pos ⟨h2k, h9k, c28, c33, by rw [tn_nI (show jb < 20000 by omega)]; exact c50⟩]; simp only [tn_nI (show jb < 20000 by omega), tn_nI (show 24 + jf < 20000 by omega), Nat.add_sub_cancel_left]⟩)
          · refine j_iconst C (-1) dX9_give_53 (by decide) ?_
            exact j_iret C hQ dX9_give_54 (⟨by rw [zGive, if_neg (fun h => c50 (by have h2 := h.2.2.2.2; rw [tn_nI (show jb < 20000 by omega)] at h2; exact h2))], by rw [zGive, if_neg (fun h => c50 (by have h2 := h.2.2.2.2; rw [tn_nI (show jb < 20000 by omega)] at h2; exact h2))]⟩)
        · refine j_iconst C (-1) dX9_give_36 (by decide) ?_
          exact j_iret C hQ dX9_give_37 (⟨by rw [zGive, if_neg (fun h => c33 h.2.2.2.1)], by rw [zGive, if_neg (fun h => c33 h.2.2.2.1)]⟩)
    · refine j_st (st2 := [.null]) (congrArg (fun z => va_rf z :: _) (if_neg h9k)) ?_
      refine j_astoreN C [(0, .ref (a 0 0)), (1, .int (nI jb)), (2, .int f), (3, .int x), (4, .ref (a 18 jb)), (5, .null)] [1, 2, 3, 4, 5, 0] dX9_give_12 (by decide) rfl ?_
      refine j_aload C 4 dX9_give_14 rfl ?_
      refine j_ifnull C dX9_give_16 ?_
      refine j_aloadN C 5 dX9_give_19 rfl ?_
      refine j_ifnullN C 36 dX9_give_21 (by decide) ?_
      refine j_iconst C (-1) dX9_give_36 (by decide) ?_
      exact j_iret C hQ dX9_give_37 (⟨by rw [zGive, if_neg (fun h => h9k h.2.1)], by rw [zGive, if_neg (fun h => h9k h.2.1)]⟩)
  · refine j_st (st2 := [.null]) (congrArg (fun z => va_rf z :: _) (if_neg h2k)) ?_
    refine j_astoreN C [(0, .ref (a 0 0)), (1, .int b), (2, .int f), (3, .int x), (4, .null)] [1, 2, 3, 4, 0] dX9_give_5 (by decide) rfl ?_
    refine j_aload_n C 0 dX9_give_7 rfl rfl ?_
    refine j_iload_n C 2 dX9_give_8 rfl rfl ?_
    refine j_callV_q C 1 0 (cc_X9_fundAt l d ad adK adV al a n op c hn f) cG_0 rfl gX9_give_X9_fundAt rfl rfl rfl (by decide +kernel) ⟨(Nat.le_of_ble_eq_true rfl), (Nat.le_of_ble_eq_true rfl)⟩ ⟨(Nat.le_of_ble_eq_true rfl), (Nat.le_of_ble_eq_true rfl)⟩ rfl rfl (Nat.le_of_ble_eq_true rfl) dX9_give_9 (fun r9 u9 h9 => ?_)
    obtain ⟨rfl, rfl⟩ := h9
    by_cases h9k : kF n f
    · obtain ⟨jf, hjf, rfl⟩ := kF_nI hn h9k
      refine j_st (st2 := [.ref (a 19 jf)]) (congrArg (fun z => va_rf z :: _) (oF_j hn hjf)) ?_
      refine j_astore C [(0, .ref (a 0 0)), (1, .int b), (2, .int (nI (24 + jf))), (3, .int x), (4, .null), (5, .ref (a 19 jf))] [1, 2, 3, 4, 5, 0] dX9_give_12 (by decide) rfl ?_
      refine j_aloadN C 4 dX9_give_14 rfl ?_
      refine j_ifnullN C 36 dX9_give_16 (by decide) ?_
      refine j_iconst C (-1) dX9_give_36 (by decide) ?_
      exact j_iret C hQ dX9_give_37 (⟨by rw [zGive, if_neg (fun h => h2k h.1)], by rw [zGive, if_neg (fun h => h2k h.1)]⟩)
    · refine j_st (st2 := [.null]) (congrArg (fun z => va_rf z :: _) (if_neg h9k)) ?_
      refine j_astoreN C [(0, .ref (a 0 0)), (1, .int b), (2, .int f), (3, .int x), (4, .null), (5, .null)] [1, 2, 3, 4, 5, 0] dX9_give_12 (by decide) rfl ?_
      refine j_aloadN C 4 dX9_give_14 rfl ?_
      refine j_ifnullN C 36 dX9_give_16 (by decide) ?_
      refine j_iconst C (-1) dX9_give_36 (by decide) ?_
      exact j_iret C hQ dX9_give_37 (⟨by rw [zGive, if_neg (fun h => h2k h.1)], by rw [zGive, if_neg (fun h => h2k h.1)]⟩)


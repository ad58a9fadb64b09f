/-! reads of the reference -/
abbrev tn (x : Int32) : Nat := x.toNatClampNeg
def mI (m : Nat → Nat → Int32) (nW nP nF rd tp : Nat) : Prop := m 30 0 = nI nW ∧ nW ≤ 10 ∧ m 31 0 = nI nP ∧ nP ≤ 24 ∧ m 32 0 = nI nF ∧ nF ≤ 4 ∧ m 33 0 = nI rd ∧ rd ≤ 49 ∧ m 2 0 = nI tp ∧ tp ≤ 140
theorem tn_nI {j : Nat} (h : j < 20000) : tn (nI j) = j := nI_clamp (by omega)
def mAskd (m : Nat → Nat → Int32) (x : Nat) : Nat → Int32
  | 0 => 0
  | n + 1 => mAskd m x n + m 27 (10 * n + x)
def mHeldS (m : Nat → Nat → Int32) (b : Nat) : Nat → Int32
  | 0 => 0
  | n + 1 => mHeldS m b n + m 28 (10 * b + n)
def mAll (m : Nat → Nat → Int32) (b : Nat) : Nat → Int64
  | 0 => (m 22 b).toInt64
  | n + 1 => mAll m b n + (m 28 (10 * b + n)).toInt64 * (m 19 n).toInt64
abbrev mKept (m : Nat → Nat → Int32) (b nW : Nat) : Prop := ¬ lg_cmp (100 * mAll m b nW) ((m 24 (b - 24)).toInt64 * (m 25 (b - 24)).toInt64) < 0
def mHeldAt (m : Nat → Nat → Int32) (b x r : Nat) : Int32 := if nI r = m 33 0 then m 28 (10 * b + x) else m 29 (280 * r + 10 * b + x)
def sAsks (m : Nat → Nat → Int32) (b x : Int32) : Int32 := if isB m b ∧ isW m x then m 27 (10 * tn b + tn x) else -1
def sHolds (m : Nat → Nat → Int32) (b x r : Int32) : Int32 := if isB m b ∧ isW m x ∧ isR m r then mHeldAt m (tn b) (tn x) (tn r) else -1
def sPrice (m : Nat → Nat → Int32) (x r : Int32) : Int32 := if isW m x ∧ m 21 (tn x) ≤ r ∧ r ≤ m 33 0 then m 20 (50 * tn x + tn r) else -1
def sRule (m : Nat → Nat → Int32) (k : Int32) : Int32 := if 0 ≤ k ∧ k < 6 then m 3 (tn k) else -1
def sCount (m : Nat → Nat → Int32) (x : Int32) : Int32 := if x = 0 then m 33 0 else if x = 1 then m 30 0 else if x = 2 then m 31 0 else if x = 3 then m 32 0 else if x = 4 then m 34 0 else if x = 5 then m 2 0 else -1
def sAbout (m : Nat → Nat → Int32) (x y : Int32) : Int32 := if isW m x then (if y = 0 then m 17 (tn x) else if y = 1 then m 18 (tn x) else if y = 2 then m 19 (tn x) else if y = 3 then mAskd m (tn x) 28 else -1) else -1
def vPurse (m : Nat → Nat → Int32) (b y : Int32) (nW : Nat) : Int32 := if y = 0 then m 22 (tn b) else if y = 1 then mCost m (tn b) nW else if y = 2 then (if isF m b then m 25 (tn b - 24) else -1) else if y = 3 then (if isF m b then bI (mKept m (tn b) nW) else -1) else mHeldS m (tn b) nW
abbrev okPurse (m : Nat → Nat → Int32) (b y : Int32) : Prop := isB m b ∧ 0 ≤ y ∧ y ≤ 4
theorem i32_lo {x : Int32} {n : Nat} (h : x.toInt = n) (hn : n < 2 ^ 31) : x = nI n := by
  apply Int32.toInt_inj.mp
  rw [h, nI_toInt hn]
theorem sw4 (x : Int32) : x = 0 ∨ x = 1 ∨ x = 2 ∨ x = 3 ∨ (x.toInt < 0 ∨ 3 < x.toInt) := by
  by_cases h : x.toInt < 0 ∨ 3 < x.toInt
  · exact Or.inr (Or.inr (Or.inr (Or.inr h)))
  · rcases (by omega : x.toInt = (0 : Nat) ∨ x.toInt = (1 : Nat) ∨ x.toInt = (2 : Nat) ∨ x.toInt = (3 : Nat)) with h | h | h | h
    · exact Or.inl (i32_lo h (by decide))
    · exact Or.inr (Or.inl (i32_lo h (by decide)))
    · exact Or.inr (Or.inr (Or.inl (i32_lo h (by decide))))
    · exact Or.inr (Or.inr (Or.inr (Or.inl (i32_lo h (by decide)))))
theorem sw6 (x : Int32) : x = 0 ∨ x = 1 ∨ x = 2 ∨ x = 3 ∨ x = 4 ∨ x = 5 ∨ (x.toInt < 0 ∨ 5 < x.toInt) := by
  by_cases h : x.toInt < 0 ∨ 5 < x.toInt
  · exact Or.inr (Or.inr (Or.inr (Or.inr (Or.inr (Or.inr h)))))
  · rcases (by omega : x.toInt = (0 : Nat) ∨ x.toInt = (1 : Nat) ∨ x.toInt = (2 : Nat) ∨ x.toInt = (3 : Nat) ∨ x.toInt = (4 : Nat) ∨ x.toInt = (5 : Nat)) with h | h | h | h | h | h
    · exact Or.inl (i32_lo h (by decide))
    · exact Or.inr (Or.inl (i32_lo h (by decide)))
    · exact Or.inr (Or.inr (Or.inl (i32_lo h (by decide))))
    · exact Or.inr (Or.inr (Or.inr (Or.inl (i32_lo h (by decide)))))
    · exact Or.inr (Or.inr (Or.inr (Or.inr (Or.inl (i32_lo h (by decide))))))
    · exact Or.inr (Or.inr (Or.inr (Or.inr (Or.inr (Or.inl (i32_lo h (by decide)))))))
theorem sw_ne {x : Int32} {k : Nat} (h : x.toInt < 0 ∨ k < x.toInt) (hk : k < 100) {j : Nat} (hj : j ≤ k) : ¬ x = nI j := by
  rintro rfl
  rw [nI_toInt (by omega)] at h
  omega

set_option maxHeartbeats 4000000 in
set_option maxRecDepth 100000 in
theorem cm_asks (l : Launch) (d : jD) (o : Nat) (q : Nat → Nat) (m : Nat → Nat → Int32) (w : Int64) (b x : Int32) (nW nP nF rd tp : Nat) (hI : mI m nW nP nF rd tp) : jMi noE d l yX10_asks wsX10_asks ({ frames := 2, cells := 0, slots := 0, locals := 42 } : Room) 0 0 [.ref o, .int b, .int x] (mW o q d m w) (fun r u => r = sAsks m b x ∧ u = mW o q d (mu m 0 0 0) w) := by
  refine jMi.mk noE_k (by decide) rfl (Nat.le_of_ble_eq_true rfl) (fun X A C hQ => ?_)
  have hin : ∀ w ∈ u_ws RX10 TX10 37, w ∈ wsX10_asks := fun w h => List.mem_cons_of_mem _ (List.mem_append_right _ h)
  obtain ⟨hW, hnW, hPp, hnP, hF, hnF, hR, hrd, hT, htp⟩ := hI
  refine j_lvq (lv2 := [(0, .ref o), (1, .int b), (2, .int x)]) rfl ?_
  refine j_aload_n C 0 dX10_asks_0 rfl rfl ?_
  refine j_iconst C 0 dX10_asks_1 (by decide) ?_
  refine mp_thrown C hin (by decide +kernel) dX10_asks_2 ?_
  refine j_aload_n C 0 dX10_asks_5 rfl rfl ?_
  refine j_iload_n C 1 dX10_asks_6 rfl rfl ?_
  refine j_callV_i C 1 0 (cm_isBidder l d o q (mu m 0 0 0) w b) rfl rfl gX10_asks_X10_isBidder rfl rfl rfl (by decide +kernel) ⟨(Nat.le_of_ble_eq_true rfl), (Nat.le_of_ble_eq_true rfl)⟩ ⟨(Nat.le_of_ble_eq_true rfl), (Nat.le_of_ble_eq_true rfl)⟩ rfl rfl (Nat.le_of_ble_eq_true rfl) dX10_asks_7 (fun r7 u7 h7 => ?_)
  obtain ⟨rfl, rfl⟩ := h7
  refine j_if_eq C 35 dX10_asks_10 (by decide) (fun c10 => ?_) (fun c10 => ?_)
  · have c10 : ¬ isB m b := bI_0.mp c10
    refine j_iconst C (-1) dX10_asks_35 (by decide) ?_
    exact j_iret C hQ dX10_asks_36 (⟨by simp only [sAsks, if_neg (fun h : isB m b ∧ isW m x => c10 h.1)], rfl⟩)
  · have c10 : isB m b := bI_n0.mp c10
    obtain ⟨jb, hjb, hjbb, rfl⟩ := isB_nI hPp hnP hF hnF c10
    refine j_aload_n C 0 dX10_asks_13 rfl rfl ?_
    refine j_iload_n C 2 dX10_asks_14 rfl rfl ?_
    refine j_callV_i C 1 0 (cm_isWork l d o q (mu m 0 0 0) w x) rfl rfl gX10_asks_X10_isWork rfl rfl rfl (by decide +kernel) ⟨(Nat.le_of_ble_eq_true rfl), (Nat.le_of_ble_eq_true rfl)⟩ ⟨(Nat.le_of_ble_eq_true rfl), (Nat.le_of_ble_eq_true rfl)⟩ rfl rfl (Nat.le_of_ble_eq_true rfl) dX10_asks_15 (fun r15 u15 h15 => ?_)
    obtain ⟨rfl, rfl⟩ := h15
    refine j_if_eq C 35 dX10_asks_18 (by decide) (fun c18 => ?_) (fun c18 => ?_)
    · have c18 : ¬ isW m x := bI_0.mp c18
      refine j_iconst C (-1) dX10_asks_35 (by decide) ?_
      exact j_iret C hQ dX10_asks_36 (⟨by simp only [sAsks, if_neg (fun h : isB m (nI jb) ∧ isW m x => c18 h.2)], rfl⟩)
    · have c18 : isW m x := bI_n0.mp c18
      obtain ⟨jx, hjx, rfl⟩ := isW_nI hW hnW c18
      refine j_aload_n C 0 dX10_asks_21 rfl rfl ?_
      refine mg_asked C hin (by decide +kernel) dX10_asks_22 ?_
      refine j_bipush C 10 dX10_asks_25 (by decide) ?_
      refine j_iload_n C 1 dX10_asks_27 rfl rfl ?_
      refine j_imul C dX10_asks_28 ?_
      refine j_iload_n C 2 dX10_asks_29 rfl rfl ?_
      refine j_iadd C dX10_asks_30 ?_
      refine ml_asked C (10 * jb + jx) (ix10 jb jx) (by omega) dX10_asks_31 ?_
      refine j_st (st2 := [.int (m 27 (10 * jb + jx))]) rfl ?_
      refine j_goto C 36 dX10_asks_32 (by decide) ?_
      exact j_iret C hQ dX10_asks_36 (⟨by simp only [sAsks, if_pos (And.intro c10 c18), tn, tn_nI (show jb < 20000 by omega), tn_nI (show jx < 20000 by omega)], rfl⟩)

set_option maxHeartbeats 4000000 in
set_option maxRecDepth 100000 in
theorem cm_heldAsOf (l : Launch) (d : jD) (o : Nat) (q : Nat → Nat) (m : Nat → Nat → Int32) (w : Int64) (b x r : Nat) (hb : b < 28) (hx : x < 10) (hr : r < 50) : jMi noE d l yX10_heldAsOf wsX10_heldAsOf ({ frames := 0, cells := 0, slots := 0, locals := 0 } : Room) 0 0 [.ref o, .int (nI b), .int (nI x), .int (nI r)] (mW o q d m w) (fun r1 u => r1 = mHeldAt m b x r ∧ u = mW o q d m w) := by
  refine jMi.mk noE_k (by decide) rfl (Nat.le_of_ble_eq_true rfl) (fun X A C hQ => ?_)
  have hin : ∀ w ∈ u_ws RX10 TX10 37, w ∈ wsX10_heldAsOf := fun w h => List.mem_cons_of_mem _ (List.mem_append_right _ h)
  refine j_lvq (lv2 := [(0, .ref o), (1, .int (nI b)), (2, .int (nI x)), (3, .int (nI r))]) rfl ?_
  refine j_iload_n C 3 dX10_heldAsOf_0 rfl rfl ?_
  refine j_aload_n C 0 dX10_heldAsOf_1 rfl rfl ?_
  refine mg_round C hin (by decide +kernel) dX10_heldAsOf_2 ?_
  refine j_icmp_ne C 22 dX10_heldAsOf_5 (by decide) (fun c5 => ?_) (fun c5 => ?_)
  · refine j_aload_n C 0 dX10_heldAsOf_22 rfl rfl ?_
    refine mg_was C hin (by decide +kernel) dX10_heldAsOf_23 ?_
    refine j_sipush C 280 dX10_heldAsOf_26 (by decide) ?_
    refine j_iload_n C 3 dX10_heldAsOf_29 rfl rfl ?_
    refine j_imul C dX10_heldAsOf_30 ?_
    refine j_bipush C 10 dX10_heldAsOf_31 (by decide) ?_
    refine j_iload_n C 1 dX10_heldAsOf_33 rfl rfl ?_
    refine j_imul C dX10_heldAsOf_34 ?_
    refine j_iadd C dX10_heldAsOf_35 ?_
    refine j_iload_n C 2 dX10_heldAsOf_36 rfl rfl ?_
    refine j_iadd C dX10_heldAsOf_37 ?_
    refine ml_was C (280 * r + 10 * b + x) (ix280b r b x) (by omega) dX10_heldAsOf_38 ?_
    exact j_iret C hQ dX10_heldAsOf_39 (⟨by simp only [mHeldAt, if_neg c5], rfl⟩)
  · refine j_aload_n C 0 dX10_heldAsOf_8 rfl rfl ?_
    refine mg_held C hin (by decide +kernel) dX10_heldAsOf_9 ?_
    refine j_bipush C 10 dX10_heldAsOf_12 (by decide) ?_
    refine j_iload_n C 1 dX10_heldAsOf_14 rfl rfl ?_
    refine j_imul C dX10_heldAsOf_15 ?_
    refine j_iload_n C 2 dX10_heldAsOf_16 rfl rfl ?_
    refine j_iadd C dX10_heldAsOf_17 ?_
    refine ml_held C (10 * b + x) (ix10 b x) (by omega) dX10_heldAsOf_18 ?_
    refine j_goto C 39 dX10_heldAsOf_19 (by decide) ?_
    exact j_iret C hQ dX10_heldAsOf_39 (⟨by simp only [mHeldAt, if_pos c5], rfl⟩)

set_option maxHeartbeats 4000000 in
set_option maxRecDepth 100000 in
theorem cm_holds (l : Launch) (d : jD) (o : Nat) (q : Nat → Nat) (m : Nat → Nat → Int32) (w : Int64) (b x r : Int32) (nW nP nF rd tp : Nat) (hI : mI m nW nP nF rd tp) : jMi noE d l yX10_holds wsX10_holds ({ frames := 2, cells := 0, slots := 0, locals := 42 } : Room) 0 0 [.ref o, .int b, .int x, .int r] (mW o q d m w) (fun r1 u => r1 = sHolds m b x r ∧ u = mW o q d (mu m 0 0 0) w) := by
  refine jMi.mk noE_k (by decide) rfl (Nat.le_of_ble_eq_true rfl) (fun X A C hQ => ?_)
  have hin : ∀ w ∈ u_ws RX10 TX10 37, w ∈ wsX10_holds := fun w h => List.mem_cons_of_mem _ (List.mem_append_right _ h)
  obtain ⟨hW, hnW, hPp, hnP, hF, hnF, hR, hrd, hT, htp⟩ := hI
  refine j_lvq (lv2 := [(0, .ref o), (1, .int b), (2, .int x), (3, .int r)]) rfl ?_
  refine j_aload_n C 0 dX10_holds_0 rfl rfl ?_
  refine j_iconst C 0 dX10_holds_1 (by decide) ?_
  refine mp_thrown C hin (by decide +kernel) dX10_holds_2 ?_
  refine j_aload_n C 0 dX10_holds_5 rfl rfl ?_
  refine j_iload_n C 1 dX10_holds_6 rfl rfl ?_
  refine j_callV_i C 1 0 (cm_isBidder l d o q (mu m 0 0 0) w b) rfl rfl gX10_holds_X10_isBidder rfl rfl rfl (by decide +kernel) ⟨(Nat.le_of_ble_eq_true rfl), (Nat.le_of_ble_eq_true rfl)⟩ ⟨(Nat.le_of_ble_eq_true rfl), (Nat.le_of_ble_eq_true rfl)⟩ rfl rfl (Nat.le_of_ble_eq_true rfl) dX10_holds_7 (fun r7 u7 h7 => ?_)
  obtain ⟨rfl, rfl⟩ := h7
  refine j_if_eq C 39 dX10_holds_10 (by decide) (fun c10 => ?_) (fun c10 => ?_)
  · have c10 : ¬ isB m b := bI_0.mp c10
    refine j_iconst C (-1) dX10_holds_39 (by decide) ?_
    exact j_iret C hQ dX10_holds_40 (⟨by simp only [sHolds, if_neg (fun h : isB m b ∧ isW m x ∧ isR m r => c10 h.1)], rfl⟩)
  · have c10 : isB m b := bI_n0.mp c10
    obtain ⟨jb, hjb, hjbb, rfl⟩ := isB_nI hPp hnP hF hnF c10
    refine j_aload_n C 0 dX10_holds_13 rfl rfl ?_
    refine j_iload_n C 2 dX10_holds_14 rfl rfl ?_
    refine j_callV_i C 1 0 (cm_isWork l d o q (mu m 0 0 0) w x) rfl rfl gX10_holds_X10_isWork rfl rfl rfl (by decide +kernel) ⟨(Nat.le_of_ble_eq_true rfl), (Nat.le_of_ble_eq_true rfl)⟩ ⟨(Nat.le_of_ble_eq_true rfl), (Nat.le_of_ble_eq_true rfl)⟩ rfl rfl (Nat.le_of_ble_eq_true rfl) dX10_holds_15 (fun r15 u15 h15 => ?_)
    obtain ⟨rfl, rfl⟩ := h15
    refine j_if_eq C 39 dX10_holds_18 (by decide) (fun c18 => ?_) (fun c18 => ?_)
    · have c18 : ¬ isW m x := bI_0.mp c18
      refine j_iconst C (-1) dX10_holds_39 (by decide) ?_
      exact j_iret C hQ dX10_holds_40 (⟨by simp only [sHolds, if_neg (fun h : isB m (nI jb) ∧ isW m x ∧ isR m r => c18 h.2.1)], rfl⟩)
    · have c18 : isW m x := bI_n0.mp c18
      obtain ⟨jx, hjx, rfl⟩ := isW_nI hW hnW c18
      refine j_aload_n C 0 dX10_holds_21 rfl rfl ?_
      refine j_iload_n C 3 dX10_holds_22 rfl rfl ?_
      refine j_callV_i C 1 0 (cm_isRound l d o q (mu m 0 0 0) w r) rfl rfl gX10_holds_X10_isRound rfl rfl rfl (by decide +kernel) ⟨(Nat.le_of_ble_eq_true rfl), (Nat.le_of_ble_eq_true rfl)⟩ ⟨(Nat.le_of_ble_eq_true rfl), (Nat.le_of_ble_eq_true rfl)⟩ rfl rfl (Nat.le_of_ble_eq_true rfl) dX10_holds_23 (fun r23 u23 h23 => ?_)
      obtain ⟨rfl, rfl⟩ := h23
      refine j_if_eq C 39 dX10_holds_26 (by decide) (fun c26 => ?_) (fun c26 => ?_)
      · have c26 : ¬ isR m r := bI_0.mp c26
        refine j_iconst C (-1) dX10_holds_39 (by decide) ?_
        exact j_iret C hQ dX10_holds_40 (⟨by simp only [sHolds, if_neg (fun h : isB m (nI jb) ∧ isW m (nI jx) ∧ isR m r => c26 h.2.2)], rfl⟩)
      · have c26 : isR m r := bI_n0.mp c26
        obtain ⟨jr, hjr, rfl⟩ := isR_nI hR hrd c26
        refine j_aload_n C 0 dX10_holds_29 rfl rfl ?_
        refine j_iload_n C 1 dX10_holds_30 rfl rfl ?_
        refine j_iload_n C 2 dX10_holds_31 rfl rfl ?_
        refine j_iload_n C 3 dX10_holds_32 rfl rfl ?_
        refine j_callV_i C 3 0 (cm_heldAsOf l d o q (mu m 0 0 0) w jb jx jr (by omega) (by omega) (by omega)) rfl rfl gX10_holds_X10_heldAsOf rfl rfl rfl (by decide +kernel) ⟨(Nat.le_of_ble_eq_true rfl), (Nat.le_of_ble_eq_true rfl)⟩ ⟨(Nat.le_of_ble_eq_true rfl), (Nat.le_of_ble_eq_true rfl)⟩ rfl rfl (Nat.le_of_ble_eq_true rfl) dX10_holds_33 (fun r33 u33 h33 => ?_)
        obtain ⟨rfl, rfl⟩ := h33
        refine j_goto C 40 dX10_holds_36 (by decide) ?_
        exact j_iret C hQ dX10_holds_40 (⟨by simp only [sHolds, if_pos (And.intro c10 (And.intro c18 c26)), tn, tn_nI (show jb < 20000 by omega), tn_nI (show jx < 20000 by omega), tn_nI (show jr < 20000 by omega)]; rfl, rfl⟩)

set_option maxHeartbeats 4000000 in
set_option maxRecDepth 100000 in
theorem cm_price (l : Launch) (d : jD) (o : Nat) (q : Nat → Nat) (m : Nat → Nat → Int32) (w : Int64) (x r : Int32) (nW nP nF rd tp : Nat) (hI : mI m nW nP nF rd tp) (hs : ∀ j, j < nW → 0 ≤ m 21 j) : jMi noE d l yX10_price wsX10_price ({ frames := 1, cells := 0, slots := 0, locals := 21 } : Room) 0 0 [.ref o, .int x, .int r] (mW o q d m w) (fun r1 u => r1 = sPrice m x r ∧ u = mW o q d (mu m 0 0 0) w) := by
  refine jMi.mk noE_k (by decide) rfl (Nat.le_of_ble_eq_true rfl) (fun X A C hQ => ?_)
  have hin : ∀ w ∈ u_ws RX10 TX10 37, w ∈ wsX10_price := fun w h => List.mem_cons_of_mem _ (List.mem_append_right _ h)
  obtain ⟨hW, hnW, hPp, hnP, hF, hnF, hR, hrd, hT, htp⟩ := hI
  refine j_lvq (lv2 := [(0, .ref o), (1, .int x), (2, .int r)]) rfl ?_
  refine j_aload_n C 0 dX10_price_0 rfl rfl ?_
  refine j_iconst C 0 dX10_price_1 (by decide) ?_
  refine mp_thrown C hin (by decide +kernel) dX10_price_2 ?_
  refine j_aload_n C 0 dX10_price_5 rfl rfl ?_
  refine j_iload_n C 1 dX10_price_6 rfl rfl ?_
  refine j_callV_i C 1 0 (cm_isWork l d o q (mu m 0 0 0) w x) rfl rfl gX10_price_X10_isWork rfl rfl rfl (by decide +kernel) ⟨(Nat.le_of_ble_eq_true rfl), (Nat.le_of_ble_eq_true rfl)⟩ ⟨(Nat.le_of_ble_eq_true rfl), (Nat.le_of_ble_eq_true rfl)⟩ rfl rfl (Nat.le_of_ble_eq_true rfl) dX10_price_7 (fun r7 u7 h7 => ?_)
  obtain ⟨rfl, rfl⟩ := h7
  refine j_if_eq C 45 dX10_price_10 (by decide) (fun c10 => ?_) (fun c10 => ?_)
  · have c10 : ¬ isW m x := bI_0.mp c10
    refine j_iconst C (-1) dX10_price_45 (by decide) ?_
    exact j_iret C hQ dX10_price_46 (⟨by simp only [sPrice, if_neg (fun h : isW m x ∧ m 21 (tn x) ≤ r ∧ r ≤ m 33 0 => c10 h.1)], rfl⟩)
  · have c10 : isW m x := bI_n0.mp c10
    obtain ⟨jx, hjx, rfl⟩ := isW_nI hW hnW c10
    refine j_iload_n C 2 dX10_price_13 rfl rfl ?_
    refine j_aload_n C 0 dX10_price_14 rfl rfl ?_
    refine mg_since C hin (by decide +kernel) dX10_price_15 ?_
    refine j_iload_n C 1 dX10_price_18 rfl rfl ?_
    refine ml_since C jx rfl (by omega) dX10_price_19 ?_
    refine j_st (st2 := [.int (m 21 jx), .int r]) rfl ?_
    refine j_icmp_lt C 45 dX10_price_20 (by decide) (fun c20 => ?_) (fun c20 => ?_)
    · refine j_iconst C (-1) dX10_price_45 (by decide) ?_
      exact j_iret C hQ dX10_price_46 (⟨by simp only [sPrice, if_neg (fun h : isW m (nI jx) ∧ m 21 (tn (nI jx)) ≤ r ∧ r ≤ m 33 0 => i_nlt.mpr h.2.1 (by rw [tn_nI (show jx < 20000 by omega)]; exact c20))], rfl⟩)
    · refine j_iload_n C 2 dX10_price_23 rfl rfl ?_
      refine j_aload_n C 0 dX10_price_24 rfl rfl ?_
      refine mg_round C hin (by decide +kernel) dX10_price_25 ?_
      refine j_st (st2 := [.int (nI rd), .int r]) (congrArg (fun z => Value.int z :: _) hR) ?_
      refine j_icmp_gt C 45 dX10_price_28 (by decide) (fun c28 => ?_) (fun c28 => ?_)
      · refine j_iconst C (-1) dX10_price_45 (by decide) ?_
        exact j_iret C hQ dX10_price_46 (⟨by simp only [sPrice, if_neg (fun h : isW m (nI jx) ∧ m 21 (tn (nI jx)) ≤ r ∧ r ≤ m 33 0 => i_nlt.mpr h.2.2 (by rw [hR]; exact c28))], rfl⟩)
      · rw [← hR] at c28
        obtain ⟨jr, hjr, rfl⟩ := isR_nI hR hrd ⟨Int32.le_trans (hs jx hjx) (i_nlt.mp c20), i_nlt.mp c28⟩
        refine j_aload_n C 0 dX10_price_31 rfl rfl ?_
        refine mg_prices C hin (by decide +kernel) dX10_price_32 ?_
        refine j_bipush C 50 dX10_price_35 (by decide) ?_
        refine j_iload_n C 1 dX10_price_37 rfl rfl ?_
        refine j_imul C dX10_price_38 ?_
        refine j_iload_n C 2 dX10_price_39 rfl rfl ?_
        refine j_iadd C dX10_price_40 ?_
        refine ml_prices C (50 * jx + jr) (ix50 jx jr) (by omega) dX10_price_41 ?_
        refine j_st (st2 := [.int (m 20 (50 * jx + jr))]) rfl ?_
        refine j_goto C 46 dX10_price_42 (by decide) ?_
        exact j_iret C hQ dX10_price_46 (⟨by rw [sPrice, if_pos (And.intro c10 (And.intro (show m 21 (tn (nI jx)) ≤ nI jr by rw [tn_nI (show jx < 20000 by omega)]; exact i_nlt.mp c20) (i_nlt.mp c28)))]; simp only [tn_nI (show jx < 20000 by omega), tn_nI (show jr < 20000 by omega)], rfl⟩)

set_option maxHeartbeats 4000000 in
set_option maxRecDepth 100000 in
theorem cm_rule (l : Launch) (d : jD) (o : Nat) (q : Nat → Nat) (m : Nat → Nat → Int32) (w : Int64) (k : Int32) : jMi noE d l yX10_rule wsX10_rule ({ frames := 0, cells := 0, slots := 0, locals := 0 } : Room) 0 0 [.ref o, .int k] (mW o q d m w) (fun r1 u => r1 = sRule m k ∧ u = mW o q d (mu m 0 0 0) w) := by
  refine jMi.mk noE_k (by decide) rfl (Nat.le_of_ble_eq_true rfl) (fun X A C hQ => ?_)
  have hin : ∀ w ∈ u_ws RX10 TX10 37, w ∈ wsX10_rule := fun w h => List.mem_cons_of_mem _ (List.mem_append_right _ h)
  refine j_lvq (lv2 := [(0, .ref o), (1, .int k)]) rfl ?_
  refine j_aload_n C 0 dX10_rule_0 rfl rfl ?_
  refine j_iconst C 0 dX10_rule_1 (by decide) ?_
  refine mp_thrown C hin (by decide +kernel) dX10_rule_2 ?_
  refine j_iload_n C 1 dX10_rule_5 rfl rfl ?_
  refine j_if_lt C 15 dX10_rule_6 (by decide) (fun c6 => ?_) (fun c6 => ?_)
  · refine j_iconst C (-1) dX10_rule_15 (by decide) ?_
    refine j_goto C 25 dX10_rule_16 (by decide) ?_
    exact j_iret C hQ dX10_rule_25 (⟨by simp only [sRule, if_neg (fun h : 0 ≤ k ∧ k < 6 => i_nlt.mpr h.1 c6)], rfl⟩)
  · refine j_iload_n C 1 dX10_rule_9 rfl rfl ?_
    refine j_bipush C 6 dX10_rule_10 (by decide) ?_
    refine j_icmp_lt C 19 dX10_rule_12 (by decide) (fun c12 => ?_) (fun c12 => ?_)
    · obtain ⟨jk, hjk, rfl⟩ := nI_in2 (n := 6) (i_nlt.mp c6) c12 (by decide)
      refine j_aload_n C 0 dX10_rule_19 rfl rfl ?_
      refine mg_rule C hin (by decide +kernel) dX10_rule_20 ?_
      refine j_iload_n C 1 dX10_rule_23 rfl rfl ?_
      refine ml_rule C jk rfl (by omega) dX10_rule_24 ?_
      refine j_st (st2 := [.int (m 3 jk)]) rfl ?_
      exact j_iret C hQ dX10_rule_25 (⟨by simp only [sRule, if_pos (And.intro (i_nlt.mp c6) c12), tn, tn_nI (show jk < 20000 by omega)], rfl⟩)
    · refine j_iconst C (-1) dX10_rule_15 (by decide) ?_
      refine j_goto C 25 dX10_rule_16 (by decide) ?_
      exact j_iret C hQ dX10_rule_25 (⟨by simp only [sRule, if_neg (fun h : 0 ≤ k ∧ k < 6 => c12 h.2)], rfl⟩)

set_option maxHeartbeats 4000000 in
set_option maxRecDepth 100000 in
theorem cm_count (l : Launch) (d : jD) (o : Nat) (q : Nat → Nat) (m : Nat → Nat → Int32) (w : Int64) (y : Int32) : jMi noE d l yX10_count wsX10_count ({ frames := 0, cells := 0, slots := 0, locals := 0 } : Room) 0 0 [.ref o, .int y] (mW o q d m w) (fun r1 u => r1 = sCount m y ∧ u = mW o q d (mu m 0 0 0) w) := by
  refine jMi.mk noE_k (by decide) rfl (Nat.le_of_ble_eq_true rfl) (fun X A C hQ => ?_)
  have hin : ∀ w ∈ u_ws RX10 TX10 37, w ∈ wsX10_count := fun w h => List.mem_cons_of_mem _ (List.mem_append_right _ h)
  refine j_lvq (lv2 := [(0, .ref o), (1, .int y)]) rfl ?_
  refine j_aload_n C 0 dX10_count_0 rfl rfl ?_
  refine j_iconst C 0 dX10_count_1 (by decide) ?_
  refine mp_thrown C hin (by decide +kernel) dX10_count_2 ?_
  refine j_iload_n C 1 dX10_count_5 rfl rfl ?_
  rcases sw6 y with h | h | h | h | h | h | h
  · subst h
    refine j_tableIn C 44 dX10_count_6 (by decide) (by decide) rfl (by decide) ?_
    refine j_aload_n C 0 dX10_count_44 rfl rfl ?_
    refine mg_round C hin (by decide +kernel) dX10_count_45 ?_
    refine j_st (st2 := [.int (m 33 0)]) rfl ?_
    exact j_iret C hQ dX10_count_48 (⟨rfl, rfl⟩)
  · subst h
    refine j_tableIn C 49 dX10_count_6 (by decide) (by decide) rfl (by decide) ?_
    refine j_aload_n C 0 dX10_count_49 rfl rfl ?_
    refine mg_works C hin (by decide +kernel) dX10_count_50 ?_
    refine j_st (st2 := [.int (m 30 0)]) rfl ?_
    exact j_iret C hQ dX10_count_53 (⟨rfl, rfl⟩)
  · subst h
    refine j_tableIn C 54 dX10_count_6 (by decide) (by decide) rfl (by decide) ?_
    refine j_aload_n C 0 dX10_count_54 rfl rfl ?_
    refine mg_people C hin (by decide +kernel) dX10_count_55 ?_
    refine j_st (st2 := [.int (m 31 0)]) rfl ?_
    exact j_iret C hQ dX10_count_58 (⟨rfl, rfl⟩)
  · subst h
    refine j_tableIn C 59 dX10_count_6 (by decide) (by decide) rfl (by decide) ?_
    refine j_aload_n C 0 dX10_count_59 rfl rfl ?_
    refine mg_funds C hin (by decide +kernel) dX10_count_60 ?_
    refine j_st (st2 := [.int (m 32 0)]) rfl ?_
    exact j_iret C hQ dX10_count_63 (⟨rfl, rfl⟩)
  · subst h
    refine j_tableIn C 64 dX10_count_6 (by decide) (by decide) rfl (by decide) ?_
    refine j_aload_n C 0 dX10_count_64 rfl rfl ?_
    refine mg_soldAll C hin (by decide +kernel) dX10_count_65 ?_
    refine j_st (st2 := [.int (m 34 0)]) rfl ?_
    exact j_iret C hQ dX10_count_68 (⟨rfl, rfl⟩)
  · subst h
    refine j_tableIn C 69 dX10_count_6 (by decide) (by decide) rfl (by decide) ?_
    refine j_aload_n C 0 dX10_count_69 rfl rfl ?_
    refine mg_taped C hin (by decide +kernel) dX10_count_70 ?_
    refine j_st (st2 := [.int (m 2 0)]) rfl ?_
    exact j_iret C hQ dX10_count_73 (⟨rfl, rfl⟩)
  · refine j_tableOut C 74 dX10_count_6 h (by decide) ?_
    refine j_iconst C (-1) dX10_count_74 (by decide) ?_
    exact j_iret C hQ dX10_count_75 (⟨by simp only [sCount, if_neg (show ¬ y = 0 from sw_ne h (by decide) (j := 0) (by decide)), if_neg (show ¬ y = 1 from sw_ne h (by decide) (j := 1) (by decide)), if_neg (show ¬ y = 2 from sw_ne h (by decide) (j := 2) (by decide)), if_neg (show ¬ y = 3 from sw_ne h (by decide) (j := 3) (by decide)), if_neg (show ¬ y = 4 from sw_ne h (by decide) (j := 4) (by decide)), if_neg (show ¬ y = 5 from sw_ne h (by decide) (j := 5) (by decide))], rfl⟩)

set_option maxHeartbeats 4000000 in
set_option maxRecDepth 100000 in
theorem cm_about (l : Launch) (d : jD) (o : Nat) (q : Nat → Nat) (m : Nat → Nat → Int32) (w : Int64) (x y : Int32) (nW nP nF rd tp : Nat) (hI : mI m nW nP nF rd tp) : jMi noE d l yX10_about wsX10_about ({ frames := 1, cells := 0, slots := 0, locals := 21 } : Room) 0 0 [.ref o, .int x, .int y] (mW o q d m w) (fun r1 u => r1 = sAbout m x y ∧ u = mW o q d (mu m 0 0 0) w) := by
  refine jMi.mk noE_k (by decide) rfl (Nat.le_of_ble_eq_true rfl) (fun X A C hQ => ?_)
  have hin : ∀ w ∈ u_ws RX10 TX10 37, w ∈ wsX10_about := fun w h => List.mem_cons_of_mem _ (List.mem_append_right _ h)
  obtain ⟨hW, hnW, hPp, hnP, hF, hnF, hR, hrd, hT, htp⟩ := hI
  refine j_lvq (lv2 := [(0, .ref o), (1, .int x), (2, .int y)]) rfl ?_
  refine j_aload_n C 0 dX10_about_0 rfl rfl ?_
  refine j_iconst C 0 dX10_about_1 (by decide) ?_
  refine mp_thrown C hin (by decide +kernel) dX10_about_2 ?_
  refine j_aload_n C 0 dX10_about_5 rfl rfl ?_
  refine j_iload_n C 1 dX10_about_6 rfl rfl ?_
  refine j_callV_i C 1 0 (cm_isWork l d o q (mu m 0 0 0) w x) rfl rfl gX10_about_X10_isWork rfl rfl rfl (by decide +kernel) ⟨(Nat.le_of_ble_eq_true rfl), (Nat.le_of_ble_eq_true rfl)⟩ ⟨(Nat.le_of_ble_eq_true rfl), (Nat.le_of_ble_eq_true rfl)⟩ rfl rfl (Nat.le_of_ble_eq_true rfl) dX10_about_7 (fun r7 u7 h7 => ?_)
  obtain ⟨rfl, rfl⟩ := h7
  refine j_if_ne C 15 dX10_about_10 (by decide) (fun c10 => ?_) (fun c10 => ?_)
  · have c10 : isW m x := bI_n0.mp c10
    obtain ⟨jx, hjx, rfl⟩ := isW_nI hW hnW c10
    have loop : ∀ n i : Nat, i ≤ 28 → 28 - i < n → jJ X l d A 5 0 0 (mW o q d (mu m 0 0 0) w) [(0, .ref o), (1, .int (nI jx)), (2, .int y), (3, .int (mAskd m jx i)), (4, .int (nI i))] 20 [] := by
      intro n
      induction n with
      | zero => intro i _ h; exact absurd h (Nat.not_lt_zero _)
      | succ n ih =>
        intro i hi hn
        refine j_iload C 4 dX10_about_20 rfl ?_
        refine j_bipush C 28 dX10_about_22 (by decide) ?_
        refine j_icmp_ge C 48 dX10_about_24 (by decide) (fun c24 => ?_) (fun c24 => ?_)
        · have c24 := (nI_leI (a := 28) (b := i) (by omega) (by omega)).mp c24
          obtain rfl : i = 28 := by omega
          refine j_iload_n C 2 dX10_about_48 rfl rfl ?_
          rcases sw4 y with h | h | h | h | h
          · subst h
            refine j_tableIn C 80 dX10_about_49 (by decide) (by decide) rfl (by decide) ?_
            refine j_aload_n C 0 dX10_about_80 rfl rfl ?_
            refine mg_shares C hin (by decide +kernel) dX10_about_81 ?_
            refine j_iload_n C 1 dX10_about_84 rfl rfl ?_
            refine ml_shares C jx rfl (by omega) dX10_about_85 ?_
            refine j_st (st2 := [.int (m 17 jx)]) rfl ?_
            exact j_iret C hQ dX10_about_86 (⟨by rw [sAbout, if_pos c10]; simp only [tn, tn_nI (show jx < 20000 by omega)]; rfl, rfl⟩)
          · subst h
            refine j_tableIn C 87 dX10_about_49 (by decide) (by decide) rfl (by decide) ?_
            refine j_aload_n C 0 dX10_about_87 rfl rfl ?_
            refine mg_left C hin (by decide +kernel) dX10_about_88 ?_
            refine j_iload_n C 1 dX10_about_91 rfl rfl ?_
            refine ml_left C jx rfl (by omega) dX10_about_92 ?_
            refine j_st (st2 := [.int (m 18 jx)]) rfl ?_
            exact j_iret C hQ dX10_about_93 (⟨by rw [sAbout, if_pos c10]; simp only [tn, tn_nI (show jx < 20000 by omega)]; rfl, rfl⟩)
          · subst h
            refine j_tableIn C 94 dX10_about_49 (by decide) (by decide) rfl (by decide) ?_
            refine j_aload_n C 0 dX10_about_94 rfl rfl ?_
            refine mg_price C hin (by decide +kernel) dX10_about_95 ?_
            refine j_iload_n C 1 dX10_about_98 rfl rfl ?_
            refine ml_price C jx rfl (by omega) dX10_about_99 ?_
            refine j_st (st2 := [.int (m 19 jx)]) rfl ?_
            exact j_iret C hQ dX10_about_100 (⟨by rw [sAbout, if_pos c10]; simp only [tn, tn_nI (show jx < 20000 by omega)]; rfl, rfl⟩)
          · subst h
            refine j_tableIn C 101 dX10_about_49 (by decide) (by decide) rfl (by decide) ?_
            refine j_iload_n C 3 dX10_about_101 rfl rfl ?_
            exact j_iret C hQ dX10_about_102 (⟨by rw [sAbout, if_pos c10]; simp only [tn, tn_nI (show jx < 20000 by omega)]; rfl, rfl⟩)
          · refine j_tableOut C 103 dX10_about_49 h (by decide) ?_
            refine j_iconst C (-1) dX10_about_103 (by decide) ?_
            exact j_iret C hQ dX10_about_104 (⟨by rw [sAbout, if_pos c10]; simp only [if_neg (show ¬ y = 0 from sw_ne h (by decide) (j := 0) (by decide)), if_neg (show ¬ y = 1 from sw_ne h (by decide) (j := 1) (by decide)), if_neg (show ¬ y = 2 from sw_ne h (by decide) (j := 2) (by decide)), if_neg (show ¬ y = 3 from sw_ne h (by decide) (j := 3) (by decide))], rfl⟩)
        · have c24 : ¬ (28 ≤ i) := fun h => c24 ((nI_leI (a := 28) (b := i) (by omega) (by omega)).mpr h)
          refine j_iload_n C 3 dX10_about_27 rfl rfl ?_
          refine j_aload_n C 0 dX10_about_28 rfl rfl ?_
          refine mg_asked C hin (by decide +kernel) dX10_about_29 ?_
          refine j_bipush C 10 dX10_about_32 (by decide) ?_
          refine j_iload C 4 dX10_about_34 rfl ?_
          refine j_imul C dX10_about_36 ?_
          refine j_iload_n C 1 dX10_about_37 rfl rfl ?_
          refine j_iadd C dX10_about_38 ?_
          refine ml_asked C (10 * i + jx) (ix10 i jx) (by omega) dX10_about_39 ?_
          refine j_st (st2 := [.int (m 27 (10 * i + jx)), .int (mAskd m jx i)]) rfl ?_
          refine j_iadd C dX10_about_40 ?_
          refine j_istore_n C [(0, .ref o), (1, .int (nI jx)), (2, .int y), (3, .int ((mAskd m jx i) + (m 27 (10 * i + jx)))), (4, .int (nI i))] [1, 2, 3, 0, 4] dX10_about_41 rfl (by decide) rfl ?_
          refine j_iinc C (nI (i + 1)) [(0, .ref o), (1, .int (nI jx)), (2, .int y), (3, .int ((mAskd m jx i) + (m 27 (10 * i + jx)))), (4, .int (nI (i + 1)))] 4 [1, 2, 3, 4, 0] dX10_about_42 rfl (nI_1 i) (by decide) rfl ?_
          refine j_goto C 20 dX10_about_45 (by decide) ?_
          exact ih (i + 1) (by omega) (by omega)
    refine j_iconst C 0 dX10_about_15 (by decide) ?_
    refine j_istore_n C [(0, .ref o), (1, .int (nI jx)), (2, .int y), (3, .int 0)] [1, 2, 3, 0] dX10_about_16 rfl (by decide) rfl ?_
    refine j_iconst C 0 dX10_about_17 (by decide) ?_
    refine j_istore C [(0, .ref o), (1, .int (nI jx)), (2, .int y), (3, .int 0), (4, .int 0)] [1, 2, 3, 4, 0] dX10_about_18 (by decide) rfl ?_
    exact loop _ 0 (Nat.zero_le _) (Nat.lt_succ_self _)
  · have c10 : ¬ isW m x := bI_0.mp c10
    refine j_iconst C (-1) dX10_about_13 (by decide) ?_
    exact j_iret C hQ dX10_about_14 (⟨by simp only [sAbout, if_neg c10], rfl⟩)

set_option maxHeartbeats 4000000 in
set_option maxRecDepth 100000 in
theorem cm_isKept (l : Launch) (d : jD) (o : Nat) (q : Nat → Nat) (m : Nat → Nat → Int32) (w : Int64) (b nW : Nat) (hb : b < 28) (hb2 : 24 ≤ b) (hW : m 30 0 = nI nW) (hnW : nW ≤ 10) : jMi noE d l yX10_isKept wsX10_isKept ({ frames := 0, cells := 0, slots := 0, locals := 0 } : Room) 0 0 [.ref o, .int (nI b)] (mW o q d m w) (fun r u => r = bI (mKept m b nW) ∧ u = mW o q d m w) := by
  refine jMi.mk noE_k (by decide) rfl (Nat.le_of_ble_eq_true rfl) (fun X A C hQ => ?_)
  have hin : ∀ w ∈ u_ws RX10 TX10 37, w ∈ wsX10_isKept := fun w h => List.mem_cons_of_mem _ (List.mem_append_right _ h)
  refine j_lvq (lv2 := [(0, .ref o), (1, .int (nI b))]) rfl ?_
  have loop : ∀ n i : Nat, i ≤ nW → nW - i < n → jJ X l d A 5 0 0 (mW o q d m w) [(0, .ref o), (1, .int (nI b)), (2, .long (mAll m b i)), (4, .int (nI i))] 11 [] := by
    intro n
    induction n with
    | zero => intro i _ h; exact absurd h (Nat.not_lt_zero _)
    | succ n ih =>
      intro i hi hn
      refine j_iload C 3 dX10_isKept_11 rfl ?_
      refine j_aload_n C 0 dX10_isKept_13 rfl rfl ?_
      refine mg_works C hin (by decide +kernel) dX10_isKept_14 ?_
      refine j_st (st2 := [.int (nI nW), .int (nI i)]) (congrArg (fun z => Value.int z :: _) hW) ?_
      refine j_icmp_ge C 51 dX10_isKept_17 (by decide) (fun c17 => ?_) (fun c17 => ?_)
      · have c17 := (nI_leI (a := nW) (b := i) (by omega) (by omega)).mp c17
        obtain rfl : i = nW := by omega
        refine j_ldc2 C (100) (by decide +kernel) dX10_isKept_51 ?_
        refine j_lload_n C 2 dX10_isKept_54 rfl rfl ?_
        refine j_lmul C dX10_isKept_55 ?_
        refine j_aload_n C 0 dX10_isKept_56 rfl rfl ?_
        refine mg_promise C hin (by decide +kernel) dX10_isKept_57 ?_
        refine j_iload_n C 1 dX10_isKept_60 rfl rfl ?_
        refine j_bipush C 24 dX10_isKept_61 (by decide) ?_
        refine j_isub C dX10_isKept_63 ?_
        refine ml_promise C (b - 24) (ixm24 b (by omega)) (by omega) dX10_isKept_64 ?_
        refine j_i2l C dX10_isKept_65 ?_
        refine j_aload_n C 0 dX10_isKept_66 rfl rfl ?_
        refine mg_given C hin (by decide +kernel) dX10_isKept_67 ?_
        refine j_iload_n C 1 dX10_isKept_70 rfl rfl ?_
        refine j_bipush C 24 dX10_isKept_71 (by decide) ?_
        refine j_isub C dX10_isKept_73 ?_
        refine ml_given C (b - 24) (ixm24 b (by omega)) (by omega) dX10_isKept_74 ?_
        refine j_i2l C dX10_isKept_75 ?_
        refine j_lmul C dX10_isKept_76 ?_
        refine j_lcmp C dX10_isKept_77 ?_
        refine j_if_lt C 85 dX10_isKept_78 (by decide) (fun c78 => ?_) (fun c78 => ?_)
        · refine j_iconst C 0 dX10_isKept_85 (by decide) ?_
          exact j_zret C hQ rfl dX10_isKept_86 (⟨bI_f (fun h => h c78), rfl⟩)
        · refine j_iconst C 1 dX10_isKept_81 (by decide) ?_
          refine j_goto C 86 dX10_isKept_82 (by decide) ?_
          exact j_zret C hQ rfl dX10_isKept_86 (⟨bI_t c78, rfl⟩)
      · have c17 : ¬ (nW ≤ i) := fun h => c17 ((nI_leI (a := nW) (b := i) (by omega) (by omega)).mpr h)
        refine j_lload_n C 2 dX10_isKept_20 rfl rfl ?_
        refine j_aload_n C 0 dX10_isKept_21 rfl rfl ?_
        refine mg_held C hin (by decide +kernel) dX10_isKept_22 ?_
        refine j_bipush C 10 dX10_isKept_25 (by decide) ?_
        refine j_iload_n C 1 dX10_isKept_27 rfl rfl ?_
        refine j_imul C dX10_isKept_28 ?_
        refine j_iload C 3 dX10_isKept_29 rfl ?_
        refine j_iadd C dX10_isKept_31 ?_
        refine ml_held C (10 * b + i) (ix10 b i) (by omega) dX10_isKept_32 ?_
        refine j_i2l C dX10_isKept_33 ?_
        refine j_aload_n C 0 dX10_isKept_34 rfl rfl ?_
        refine mg_price C hin (by decide +kernel) dX10_isKept_35 ?_
        refine j_iload C 3 dX10_isKept_38 rfl ?_
        refine ml_price C i rfl (by omega) dX10_isKept_40 ?_
        refine j_i2l C dX10_isKept_41 ?_
        refine j_lmul C dX10_isKept_42 ?_
        refine j_ladd C dX10_isKept_43 ?_
        refine j_lstore_n C [(0, .ref o), (1, .int (nI b)), (2, .long ((mAll m b i) + (((m 28 (10 * b + i)).toInt64) * ((m 19 i).toInt64)))), (4, .int (nI i))] [1, 2, 0, 3] dX10_isKept_44 rfl (by decide) rfl ?_
        refine j_iinc C (nI (i + 1)) [(0, .ref o), (1, .int (nI b)), (2, .long ((mAll m b i) + (((m 28 (10 * b + i)).toInt64) * ((m 19 i).toInt64)))), (4, .int (nI (i + 1)))] 3 [1, 2, 3, 0] dX10_isKept_45 rfl (nI_1 i) (by decide) rfl ?_
        refine j_goto C 11 dX10_isKept_48 (by decide) ?_
        exact ih (i + 1) (by omega) (by omega)
  refine j_aload_n C 0 dX10_isKept_0 rfl rfl ?_
  refine mg_points C hin (by decide +kernel) dX10_isKept_1 ?_
  refine j_iload_n C 1 dX10_isKept_4 rfl rfl ?_
  refine ml_points C b rfl (by omega) dX10_isKept_5 ?_
  refine j_i2l C dX10_isKept_6 ?_
  refine j_lstore_n C [(0, .ref o), (1, .int (nI b)), (2, .long ((m 22 b).toInt64))] [1, 2, 0] dX10_isKept_7 rfl (by decide) rfl ?_
  refine j_iconst C 0 dX10_isKept_8 (by decide) ?_
  refine j_istore C [(0, .ref o), (1, .int (nI b)), (2, .long ((m 22 b).toInt64)), (4, .int 0)] [1, 2, 3, 0] dX10_isKept_9 (by decide) rfl ?_
  exact loop _ 0 (Nat.zero_le _) (Nat.lt_succ_self _)

theorem mCost_eq {m m2 : Nat → Nat → Int32} (b : Nat) (h1 : m2 27 = m 27) (h2 : m2 19 = m 19) : ∀ n, mCost m2 b n = mCost m b n
  | 0 => rfl
  | n + 1 => by rw [mCost, mCost, mCost_eq b h1 h2 n, h1, h2]
theorem mAll_eq {m m2 : Nat → Nat → Int32} (b : Nat) (h1 : m2 28 = m 28) (h2 : m2 19 = m 19) (h3 : m2 22 = m 22) : ∀ n, mAll m2 b n = mAll m b n
  | 0 => by rw [mAll, mAll, h3]
  | n + 1 => by rw [mAll, mAll, mAll_eq b h1 h2 h3 n, h1, h2]
def sPurse (m : Nat → Nat → Int32) (b y : Int32) (nW : Nat) : Int32 × (Nat → Nat → Int32) := if okPurse m b y then (vPurse m b y nW, mu m 0 0 0) else (0, mu m 0 0 1)
def sEnd (m : Nat → Nat → Int32) (x : Int32) : Int32 × (Nat → Nat → Int32) := if 0 ≤ x ∧ x ≤ m 2 0 then (1, mu (mu m 0 0 0) 2 0 x) else (0, mu m 0 0 0)
abbrev okGive (m : Nat → Nat → Int32) (b f x : Int32) (nW : Nat) : Prop := isP m b ∧ isF m f ∧ ¬ 0 < m 33 0 ∧ ¬ x < 1 ∧ x ≤ m 22 (tn b) - mCost m (tn b) nW
def sGive (m : Nat → Nat → Int32) (b f x : Int32) (nW : Nat) : Int32 × (Nat → Nat → Int32) := if okGive m b f x nW then
    let m1 := mu (mu m 0 0 0) 22 (tn b) (m 22 (tn b) - x)
    let m2 := mu m1 22 (tn f) (m1 22 (tn f) + x)
    let m3 := mu m2 25 (tn f - 24) (m 25 (tn f - 24) + x)
    (m 26 (4 * tn b + (tn f - 24)) + x, mu m3 26 (4 * tn b + (tn f - 24)) (m 26 (4 * tn b + (tn f - 24)) + x)) else (-1, mu m 0 0 0)
abbrev okBid (m : Nat → Nat → Int32) (b x y : Int32) : Prop := isB m b ∧ isW m x ∧ (0 ≤ y ∧ y ≤ 1000)
abbrev cBid (m : Nat → Nat → Int32) (b x : Nat) (y : Int32) (nW : Nat) : Int32 := mCost m b nW + (y - m 27 (10 * b + x)) * m 19 x
def sBid (m : Nat → Nat → Int32) (b x y : Int32) (nW : Nat) : Int32 × (Nat → Nat → Int32) := if okBid m b x y ∧ cBid m (tn b) (tn x) y nW ≤ m 22 (tn b) then (cBid m (tn b) (tn x) y nW, mu (mu m 0 0 0) 27 (10 * tn b + tn x) y) else (-1, mu m 0 0 0)
abbrev okWork (m : Nat → Nat → Int32) (x y : Int32) (nW : Nat) : Prop := ¬ nW = 10 ∧ (1 ≤ x ∧ x ≤ 1000) ∧ (1 ≤ y ∧ y ≤ 9999)
def sWork (m : Nat → Nat → Int32) (x y : Int32) (nW rd : Nat) : Int32 × (Nat → Nat → Int32) := if okWork m x y nW then
    (nI nW, mu (mu (mu (mu (mu (mu (mu m 0 0 0) 17 nW x) 18 nW x) 19 nW y) 21 nW (nI rd)) 20 (50 * nW + rd) y) 30 0 (nI (nW + 1))) else (-1, mu m 0 0 0)
abbrev okPerson (m : Nat → Nat → Int32) (x : Int32) (nP : Nat) : Prop := ¬ nP = 24 ∧ (x = -1 ∨ isW m x)
def sPerson (m : Nat → Nat → Int32) (x : Int32) (nP : Nat) : Int32 × (Nat → Nat → Int32) := if okPerson m x nP then
    (nI nP, mu (mu (mu (mu m 0 0 0) 22 nP 1000) 23 nP x) 31 0 (nI (nP + 1))) else (-1, mu m 0 0 0)
abbrev okFund (m : Nat → Nat → Int32) (x : Int32) (nF : Nat) : Prop := ¬ nF = 4 ∧ (0 ≤ x ∧ x ≤ 500)
def sFund (m : Nat → Nat → Int32) (x : Int32) (nF : Nat) : Int32 × (Nat → Nat → Int32) := if okFund m x nF then
    (nI (24 + nF), mu (mu (mu m 0 0 0) 24 nF x) 32 0 (nI (nF + 1))) else (-1, mu m 0 0 0)
set_option maxHeartbeats 4000000 in
set_option maxRecDepth 100000 in
theorem cm_end (l : Launch) (d : jD) (o : Nat) (q : Nat → Nat) (m : Nat → Nat → Int32) (w : Int64) (x : Int32) (tp : Nat) (hT : m 2 0 = nI tp) : jMi noE d l yX10_end wsX10_end ({ frames := 0, cells := 0, slots := 0, locals := 0 } : Room) 0 0 [.ref o, .int x] (mW o q d m w) (fun r1 u => r1 = (sEnd m x).1 ∧ u = mW o q d (sEnd m x).2 w) := by
  refine jMi.mk noE_k (by decide) rfl (Nat.le_of_ble_eq_true rfl) (fun X A C hQ => ?_)
  have hin : ∀ w ∈ u_ws RX10 TX10 37, w ∈ wsX10_end := fun w h => List.mem_cons_of_mem _ (List.mem_append_right _ h)
  refine j_lvq (lv2 := [(0, .ref o), (1, .int x)]) rfl ?_
  refine j_aload_n C 0 dX10_end_0 rfl rfl ?_
  refine j_iconst C 0 dX10_end_1 (by decide) ?_
  refine mp_thrown C hin (by decide +kernel) dX10_end_2 ?_
  refine j_iload_n C 1 dX10_end_5 rfl rfl ?_
  refine j_if_lt C 17 dX10_end_6 (by decide) (fun c6 => ?_) (fun c6 => ?_)
  · refine j_iconst C 0 dX10_end_17 (by decide) ?_
    exact j_zret C hQ rfl dX10_end_18 (⟨by rw [sEnd, if_neg (fun h => i_nlt.mpr h.1 c6)], by rw [sEnd, if_neg (fun h => i_nlt.mpr h.1 c6)]⟩)
  · refine j_iload_n C 1 dX10_end_9 rfl rfl ?_
    refine j_aload_n C 0 dX10_end_10 rfl rfl ?_
    refine mg_taped C hin (by decide +kernel) dX10_end_11 ?_
    refine j_st (st2 := [.int (nI tp), .int x]) (congrArg (fun z => Value.int z :: _) hT) ?_
    refine j_icmp_le C 19 dX10_end_14 (by decide) (fun c14 => ?_) (fun c14 => ?_)
    · refine j_aload_n C 0 dX10_end_19 rfl rfl ?_
      refine j_iload_n C 1 dX10_end_20 rfl rfl ?_
      refine mp_taped C hin (by decide +kernel) dX10_end_21 ?_
      refine j_iconst C 1 dX10_end_24 (by decide) ?_
      exact j_zret C hQ rfl dX10_end_25 (⟨by rw [sEnd, if_pos (And.intro (i_nlt.mp c6) (hT ▸ c14))], by rw [sEnd, if_pos (And.intro (i_nlt.mp c6) (hT ▸ c14))]⟩)
    · refine j_iconst C 0 dX10_end_17 (by decide) ?_
      exact j_zret C hQ rfl dX10_end_18 (⟨by rw [sEnd, if_neg (fun h => c14 (hT ▸ h.2))], by rw [sEnd, if_neg (fun h => c14 (hT ▸ h.2))]⟩)

set_option maxHeartbeats 4000000 in
set_option maxRecDepth 100000 in
theorem cm_bid (l : Launch) (d : jD) (o : Nat) (q : Nat → Nat) (m : Nat → Nat → Int32) (w : Int64) (b x y : Int32) (nW nP nF rd tp : Nat) (hI : mI m nW nP nF rd tp) : jMi noE d l yX10_bid wsX10_bid ({ frames := 2, cells := 0, slots := 0, locals := 42 } : Room) 0 0 [.ref o, .int b, .int x, .int y] (mW o q d m w) (fun r1 u => r1 = (sBid m b x y nW).1 ∧ u = mW o q d (sBid m b x y nW).2 w) := by
  refine jMi.mk noE_k (by decide) rfl (Nat.le_of_ble_eq_true rfl) (fun X A C hQ => ?_)
  have hin : ∀ w ∈ u_ws RX10 TX10 37, w ∈ wsX10_bid := fun w h => List.mem_cons_of_mem _ (List.mem_append_right _ h)
  obtain ⟨hW, hnW, hPp, hnP, hF, hnF, hR, hrd, hT, htp⟩ := hI
  refine j_lvq (lv2 := [(0, .ref o), (1, .int b), (2, .int x), (3, .int y)]) rfl ?_
  refine j_aload_n C 0 dX10_bid_0 rfl rfl ?_
  refine j_iconst C 0 dX10_bid_1 (by decide) ?_
  refine mp_thrown C hin (by decide +kernel) dX10_bid_2 ?_
  refine j_aload_n C 0 dX10_bid_5 rfl rfl ?_
  refine j_iload_n C 1 dX10_bid_6 rfl rfl ?_
  refine j_callV_i C 1 0 (cm_isBidder l d o q (mu m 0 0 0) w b) rfl rfl gX10_bid_X10_isBidder rfl rfl rfl (by decide +kernel) ⟨(Nat.le_of_ble_eq_true rfl), (Nat.le_of_ble_eq_true rfl)⟩ ⟨(Nat.le_of_ble_eq_true rfl), (Nat.le_of_ble_eq_true rfl)⟩ rfl rfl (Nat.le_of_ble_eq_true rfl) dX10_bid_7 (fun r7 u7 h7 => ?_)
  obtain ⟨rfl, rfl⟩ := h7
  refine j_if_eq C 32 dX10_bid_10 (by decide) (fun c10 => ?_) (fun c10 => ?_)
  · have c10 : ¬ isB m b := bI_0.mp c10
    refine j_iconst C (-1) dX10_bid_32 (by decide) ?_
    exact j_iret C hQ dX10_bid_33 (⟨by rw [sBid, if_neg (fun h => c10 h.1.1)], by rw [sBid, if_neg (fun h => c10 h.1.1)]⟩)
  · have c10 : isB m b := bI_n0.mp c10
    obtain ⟨jb, hjb, hjbb, rfl⟩ := isB_nI hPp hnP hF hnF c10
    refine j_aload_n C 0 dX10_bid_13 rfl rfl ?_
    refine j_iload_n C 2 dX10_bid_14 rfl rfl ?_
    refine j_callV_i C 1 0 (cm_isWork l d o q (mu m 0 0 0) w x) rfl rfl gX10_bid_X10_isWork rfl rfl rfl (by decide +kernel) ⟨(Nat.le_of_ble_eq_true rfl), (Nat.le_of_ble_eq_true rfl)⟩ ⟨(Nat.le_of_ble_eq_true rfl), (Nat.le_of_ble_eq_true rfl)⟩ rfl rfl (Nat.le_of_ble_eq_true rfl) dX10_bid_15 (fun r15 u15 h15 => ?_)
    obtain ⟨rfl, rfl⟩ := h15
    refine j_if_eq C 32 dX10_bid_18 (by decide) (fun c18 => ?_) (fun c18 => ?_)
    · have c18 : ¬ isW m x := bI_0.mp c18
      refine j_iconst C (-1) dX10_bid_32 (by decide) ?_
      exact j_iret C hQ dX10_bid_33 (⟨by rw [sBid, if_neg (fun h => c18 h.1.2.1)], by rw [sBid, if_neg (fun h => c18 h.1.2.1)]⟩)
    · have c18 : isW m x := bI_n0.mp c18
      obtain ⟨jx, hjx, rfl⟩ := isW_nI hW hnW c18
      refine j_iload_n C 3 dX10_bid_21 rfl rfl ?_
      refine j_iconst C 0 dX10_bid_22 (by decide) ?_
      refine j_sipush C 1000 dX10_bid_23 (by decide) ?_
      refine j_callS_i C 3 (cm_isIn l d _ y 0 1000) gX10_bid_X10_isIn rfl rfl rfl (by decide +kernel) ⟨(Nat.le_of_ble_eq_true rfl), (Nat.le_of_ble_eq_true rfl)⟩ ⟨(Nat.le_of_ble_eq_true rfl), (Nat.le_of_ble_eq_true rfl)⟩ rfl rfl (Nat.le_of_ble_eq_true rfl) dX10_bid_26 (fun r26 u26 h26 => ?_)
      obtain ⟨rfl, rfl⟩ := h26
      refine j_if_ne C 34 dX10_bid_29 (by decide) (fun c29 => ?_) (fun c29 => ?_)
      · have c29 : 0 ≤ y ∧ y ≤ 1000 := bI_n0.mp c29
        refine j_aload_n C 0 dX10_bid_34 rfl rfl ?_
        refine j_iload_n C 1 dX10_bid_35 rfl rfl ?_
        refine j_callV_i C 1 0 (cm_costs l d o q (mu m 0 0 0) w jb nW (by omega) hW hnW) rfl rfl gX10_bid_X10_costs rfl rfl rfl (by decide +kernel) ⟨(Nat.le_of_ble_eq_true rfl), (Nat.le_of_ble_eq_true rfl)⟩ ⟨(Nat.le_of_ble_eq_true rfl), (Nat.le_of_ble_eq_true rfl)⟩ rfl rfl (Nat.le_of_ble_eq_true rfl) dX10_bid_36 (fun r36 u36 h36 => ?_)
        obtain ⟨rfl, rfl⟩ := h36
        refine j_iload_n C 3 dX10_bid_39 rfl rfl ?_
        refine j_aload_n C 0 dX10_bid_40 rfl rfl ?_
        refine mg_asked C hin (by decide +kernel) dX10_bid_41 ?_
        refine j_bipush C 10 dX10_bid_44 (by decide) ?_
        refine j_iload_n C 1 dX10_bid_46 rfl rfl ?_
        refine j_imul C dX10_bid_47 ?_
        refine j_iload_n C 2 dX10_bid_48 rfl rfl ?_
        refine j_iadd C dX10_bid_49 ?_
        refine ml_asked C (10 * jb + jx) (ix10 jb jx) (by omega) dX10_bid_50 ?_
        refine j_st (st2 := [.int (m 27 (10 * jb + jx)), .int y, .int (mCost (mu m 0 0 0) jb nW)]) rfl ?_
        refine j_isub C dX10_bid_51 ?_
        refine j_aload_n C 0 dX10_bid_52 rfl rfl ?_
        refine mg_price C hin (by decide +kernel) dX10_bid_53 ?_
        refine j_iload_n C 2 dX10_bid_56 rfl rfl ?_
        refine ml_price C jx rfl (by omega) dX10_bid_57 ?_
        refine j_st (st2 := [.int (m 19 jx), .int (y - (m 27 (10 * jb + jx))), .int (mCost (mu m 0 0 0) jb nW)]) rfl ?_
        refine j_imul C dX10_bid_58 ?_
        refine j_iadd C dX10_bid_59 ?_
        refine j_istore C [(0, .ref o), (1, .int (nI jb)), (2, .int (nI jx)), (3, .int y), (4, .int ((mCost (mu m 0 0 0) jb nW) + ((y - (m 27 (10 * jb + jx))) * (m 19 jx))))] [1, 2, 3, 4, 0] dX10_bid_60 (by decide) rfl ?_
        refine j_iload C 4 dX10_bid_62 rfl ?_
        refine j_aload_n C 0 dX10_bid_64 rfl rfl ?_
        refine mg_points C hin (by decide +kernel) dX10_bid_65 ?_
        refine j_iload_n C 1 dX10_bid_68 rfl rfl ?_
        refine ml_points C jb rfl (by omega) dX10_bid_69 ?_
        refine j_st (st2 := [.int (m 22 jb), .int ((mCost (mu m 0 0 0) jb nW) + ((y - (m 27 (10 * jb + jx))) * (m 19 jx)))]) rfl ?_
        refine j_icmp_le C 75 dX10_bid_70 (by decide) (fun c70 => ?_) (fun c70 => ?_)
        · rw [mCost_eq (m := m) (m2 := mu m 0 0 0) jb rfl rfl] at c70
          refine j_aload_n C 0 dX10_bid_75 rfl rfl ?_
          refine mg_asked C hin (by decide +kernel) dX10_bid_76 ?_
          refine j_bipush C 10 dX10_bid_79 (by decide) ?_
          refine j_iload_n C 1 dX10_bid_81 rfl rfl ?_
          refine j_imul C dX10_bid_82 ?_
          refine j_iload_n C 2 dX10_bid_83 rfl rfl ?_
          refine j_iadd C dX10_bid_84 ?_
          refine j_iload_n C 3 dX10_bid_85 rfl rfl ?_
          refine ms_asked C (10 * jb + jx) (ix10 jb jx) (by omega) dX10_bid_86 ?_
          refine j_iload C 4 dX10_bid_87 rfl ?_
          exact j_iret C hQ dX10_bid_89 (⟨by rw [sBid, if_pos ⟨⟨c10, c18, c29⟩, by rw [tn_nI (show jb < 20000 by omega), tn_nI (show jx < 20000 by omega)]; exact c70⟩]; simp only [tn_nI (show jb < 20000 by omega), tn_nI (show jx < 20000 by omega)]; rw [mCost_eq (m := m) (m2 := mu m 0 0 0) jb rfl rfl], by rw [sBid, if_pos ⟨⟨c10, c18, c29⟩, by rw [tn_nI (show jb < 20000 by omega), tn_nI (show jx < 20000 by omega)]; exact c70⟩]; simp only [tn_nI (show jb < 20000 by omega), tn_nI (show jx < 20000 by omega)]⟩)
        · rw [mCost_eq (m := m) (m2 := mu m 0 0 0) jb rfl rfl] at c70
          refine j_iconst C (-1) dX10_bid_73 (by decide) ?_
          exact j_iret C hQ dX10_bid_74 (⟨by rw [sBid, if_neg]; rintro ⟨-, h⟩; rw [tn_nI (show jb < 20000 by omega), tn_nI (show jx < 20000 by omega)] at h; exact c70 h, by rw [sBid, if_neg]; rintro ⟨-, h⟩; rw [tn_nI (show jb < 20000 by omega), tn_nI (show jx < 20000 by omega)] at h; exact c70 h⟩)
      · have c29 : ¬ (0 ≤ y ∧ y ≤ 1000) := bI_0.mp c29
        refine j_iconst C (-1) dX10_bid_32 (by decide) ?_
        exact j_iret C hQ dX10_bid_33 (⟨by rw [sBid, if_neg (fun h => c29 h.1.2.2)], by rw [sBid, if_neg (fun h => c29 h.1.2.2)]⟩)

set_option maxHeartbeats 4000000 in
set_option maxRecDepth 100000 in
theorem cm_give (l : Launch) (d : jD) (o : Nat) (q : Nat → Nat) (m : Nat → Nat → Int32) (w : Int64) (b f x : Int32) (nW nP nF rd tp : Nat) (hI : mI m nW nP nF rd tp) : jMi noE d l yX10_give wsX10_give ({ frames := 1, cells := 0, slots := 0, locals := 23 } : Room) 0 0 [.ref o, .int b, .int f, .int x] (mW o q d m w) (fun r1 u => r1 = (sGive m b f x nW).1 ∧ u = mW o q d (sGive m b f x nW).2 w) := by
  refine jMi.mk noE_k (by decide) rfl (Nat.le_of_ble_eq_true rfl) (fun X A C hQ => ?_)
  have hin : ∀ w ∈ u_ws RX10 TX10 37, w ∈ wsX10_give := fun w h => List.mem_cons_of_mem _ (List.mem_append_right _ h)
  obtain ⟨hW, hnW, hPp, hnP, hF, hnF, hR, hrd, hT, htp⟩ := hI
  refine j_lvq (lv2 := [(0, .ref o), (1, .int b), (2, .int f), (3, .int x)]) rfl ?_
  refine j_aload_n C 0 dX10_give_0 rfl rfl ?_
  refine j_iconst C 0 dX10_give_1 (by decide) ?_
  refine mp_thrown C hin (by decide +kernel) dX10_give_2 ?_
  refine j_aload_n C 0 dX10_give_5 rfl rfl ?_
  refine j_iload_n C 1 dX10_give_6 rfl rfl ?_
  refine j_callV_i C 1 0 (cm_isPerson l d o q (mu m 0 0 0) w b) rfl rfl gX10_give_X10_isPerson rfl rfl rfl (by decide +kernel) ⟨(Nat.le_of_ble_eq_true rfl), (Nat.le_of_ble_eq_true rfl)⟩ ⟨(Nat.le_of_ble_eq_true rfl), (Nat.le_of_ble_eq_true rfl)⟩ rfl rfl (Nat.le_of_ble_eq_true rfl) dX10_give_7 (fun r7 u7 h7 => ?_)
  obtain ⟨rfl, rfl⟩ := h7
  refine j_if_eq C 49 dX10_give_10 (by decide) (fun c10 => ?_) (fun c10 => ?_)
  · have c10 : ¬ isP m b := bI_0.mp c10
    refine j_iconst C (-1) dX10_give_49 (by decide) ?_
    exact j_iret C hQ dX10_give_50 (⟨by rw [sGive, if_neg (fun h => c10 h.1)], by rw [sGive, if_neg (fun h => c10 h.1)]⟩)
  · have c10 : isP m b := bI_n0.mp c10
    obtain ⟨jb, hjb, rfl⟩ := isP_nI hPp hnP c10
    refine j_aload_n C 0 dX10_give_13 rfl rfl ?_
    refine j_iload_n C 2 dX10_give_14 rfl rfl ?_
    refine j_callV_i C 1 0 (cm_isFund l d o q (mu m 0 0 0) w f) rfl rfl gX10_give_X10_isFund rfl rfl rfl (by decide +kernel) ⟨(Nat.le_of_ble_eq_true rfl), (Nat.le_of_ble_eq_true rfl)⟩ ⟨(Nat.le_of_ble_eq_true rfl), (Nat.le_of_ble_eq_true rfl)⟩ rfl rfl (Nat.le_of_ble_eq_true rfl) dX10_give_15 (fun r15 u15 h15 => ?_)
    obtain ⟨rfl, rfl⟩ := h15
    refine j_if_eq C 49 dX10_give_18 (by decide) (fun c18 => ?_) (fun c18 => ?_)
    · have c18 : ¬ isF m f := bI_0.mp c18
      refine j_iconst C (-1) dX10_give_49 (by decide) ?_
      exact j_iret C hQ dX10_give_50 (⟨by rw [sGive, if_neg (fun h => c18 h.2.1)], by rw [sGive, if_neg (fun h => c18 h.2.1)]⟩)
    · have c18 : isF m f := bI_n0.mp c18
      obtain ⟨jf, hjf, hjfb, rfl⟩ := isF_nI hF hnF c18
      refine j_aload_n C 0 dX10_give_21 rfl rfl ?_
      refine mg_round C hin (by decide +kernel) dX10_give_22 ?_
      refine j_st (st2 := [.int (nI rd)]) (congrArg (fun z => Value.int z :: _) hR) ?_
      refine j_if_gt C 49 dX10_give_25 (by decide) (fun c25 => ?_) (fun c25 => ?_)
      · refine j_iconst C (-1) dX10_give_49 (by decide) ?_
        exact j_iret C hQ dX10_give_50 (⟨by rw [sGive, if_neg (fun h => h.2.2.1 (by rw [hR]; exact c25))], by rw [sGive, if_neg (fun h => h.2.2.1 (by rw [hR]; exact c25))]⟩)
      · refine j_iload_n C 3 dX10_give_28 rfl rfl ?_
        refine j_iconst C 1 dX10_give_29 (by decide) ?_
        refine j_icmp_lt C 49 dX10_give_30 (by decide) (fun c30 => ?_) (fun c30 => ?_)
        · refine j_iconst C (-1) dX10_give_49 (by decide) ?_
          exact j_iret C hQ dX10_give_50 (⟨by rw [sGive, if_neg (fun h => h.2.2.2.1 c30)], by rw [sGive, if_neg (fun h => h.2.2.2.1 c30)]⟩)
        · refine j_iload_n C 3 dX10_give_33 rfl rfl ?_
          refine j_aload_n C 0 dX10_give_34 rfl rfl ?_
          refine mg_points C hin (by decide +kernel) dX10_give_35 ?_
          refine j_iload_n C 1 dX10_give_38 rfl rfl ?_
          refine ml_points C jb rfl (by omega) dX10_give_39 ?_
          refine j_st (st2 := [.int (m 22 jb), .int x]) rfl ?_
          refine j_aload_n C 0 dX10_give_40 rfl rfl ?_
          refine j_iload_n C 1 dX10_give_41 rfl rfl ?_
          refine j_callV_i C 1 0 (cm_costs l d o q (mu m 0 0 0) w jb nW (by omega) hW hnW) rfl rfl gX10_give_X10_costs rfl rfl rfl (by decide +kernel) ⟨(Nat.le_of_ble_eq_true rfl), (Nat.le_of_ble_eq_true rfl)⟩ ⟨(Nat.le_of_ble_eq_true rfl), (Nat.le_of_ble_eq_true rfl)⟩ rfl rfl (Nat.le_of_ble_eq_true rfl) dX10_give_42 (fun r42 u42 h42 => ?_)
          obtain ⟨rfl, rfl⟩ := h42
          refine j_isub C dX10_give_45 ?_
          refine j_icmp_le C 51 dX10_give_46 (by decide) (fun c46 => ?_) (fun c46 => ?_)
          · rw [mCost_eq (m := m) (m2 := mu m 0 0 0) jb rfl rfl] at c46
            refine j_iload_n C 2 dX10_give_51 rfl rfl ?_
            refine j_bipush C 24 dX10_give_52 (by decide) ?_
            refine j_isub C dX10_give_54 ?_
            refine j_istore C [(0, .ref o), (1, .int (nI jb)), (2, .int (nI jf)), (3, .int x), (4, .int ((nI jf) - 24))] [1, 2, 3, 4, 0] dX10_give_55 (by decide) rfl ?_
            refine j_aload_n C 0 dX10_give_57 rfl rfl ?_
            refine mg_points C hin (by decide +kernel) dX10_give_58 ?_
            refine j_iload_n C 1 dX10_give_61 rfl rfl ?_
            refine j_dup2 C dX10_give_62 rfl rfl ?_
            refine ml_points C jb rfl (by omega) dX10_give_63 ?_
            refine j_st (st2 := [.int (m 22 jb), .int (nI jb), .ref (q 22)]) rfl ?_
            refine j_iload_n C 3 dX10_give_64 rfl rfl ?_
            refine j_isub C dX10_give_65 ?_
            refine ms_points C jb rfl (by omega) dX10_give_66 ?_
            refine j_aload_n C 0 dX10_give_67 rfl rfl ?_
            refine mg_points C hin (by decide +kernel) dX10_give_68 ?_
            refine j_iload_n C 2 dX10_give_71 rfl rfl ?_
            refine j_dup2 C dX10_give_72 rfl rfl ?_
            refine ml_points C jf rfl (by omega) dX10_give_73 ?_
            refine j_st (st2 := [.int ((mu (mu m 0 0 0) 22 jb ((m 22 jb) - x)) 22 jf), .int (nI jf), .ref (q 22)]) rfl ?_
            refine j_iload_n C 3 dX10_give_74 rfl rfl ?_
            refine j_iadd C dX10_give_75 ?_
            refine ms_points C jf rfl (by omega) dX10_give_76 ?_
            refine j_aload_n C 0 dX10_give_77 rfl rfl ?_
            refine mg_given C hin (by decide +kernel) dX10_give_78 ?_
            refine j_iload C 4 dX10_give_81 rfl ?_
            refine j_dup2 C dX10_give_83 rfl rfl ?_
            refine ml_given C (jf - 24) (ixm24 jf hjf) (by omega) dX10_give_84 ?_
            refine j_st (st2 := [.int (m 25 (jf - 24)), .int ((nI jf) - 24), .ref (q 25)]) rfl ?_
            refine j_iload_n C 3 dX10_give_85 rfl rfl ?_
            refine j_iadd C dX10_give_86 ?_
            refine ms_given C (jf - 24) (ixm24 jf hjf) (by omega) dX10_give_87 ?_
            refine j_aload_n C 0 dX10_give_88 rfl rfl ?_
            refine mg_gift C hin (by decide +kernel) dX10_give_89 ?_
            refine j_iconst C 4 dX10_give_92 (by decide) ?_
            refine j_iload_n C 1 dX10_give_93 rfl rfl ?_
            refine j_imul C dX10_give_94 ?_
            refine j_iload C 4 dX10_give_95 rfl ?_
            refine j_iadd C dX10_give_97 ?_
            refine j_dup2 C dX10_give_98 rfl rfl ?_
            refine ml_gift C (4 * jb + (jf - 24)) (by rw [ixm24 jf hjf]; exact ix4 _ _) (by omega) dX10_give_99 ?_
            refine j_st (st2 := [.int (m 26 (4 * jb + (jf - 24))), .int ((4 * (nI jb)) + ((nI jf) - 24)), .ref (q 26)]) rfl ?_
            refine j_iload_n C 3 dX10_give_100 rfl rfl ?_
            refine j_iadd C dX10_give_101 ?_
            refine ms_gift C (4 * jb + (jf - 24)) (by rw [ixm24 jf hjf]; exact ix4 _ _) (by omega) dX10_give_102 ?_
            refine j_aload_n C 0 dX10_give_103 rfl rfl ?_
            refine mg_gift C hin (by decide +kernel) dX10_give_104 ?_
            refine j_iconst C 4 dX10_give_107 (by decide) ?_
            refine j_iload_n C 1 dX10_give_108 rfl rfl ?_
            refine j_imul C dX10_give_109 ?_
            refine j_iload C 4 dX10_give_110 rfl ?_
            refine j_iadd C dX10_give_112 ?_
            refine ml_gift C (4 * jb + (jf - 24)) (by rw [ixm24 jf hjf]; exact ix4 _ _) (by omega) dX10_give_113 ?_
            refine j_st (st2 := [.int ((m 26 (4 * jb + (jf - 24))) + x)]) (congrArg (fun z => Value.int z :: _) (mu_s (mu (mu (mu (mu m 0 0 0) 22 jb ((m 22 jb) - x)) 22 jf (((mu (mu m 0 0 0) 22 jb ((m 22 jb) - x)) 22 jf) + x)) 25 (jf - 24) ((m 25 (jf - 24)) + x)) 26 (4 * jb + (jf - 24)) ((m 26 (4 * jb + (jf - 24))) + x))) ?_
            exact j_iret C hQ dX10_give_114 (⟨by rw [sGive, if_pos ⟨c10, c18, by rw [hR]; exact c25, c30, by rw [tn_nI (show jb < 20000 by omega)]; exact c46⟩]; simp only [tn_nI (show jb < 20000 by omega), tn_nI (show jf < 20000 by omega)]; try rfl, by rw [sGive, if_pos ⟨c10, c18, by rw [hR]; exact c25, c30, by rw [tn_nI (show jb < 20000 by omega)]; exact c46⟩]; simp only [tn_nI (show jb < 20000 by omega), tn_nI (show jf < 20000 by omega)]; try rfl⟩)
          · rw [mCost_eq (m := m) (m2 := mu m 0 0 0) jb rfl rfl] at c46
            refine j_iconst C (-1) dX10_give_49 (by decide) ?_
            exact j_iret C hQ dX10_give_50 (⟨by rw [sGive, if_neg (fun h => c46 (by have h2 := h.2.2.2.2; rw [tn_nI (show jb < 20000 by omega)] at h2; exact h2))], by rw [sGive, if_neg (fun h => c46 (by have h2 := h.2.2.2.2; rw [tn_nI (show jb < 20000 by omega)] at h2; exact h2))]⟩)

set_option maxHeartbeats 4000000 in
set_option maxRecDepth 100000 in
theorem cm_work (l : Launch) (d : jD) (o : Nat) (q : Nat → Nat) (m : Nat → Nat → Int32) (w : Int64) (x y : Int32) (nW nP nF rd tp : Nat) (hI : mI m nW nP nF rd tp) : jMi noE d l yX10_work wsX10_work ({ frames := 1, cells := 0, slots := 0, locals := 22 } : Room) 0 0 [.ref o, .int x, .int y] (mW o q d m w) (fun r1 u => r1 = (sWork m x y nW rd).1 ∧ u = mW o q d (sWork m x y nW rd).2 w) := by
  refine jMi.mk noE_k (by decide) rfl (Nat.le_of_ble_eq_true rfl) (fun X A C hQ => ?_)
  have hin : ∀ w ∈ u_ws RX10 TX10 37, w ∈ wsX10_work := fun w h => List.mem_cons_of_mem _ (List.mem_append_right _ h)
  obtain ⟨hW, hnW, hPp, hnP, hF, hnF, hR, hrd, hT, htp⟩ := hI
  refine j_lvq (lv2 := [(0, .ref o), (1, .int x), (2, .int y)]) rfl ?_
  refine j_aload_n C 0 dX10_work_0 rfl rfl ?_
  refine j_iconst C 0 dX10_work_1 (by decide) ?_
  refine mp_thrown C hin (by decide +kernel) dX10_work_2 ?_
  refine j_aload_n C 0 dX10_work_5 rfl rfl ?_
  refine mg_works C hin (by decide +kernel) dX10_work_6 ?_
  refine j_st (st2 := [.int (nI nW)]) (congrArg (fun z => Value.int z :: _) hW) ?_
  refine j_bipush C 10 dX10_work_9 (by decide) ?_
  refine j_icmp_eq C 36 dX10_work_11 (by decide) (fun c11 => ?_) (fun c11 => ?_)
  · have c11 := (nI_eq (a := nW) (b := 10) (by omega) (by omega)).mp c11
    refine j_iconst C (-1) dX10_work_36 (by decide) ?_
    exact j_iret C hQ dX10_work_37 (⟨by rw [sWork, if_neg (fun h => h.1 c11)], by rw [sWork, if_neg (fun h => h.1 c11)]⟩)
  · have c11 : ¬ (nW = 10) := fun h => c11 ((nI_eq (a := nW) (b := 10) (by omega) (by omega)).mpr h)
    refine j_iload_n C 1 dX10_work_14 rfl rfl ?_
    refine j_iconst C 1 dX10_work_15 (by decide) ?_
    refine j_sipush C 1000 dX10_work_16 (by decide) ?_
    refine j_callS_i C 3 (cm_isIn l d _ x 1 1000) gX10_work_X10_isIn rfl rfl rfl (by decide +kernel) ⟨(Nat.le_of_ble_eq_true rfl), (Nat.le_of_ble_eq_true rfl)⟩ ⟨(Nat.le_of_ble_eq_true rfl), (Nat.le_of_ble_eq_true rfl)⟩ rfl rfl (Nat.le_of_ble_eq_true rfl) dX10_work_19 (fun r19 u19 h19 => ?_)
    obtain ⟨rfl, rfl⟩ := h19
    refine j_if_eq C 36 dX10_work_22 (by decide) (fun c22 => ?_) (fun c22 => ?_)
    · have c22 : ¬ (1 ≤ x ∧ x ≤ 1000) := bI_0.mp c22
      refine j_iconst C (-1) dX10_work_36 (by decide) ?_
      exact j_iret C hQ dX10_work_37 (⟨by rw [sWork, if_neg (fun h => c22 h.2.1)], by rw [sWork, if_neg (fun h => c22 h.2.1)]⟩)
    · have c22 : 1 ≤ x ∧ x ≤ 1000 := bI_n0.mp c22
      refine j_iload_n C 2 dX10_work_25 rfl rfl ?_
      refine j_iconst C 1 dX10_work_26 (by decide) ?_
      refine j_sipush C 9999 dX10_work_27 (by decide) ?_
      refine j_callS_i C 3 (cm_isIn l d _ y 1 9999) gX10_work_X10_isIn rfl rfl rfl (by decide +kernel) ⟨(Nat.le_of_ble_eq_true rfl), (Nat.le_of_ble_eq_true rfl)⟩ ⟨(Nat.le_of_ble_eq_true rfl), (Nat.le_of_ble_eq_true rfl)⟩ rfl rfl (Nat.le_of_ble_eq_true rfl) dX10_work_30 (fun r30 u30 h30 => ?_)
      obtain ⟨rfl, rfl⟩ := h30
      refine j_if_ne C 38 dX10_work_33 (by decide) (fun c33 => ?_) (fun c33 => ?_)
      · have c33 : 1 ≤ y ∧ y ≤ 9999 := bI_n0.mp c33
        refine j_aload_n C 0 dX10_work_38 rfl rfl ?_
        refine mg_shares C hin (by decide +kernel) dX10_work_39 ?_
        refine j_aload_n C 0 dX10_work_42 rfl rfl ?_
        refine mg_works C hin (by decide +kernel) dX10_work_43 ?_
        refine j_st (st2 := [.int (nI nW), .ref (q 17)]) (congrArg (fun z => Value.int z :: _) hW) ?_
        refine j_iload_n C 1 dX10_work_46 rfl rfl ?_
        refine ms_shares C nW rfl (by omega) dX10_work_47 ?_
        refine j_aload_n C 0 dX10_work_48 rfl rfl ?_
        refine mg_left C hin (by decide +kernel) dX10_work_49 ?_
        refine j_aload_n C 0 dX10_work_52 rfl rfl ?_
        refine mg_works C hin (by decide +kernel) dX10_work_53 ?_
        refine j_st (st2 := [.int (nI nW), .ref (q 18)]) (congrArg (fun z => Value.int z :: _) hW) ?_
        refine j_iload_n C 1 dX10_work_56 rfl rfl ?_
        refine ms_left C nW rfl (by omega) dX10_work_57 ?_
        refine j_aload_n C 0 dX10_work_58 rfl rfl ?_
        refine mg_price C hin (by decide +kernel) dX10_work_59 ?_
        refine j_aload_n C 0 dX10_work_62 rfl rfl ?_
        refine mg_works C hin (by decide +kernel) dX10_work_63 ?_
        refine j_st (st2 := [.int (nI nW), .ref (q 19)]) (congrArg (fun z => Value.int z :: _) hW) ?_
        refine j_iload_n C 2 dX10_work_66 rfl rfl ?_
        refine ms_price C nW rfl (by omega) dX10_work_67 ?_
        refine j_aload_n C 0 dX10_work_68 rfl rfl ?_
        refine mg_since C hin (by decide +kernel) dX10_work_69 ?_
        refine j_aload_n C 0 dX10_work_72 rfl rfl ?_
        refine mg_works C hin (by decide +kernel) dX10_work_73 ?_
        refine j_st (st2 := [.int (nI nW), .ref (q 21)]) (congrArg (fun z => Value.int z :: _) hW) ?_
        refine j_aload_n C 0 dX10_work_76 rfl rfl ?_
        refine mg_round C hin (by decide +kernel) dX10_work_77 ?_
        refine j_st (st2 := [.int (nI rd), .int (nI nW), .ref (q 21)]) (congrArg (fun z => Value.int z :: _) hR) ?_
        refine ms_since C nW rfl (by omega) dX10_work_80 ?_
        refine j_aload_n C 0 dX10_work_81 rfl rfl ?_
        refine mg_prices C hin (by decide +kernel) dX10_work_82 ?_
        refine j_bipush C 50 dX10_work_85 (by decide) ?_
        refine j_aload_n C 0 dX10_work_87 rfl rfl ?_
        refine mg_works C hin (by decide +kernel) dX10_work_88 ?_
        refine j_st (st2 := [.int (nI nW), .int 50, .ref (q 20)]) (congrArg (fun z => Value.int z :: _) hW) ?_
        refine j_imul C dX10_work_91 ?_
        refine j_aload_n C 0 dX10_work_92 rfl rfl ?_
        refine mg_round C hin (by decide +kernel) dX10_work_93 ?_
        refine j_st (st2 := [.int (nI rd), .int (50 * (nI nW)), .ref (q 20)]) (congrArg (fun z => Value.int z :: _) hR) ?_
        refine j_iadd C dX10_work_96 ?_
        refine j_iload_n C 2 dX10_work_97 rfl rfl ?_
        refine ms_prices C (50 * nW + rd) (ix50 nW rd) (by omega) dX10_work_98 ?_
        refine j_aload_n C 0 dX10_work_99 rfl rfl ?_
        refine j_dup C dX10_work_100 rfl ?_
        refine mg_works C hin (by decide +kernel) dX10_work_101 ?_
        refine j_st (st2 := [.int (nI nW), .ref o]) (congrArg (fun z => Value.int z :: _) hW) ?_
        refine j_iconst C 1 dX10_work_104 (by decide) ?_
        refine j_iadd C dX10_work_105 ?_
        refine mp_works C hin (by decide +kernel) dX10_work_106 ?_
        refine j_aload_n C 0 dX10_work_109 rfl rfl ?_
        refine mg_works C hin (by decide +kernel) dX10_work_110 ?_
        refine j_st (st2 := [.int ((nI nW) + 1)]) rfl ?_
        refine j_iconst C 1 dX10_work_113 (by decide) ?_
        refine j_isub C dX10_work_114 ?_
        exact j_iret C hQ dX10_work_115 (⟨by rw [sWork, if_pos ⟨c11, c22, c33⟩]; simp only []; rw [show nI nW + 1 = nI (nW + 1) from nI_1 nW, nI_pred], by rw [sWork, if_pos ⟨c11, c22, c33⟩]; simp only []; rw [show nI nW + 1 = nI (nW + 1) from nI_1 nW]⟩)
      · have c33 : ¬ (1 ≤ y ∧ y ≤ 9999) := bI_0.mp c33
        refine j_iconst C (-1) dX10_work_36 (by decide) ?_
        exact j_iret C hQ dX10_work_37 (⟨by rw [sWork, if_neg (fun h => c33 h.2.2)], by rw [sWork, if_neg (fun h => c33 h.2.2)]⟩)

set_option maxHeartbeats 4000000 in
set_option maxRecDepth 100000 in
theorem cm_person (l : Launch) (d : jD) (o : Nat) (q : Nat → Nat) (m : Nat → Nat → Int32) (w : Int64) (x : Int32) (nW nP nF rd tp : Nat) (hI : mI m nW nP nF rd tp) : jMi noE d l yX10_person wsX10_person ({ frames := 1, cells := 0, slots := 0, locals := 21 } : Room) 0 0 [.ref o, .int x] (mW o q d m w) (fun r1 u => r1 = (sPerson m x nP).1 ∧ u = mW o q d (sPerson m x nP).2 w) := by
  refine jMi.mk noE_k (by decide) rfl (Nat.le_of_ble_eq_true rfl) (fun X A C hQ => ?_)
  have hin : ∀ w ∈ u_ws RX10 TX10 37, w ∈ wsX10_person := fun w h => List.mem_cons_of_mem _ (List.mem_append_right _ h)
  obtain ⟨hW, hnW, hPp, hnP, hF, hnF, hR, hrd, hT, htp⟩ := hI
  refine j_lvq (lv2 := [(0, .ref o), (1, .int x)]) rfl ?_
  refine j_aload_n C 0 dX10_person_0 rfl rfl ?_
  refine j_iconst C 0 dX10_person_1 (by decide) ?_
  refine mp_thrown C hin (by decide +kernel) dX10_person_2 ?_
  refine j_aload_n C 0 dX10_person_5 rfl rfl ?_
  refine mg_people C hin (by decide +kernel) dX10_person_6 ?_
  refine j_st (st2 := [.int (nI nP)]) (congrArg (fun z => Value.int z :: _) hPp) ?_
  refine j_bipush C 24 dX10_person_9 (by decide) ?_
  refine j_icmp_eq C 27 dX10_person_11 (by decide) (fun c11 => ?_) (fun c11 => ?_)
  · have c11 := (nI_eq (a := nP) (b := 24) (by omega) (by omega)).mp c11
    refine j_iconst C (-1) dX10_person_27 (by decide) ?_
    exact j_iret C hQ dX10_person_28 (⟨by rw [sPerson, if_neg (fun h => h.1 c11)], by rw [sPerson, if_neg (fun h => h.1 c11)]⟩)
  · have c11 : ¬ (nP = 24) := fun h => c11 ((nI_eq (a := nP) (b := 24) (by omega) (by omega)).mpr h)
    refine j_iload_n C 1 dX10_person_14 rfl rfl ?_
    refine j_iconst C (-1) dX10_person_15 (by decide) ?_
    refine j_icmp_eq C 29 dX10_person_16 (by decide) (fun c16 => ?_) (fun c16 => ?_)
    · refine j_aload_n C 0 dX10_person_29 rfl rfl ?_
      refine mg_points C hin (by decide +kernel) dX10_person_30 ?_
      refine j_aload_n C 0 dX10_person_33 rfl rfl ?_
      refine mg_people C hin (by decide +kernel) dX10_person_34 ?_
      refine j_st (st2 := [.int (nI nP), .ref (q 22)]) (congrArg (fun z => Value.int z :: _) hPp) ?_
      refine j_sipush C 1000 dX10_person_37 (by decide) ?_
      refine ms_points C nP rfl (by omega) dX10_person_40 ?_
      refine j_aload_n C 0 dX10_person_41 rfl rfl ?_
      refine mg_worker C hin (by decide +kernel) dX10_person_42 ?_
      refine j_aload_n C 0 dX10_person_45 rfl rfl ?_
      refine mg_people C hin (by decide +kernel) dX10_person_46 ?_
      refine j_st (st2 := [.int (nI nP), .ref (q 23)]) (congrArg (fun z => Value.int z :: _) hPp) ?_
      refine j_iload_n C 1 dX10_person_49 rfl rfl ?_
      refine ms_worker C nP rfl (by omega) dX10_person_50 ?_
      refine j_aload_n C 0 dX10_person_51 rfl rfl ?_
      refine j_dup C dX10_person_52 rfl ?_
      refine mg_people C hin (by decide +kernel) dX10_person_53 ?_
      refine j_st (st2 := [.int (nI nP), .ref o]) (congrArg (fun z => Value.int z :: _) hPp) ?_
      refine j_iconst C 1 dX10_person_56 (by decide) ?_
      refine j_iadd C dX10_person_57 ?_
      refine mp_people C hin (by decide +kernel) dX10_person_58 ?_
      refine j_aload_n C 0 dX10_person_61 rfl rfl ?_
      refine mg_people C hin (by decide +kernel) dX10_person_62 ?_
      refine j_st (st2 := [.int ((nI nP) + 1)]) rfl ?_
      refine j_iconst C 1 dX10_person_65 (by decide) ?_
      refine j_isub C dX10_person_66 ?_
      exact j_iret C hQ dX10_person_67 (⟨by rw [sPerson, if_pos ⟨c11, Or.inl c16⟩]; simp only []; rw [show nI nP + 1 = nI (nP + 1) from nI_1 nP, nI_pred], by rw [sPerson, if_pos ⟨c11, Or.inl c16⟩]; simp only []; rw [show nI nP + 1 = nI (nP + 1) from nI_1 nP]⟩)
    · refine j_aload_n C 0 dX10_person_19 rfl rfl ?_
      refine j_iload_n C 1 dX10_person_20 rfl rfl ?_
      refine j_callV_i C 1 0 (cm_isWork l d o q (mu m 0 0 0) w x) rfl rfl gX10_person_X10_isWork rfl rfl rfl (by decide +kernel) ⟨(Nat.le_of_ble_eq_true rfl), (Nat.le_of_ble_eq_true rfl)⟩ ⟨(Nat.le_of_ble_eq_true rfl), (Nat.le_of_ble_eq_true rfl)⟩ rfl rfl (Nat.le_of_ble_eq_true rfl) dX10_person_21 (fun r21 u21 h21 => ?_)
      obtain ⟨rfl, rfl⟩ := h21
      refine j_if_ne C 29 dX10_person_24 (by decide) (fun c24 => ?_) (fun c24 => ?_)
      · have c24 : isW m x := bI_n0.mp c24
        refine j_aload_n C 0 dX10_person_29 rfl rfl ?_
        refine mg_points C hin (by decide +kernel) dX10_person_30 ?_
        refine j_aload_n C 0 dX10_person_33 rfl rfl ?_
        refine mg_people C hin (by decide +kernel) dX10_person_34 ?_
        refine j_st (st2 := [.int (nI nP), .ref (q 22)]) (congrArg (fun z => Value.int z :: _) hPp) ?_
        refine j_sipush C 1000 dX10_person_37 (by decide) ?_
        refine ms_points C nP rfl (by omega) dX10_person_40 ?_
        refine j_aload_n C 0 dX10_person_41 rfl rfl ?_
        refine mg_worker C hin (by decide +kernel) dX10_person_42 ?_
        refine j_aload_n C 0 dX10_person_45 rfl rfl ?_
        refine mg_people C hin (by decide +kernel) dX10_person_46 ?_
        refine j_st (st2 := [.int (nI nP), .ref (q 23)]) (congrArg (fun z => Value.int z :: _) hPp) ?_
        refine j_iload_n C 1 dX10_person_49 rfl rfl ?_
        refine ms_worker C nP rfl (by omega) dX10_person_50 ?_
        refine j_aload_n C 0 dX10_person_51 rfl rfl ?_
        refine j_dup C dX10_person_52 rfl ?_
        refine mg_people C hin (by decide +kernel) dX10_person_53 ?_
        refine j_st (st2 := [.int (nI nP), .ref o]) (congrArg (fun z => Value.int z :: _) hPp) ?_
        refine j_iconst C 1 dX10_person_56 (by decide) ?_
        refine j_iadd C dX10_person_57 ?_
        refine mp_people C hin (by decide +kernel) dX10_person_58 ?_
        refine j_aload_n C 0 dX10_person_61 rfl rfl ?_
        refine mg_people C hin (by decide +kernel) dX10_person_62 ?_
        refine j_st (st2 := [.int ((nI nP) + 1)]) rfl ?_
        refine j_iconst C 1 dX10_person_65 (by decide) ?_
        refine j_isub C dX10_person_66 ?_
        exact j_iret C hQ dX10_person_67 (⟨by rw [sPerson, if_pos ⟨c11, Or.inr c24⟩]; simp only []; rw [show nI nP + 1 = nI (nP + 1) from nI_1 nP, nI_pred], by rw [sPerson, if_pos ⟨c11, Or.inr c24⟩]; simp only []; rw [show nI nP + 1 = nI (nP + 1) from nI_1 nP]⟩)
      · have c24 : ¬ isW m x := bI_0.mp c24
        refine j_iconst C (-1) dX10_person_27 (by decide) ?_
        exact j_iret C hQ dX10_person_28 (⟨by rw [sPerson, if_neg (fun h => h.2.elim c16 c24)], by rw [sPerson, if_neg (fun h => h.2.elim c16 c24)]⟩)

set_option maxHeartbeats 4000000 in
set_option maxRecDepth 100000 in
theorem cm_fund (l : Launch) (d : jD) (o : Nat) (q : Nat → Nat) (m : Nat → Nat → Int32) (w : Int64) (x : Int32) (nW nP nF rd tp : Nat) (hI : mI m nW nP nF rd tp) : jMi noE d l yX10_fund wsX10_fund ({ frames := 1, cells := 0, slots := 0, locals := 22 } : Room) 0 0 [.ref o, .int x] (mW o q d m w) (fun r1 u => r1 = (sFund m x nF).1 ∧ u = mW o q d (sFund m x nF).2 w) := by
  refine jMi.mk noE_k (by decide) rfl (Nat.le_of_ble_eq_true rfl) (fun X A C hQ => ?_)
  have hin : ∀ w ∈ u_ws RX10 TX10 37, w ∈ wsX10_fund := fun w h => List.mem_cons_of_mem _ (List.mem_append_right _ h)
  obtain ⟨hW, hnW, hPp, hnP, hF, hnF, hR, hrd, hT, htp⟩ := hI
  refine j_lvq (lv2 := [(0, .ref o), (1, .int x)]) rfl ?_
  refine j_aload_n C 0 dX10_fund_0 rfl rfl ?_
  refine j_iconst C 0 dX10_fund_1 (by decide) ?_
  refine mp_thrown C hin (by decide +kernel) dX10_fund_2 ?_
  refine j_aload_n C 0 dX10_fund_5 rfl rfl ?_
  refine mg_funds C hin (by decide +kernel) dX10_fund_6 ?_
  refine j_st (st2 := [.int (nI nF)]) (congrArg (fun z => Value.int z :: _) hF) ?_
  refine j_iconst C 4 dX10_fund_9 (by decide) ?_
  refine j_icmp_eq C 24 dX10_fund_10 (by decide) (fun c10 => ?_) (fun c10 => ?_)
  · have c10 := (nI_eq (a := nF) (b := 4) (by omega) (by omega)).mp c10
    refine j_iconst C (-1) dX10_fund_24 (by decide) ?_
    exact j_iret C hQ dX10_fund_25 (⟨by rw [sFund, if_neg (fun h => h.1 c10)], by rw [sFund, if_neg (fun h => h.1 c10)]⟩)
  · have c10 : ¬ (nF = 4) := fun h => c10 ((nI_eq (a := nF) (b := 4) (by omega) (by omega)).mpr h)
    refine j_iload_n C 1 dX10_fund_13 rfl rfl ?_
    refine j_iconst C 0 dX10_fund_14 (by decide) ?_
    refine j_sipush C 500 dX10_fund_15 (by decide) ?_
    refine j_callS_i C 3 (cm_isIn l d _ x 0 500) gX10_fund_X10_isIn rfl rfl rfl (by decide +kernel) ⟨(Nat.le_of_ble_eq_true rfl), (Nat.le_of_ble_eq_true rfl)⟩ ⟨(Nat.le_of_ble_eq_true rfl), (Nat.le_of_ble_eq_true rfl)⟩ rfl rfl (Nat.le_of_ble_eq_true rfl) dX10_fund_18 (fun r18 u18 h18 => ?_)
    obtain ⟨rfl, rfl⟩ := h18
    refine j_if_ne C 26 dX10_fund_21 (by decide) (fun c21 => ?_) (fun c21 => ?_)
    · have c21 : 0 ≤ x ∧ x ≤ 500 := bI_n0.mp c21
      refine j_aload_n C 0 dX10_fund_26 rfl rfl ?_
      refine mg_promise C hin (by decide +kernel) dX10_fund_27 ?_
      refine j_aload_n C 0 dX10_fund_30 rfl rfl ?_
      refine mg_funds C hin (by decide +kernel) dX10_fund_31 ?_
      refine j_st (st2 := [.int (nI nF), .ref (q 24)]) (congrArg (fun z => Value.int z :: _) hF) ?_
      refine j_iload_n C 1 dX10_fund_34 rfl rfl ?_
      refine ms_promise C nF rfl (by omega) dX10_fund_35 ?_
      refine j_aload_n C 0 dX10_fund_36 rfl rfl ?_
      refine j_dup C dX10_fund_37 rfl ?_
      refine mg_funds C hin (by decide +kernel) dX10_fund_38 ?_
      refine j_st (st2 := [.int (nI nF), .ref o]) (congrArg (fun z => Value.int z :: _) hF) ?_
      refine j_iconst C 1 dX10_fund_41 (by decide) ?_
      refine j_iadd C dX10_fund_42 ?_
      refine mp_funds C hin (by decide +kernel) dX10_fund_43 ?_
      refine j_bipush C 24 dX10_fund_46 (by decide) ?_
      refine j_aload_n C 0 dX10_fund_48 rfl rfl ?_
      refine mg_funds C hin (by decide +kernel) dX10_fund_49 ?_
      refine j_st (st2 := [.int ((nI nF) + 1), .int 24]) rfl ?_
      refine j_iadd C dX10_fund_52 ?_
      refine j_iconst C 1 dX10_fund_53 (by decide) ?_
      refine j_isub C dX10_fund_54 ?_
      exact j_iret C hQ dX10_fund_55 (⟨by rw [sFund, if_pos ⟨c10, c21⟩]; simp only []; rw [show nI nF + 1 = nI (nF + 1) from nI_1 nF, show (24 : Int32) = nI 24 from rfl, nI_add, ← Nat.add_assoc, nI_pred], by rw [sFund, if_pos ⟨c10, c21⟩]; simp only []; rw [show nI nF + 1 = nI (nF + 1) from nI_1 nF]⟩)
    · have c21 : ¬ (0 ≤ x ∧ x ≤ 500) := bI_0.mp c21
      refine j_iconst C (-1) dX10_fund_24 (by decide) ?_
      exact j_iret C hQ dX10_fund_25 (⟨by rw [sFund, if_neg (fun h => c21 h.2)], by rw [sFund, if_neg (fun h => c21 h.2)]⟩)


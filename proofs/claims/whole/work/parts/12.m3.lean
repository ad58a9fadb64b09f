theorem mKept_eq {m m2 : Nat → Nat → Int32} (b nW : Nat) (h1 : m2 28 = m 28) (h2 : m2 19 = m 19) (h3 : m2 22 = m 22) (h4 : m2 24 = m 24) (h5 : m2 25 = m 25) : mKept m2 b nW = mKept m b nW := by unfold mKept; rw [mAll_eq b h1 h2 h3 nW, h4, h5]

set_option maxHeartbeats 4000000 in
set_option maxRecDepth 100000 in
theorem cm_purse (l : Launch) (d : jD) (o : Nat) (q : Nat → Nat) (m : Nat → Nat → Int32) (w : Int64) (b y : Int32) (nW nP nF rd tp : Nat) (hI : mI m nW nP nF rd tp) : jMi noE d l yX10_purse wsX10_purse ({ frames := 2, cells := 0, slots := 0, locals := 42 } : Room) 0 0 [.ref o, .int b, .int y] (mW o q d m w) (fun r1 u => r1 = (sPurse m b y nW).1 ∧ u = mW o q d (sPurse m b y nW).2 w) := by
  refine jMi.mk noE_k (by decide) rfl (Nat.le_of_ble_eq_true rfl) (fun X A C hQ => ?_)
  have hin : ∀ w ∈ u_ws RX10 TX10 37, w ∈ wsX10_purse := fun w h => List.mem_cons_of_mem _ (List.mem_append_right _ h)
  obtain ⟨hW, hnW, hPp, hnP, hF, hnF, hR, hrd, hT, htp⟩ := hI
  refine j_lvq (lv2 := [(0, .ref o), (1, .int b), (2, .int y)]) rfl ?_
  refine j_aload_n C 0 dX10_purse_0 rfl rfl ?_
  refine j_iload_n C 1 dX10_purse_1 rfl rfl ?_
  refine j_callV_i C 1 0 (cm_isBidder l d o q m w b) rfl rfl gX10_purse_X10_isBidder rfl rfl rfl (by decide +kernel) ⟨(Nat.le_of_ble_eq_true rfl), (Nat.le_of_ble_eq_true rfl)⟩ ⟨(Nat.le_of_ble_eq_true rfl), (Nat.le_of_ble_eq_true rfl)⟩ rfl rfl (Nat.le_of_ble_eq_true rfl) dX10_purse_2 (fun r2 u2 h2 => ?_)
  obtain ⟨rfl, rfl⟩ := h2
  refine j_if_eq C 17 dX10_purse_5 (by decide) (fun c5 => ?_) (fun c5 => ?_)
  · have c5 : ¬ isB m b := bI_0.mp c5
    refine j_aload_n C 0 dX10_purse_17 rfl rfl ?_
    refine j_callV_i C 0 0 (cm_refuse l d o q m w) rfl rfl gX10_purse_X10_refuse rfl rfl rfl (by decide +kernel) ⟨(Nat.le_of_ble_eq_true rfl), (Nat.le_of_ble_eq_true rfl)⟩ ⟨(Nat.le_of_ble_eq_true rfl), (Nat.le_of_ble_eq_true rfl)⟩ rfl rfl (Nat.le_of_ble_eq_true rfl) dX10_purse_18 (fun r18 u18 h18 => ?_)
    obtain ⟨rfl, rfl⟩ := h18
    exact j_iret C hQ dX10_purse_21 (⟨by rw [sPurse, if_neg (fun h => c5 h.1)], by rw [sPurse, if_neg (fun h => c5 h.1)]⟩)
  · have c5 : isB m b := bI_n0.mp c5
    obtain ⟨jb, hjb, hjbb, rfl⟩ := isB_nI hPp hnP hF hnF c5
    refine j_iload_n C 2 dX10_purse_8 rfl rfl ?_
    refine j_if_lt C 17 dX10_purse_9 (by decide) (fun c9 => ?_) (fun c9 => ?_)
    · refine j_aload_n C 0 dX10_purse_17 rfl rfl ?_
      refine j_callV_i C 0 0 (cm_refuse l d o q m w) rfl rfl gX10_purse_X10_refuse rfl rfl rfl (by decide +kernel) ⟨(Nat.le_of_ble_eq_true rfl), (Nat.le_of_ble_eq_true rfl)⟩ ⟨(Nat.le_of_ble_eq_true rfl), (Nat.le_of_ble_eq_true rfl)⟩ rfl rfl (Nat.le_of_ble_eq_true rfl) dX10_purse_18 (fun r18 u18 h18 => ?_)
      obtain ⟨rfl, rfl⟩ := h18
      exact j_iret C hQ dX10_purse_21 (⟨by rw [sPurse, if_neg (fun h => i_nlt.mpr h.2.1 c9)], by rw [sPurse, if_neg (fun h => i_nlt.mpr h.2.1 c9)]⟩)
    · refine j_iload_n C 2 dX10_purse_12 rfl rfl ?_
      refine j_iconst C 4 dX10_purse_13 (by decide) ?_
      refine j_icmp_le C 22 dX10_purse_14 (by decide) (fun c14 => ?_) (fun c14 => ?_)
      · have hv : okPurse m (nI jb) y := ⟨c5, i_nlt.mp c9, c14⟩
        have loop : ∀ fz i : Nat, i ≤ nW → nW - i < fz → jJ X l d A 5 0 0 (mW o q d (mu m 0 0 0) w) [(0, .ref o), (1, .int (nI jb)), (2, .int y), (3, .int (mHeldS m jb i)), (4, .int (nI i))] 32 [] := by
          intro fz
          induction fz with
          | zero => intro i _ h; exact absurd h (Nat.not_lt_zero _)
          | succ fz ih =>
            intro i hi hn
            refine j_iload C 4 dX10_purse_32 rfl ?_
            refine j_aload_n C 0 dX10_purse_34 rfl rfl ?_
            refine mg_works C hin (by decide +kernel) dX10_purse_35 ?_
            refine j_st (st2 := [.int (nI nW), .int (nI i)]) (congrArg (fun z => Value.int z :: _) hW) ?_
            refine j_icmp_ge C 62 dX10_purse_38 (by decide) (fun c38 => ?_) (fun c38 => ?_)
            · have c38 := (nI_leI (a := nW) (b := i) (by omega) (by omega)).mp c38
              obtain rfl : nW = i := by omega
              refine j_iload_n C 2 dX10_purse_62 rfl rfl ?_
              rcases sw4 y with h | h | h | h | h
              · subst h
                refine j_tableIn C 92 dX10_purse_63 (by decide) (by decide) rfl (by decide) ?_
                refine j_aload_n C 0 dX10_purse_92 rfl rfl ?_
                refine mg_points C hin (by decide +kernel) dX10_purse_93 ?_
                refine j_iload_n C 1 dX10_purse_96 rfl rfl ?_
                refine ml_points C jb rfl (by omega) dX10_purse_97 ?_
                refine j_st (st2 := [.int (m 22 jb)]) rfl ?_
                exact j_iret C hQ dX10_purse_98 (⟨by rw [sPurse, if_pos hv]; show m 22 jb = m 22 (tn (nI jb)); rw [tn_nI (show jb < 20000 by omega)], by rw [sPurse, if_pos hv]⟩)
              · subst h
                refine j_tableIn C 99 dX10_purse_63 (by decide) (by decide) rfl (by decide) ?_
                refine j_aload_n C 0 dX10_purse_99 rfl rfl ?_
                refine j_iload_n C 1 dX10_purse_100 rfl rfl ?_
                refine j_callV_i C 1 0 (cm_costs l d o q (mu m 0 0 0) w jb nW (by omega) hW hnW) rfl rfl gX10_purse_X10_costs rfl rfl rfl (by decide +kernel) ⟨(Nat.le_of_ble_eq_true rfl), (Nat.le_of_ble_eq_true rfl)⟩ ⟨(Nat.le_of_ble_eq_true rfl), (Nat.le_of_ble_eq_true rfl)⟩ rfl rfl (Nat.le_of_ble_eq_true rfl) dX10_purse_101 (fun r101 u101 h101 => ?_)
                obtain ⟨rfl, rfl⟩ := h101
                exact j_iret C hQ dX10_purse_104 (⟨by rw [sPurse, if_pos hv]; show mCost (mu m 0 0 0) jb nW = mCost m (tn (nI jb)) nW; rw [tn_nI (show jb < 20000 by omega), mCost_eq (m := m) (m2 := mu m 0 0 0) jb rfl rfl], by rw [sPurse, if_pos hv]⟩)
              · subst h
                refine j_tableIn C 105 dX10_purse_63 (by decide) (by decide) rfl (by decide) ?_
                refine j_aload_n C 0 dX10_purse_105 rfl rfl ?_
                refine j_iload_n C 1 dX10_purse_106 rfl rfl ?_
                refine j_callV_i C 1 0 (cm_isFund l d o q (mu m 0 0 0) w (nI jb)) rfl rfl gX10_purse_X10_isFund rfl rfl rfl (by decide +kernel) ⟨(Nat.le_of_ble_eq_true rfl), (Nat.le_of_ble_eq_true rfl)⟩ ⟨(Nat.le_of_ble_eq_true rfl), (Nat.le_of_ble_eq_true rfl)⟩ rfl rfl (Nat.le_of_ble_eq_true rfl) dX10_purse_107 (fun r107 u107 h107 => ?_)
                obtain ⟨rfl, rfl⟩ := h107
                refine j_if_eq C 125 dX10_purse_110 (by decide) (fun c110 => ?_) (fun c110 => ?_)
                · have c110 : ¬ isF m (nI jb) := bI_0.mp c110
                  refine j_iconst C (-1) dX10_purse_125 (by decide) ?_
                  exact j_iret C hQ dX10_purse_126 (⟨by rw [sPurse, if_pos hv]; show (-1 : Int32) = (if isF m (nI jb) then m 25 (tn (nI jb) - 24) else -1); rw [if_neg c110], by rw [sPurse, if_pos hv]⟩)
                · have c110 : isF m (nI jb) := bI_n0.mp c110
                  have hjf : 24 ≤ jb := by obtain ⟨j2, hj2, hj4, hj3⟩ := isF_nI hF hnF c110; rw [(nI_eq (by omega) (by omega)).mp hj3]; exact hj2
                  refine j_aload_n C 0 dX10_purse_113 rfl rfl ?_
                  refine mg_given C hin (by decide +kernel) dX10_purse_114 ?_
                  refine j_iload_n C 1 dX10_purse_117 rfl rfl ?_
                  refine j_bipush C 24 dX10_purse_118 (by decide) ?_
                  refine j_isub C dX10_purse_120 ?_
                  refine ml_given C (jb - 24) (ixm24 jb (by omega)) (by omega) dX10_purse_121 ?_
                  refine j_st (st2 := [.int (m 25 (jb - 24))]) rfl ?_
                  refine j_goto C 126 dX10_purse_122 (by decide) ?_
                  exact j_iret C hQ dX10_purse_126 (⟨by rw [sPurse, if_pos hv]; show m 25 (jb - 24) = (if isF m (nI jb) then m 25 (tn (nI jb) - 24) else -1); rw [if_pos c110, tn_nI (show jb < 20000 by omega)], by rw [sPurse, if_pos hv]⟩)
              · subst h
                refine j_tableIn C 127 dX10_purse_63 (by decide) (by decide) rfl (by decide) ?_
                refine j_aload_n C 0 dX10_purse_127 rfl rfl ?_
                refine j_iload_n C 1 dX10_purse_128 rfl rfl ?_
                refine j_callV_i C 1 0 (cm_isFund l d o q (mu m 0 0 0) w (nI jb)) rfl rfl gX10_purse_X10_isFund rfl rfl rfl (by decide +kernel) ⟨(Nat.le_of_ble_eq_true rfl), (Nat.le_of_ble_eq_true rfl)⟩ ⟨(Nat.le_of_ble_eq_true rfl), (Nat.le_of_ble_eq_true rfl)⟩ rfl rfl (Nat.le_of_ble_eq_true rfl) dX10_purse_129 (fun r129 u129 h129 => ?_)
                obtain ⟨rfl, rfl⟩ := h129
                refine j_if_ne C 139 dX10_purse_132 (by decide) (fun c132 => ?_) (fun c132 => ?_)
                · have c132 : isF m (nI jb) := bI_n0.mp c132
                  have hjf : 24 ≤ jb := by obtain ⟨j2, hj2, hj4, hj3⟩ := isF_nI hF hnF c132; rw [(nI_eq (by omega) (by omega)).mp hj3]; exact hj2
                  refine j_aload_n C 0 dX10_purse_139 rfl rfl ?_
                  refine j_iload_n C 1 dX10_purse_140 rfl rfl ?_
                  refine j_callV_i C 1 0 (cm_isKept l d o q (mu m 0 0 0) w jb nW (by omega) (by omega) hW hnW) rfl rfl gX10_purse_X10_isKept rfl rfl rfl (by decide +kernel) ⟨(Nat.le_of_ble_eq_true rfl), (Nat.le_of_ble_eq_true rfl)⟩ ⟨(Nat.le_of_ble_eq_true rfl), (Nat.le_of_ble_eq_true rfl)⟩ rfl rfl (Nat.le_of_ble_eq_true rfl) dX10_purse_141 (fun r141 u141 h141 => ?_)
                  obtain ⟨rfl, rfl⟩ := h141
                  refine j_if_eq C 151 dX10_purse_144 (by decide) (fun c144 => ?_) (fun c144 => ?_)
                  · have c144 : ¬ mKept m jb nW := by have h := bI_0.mp c144; rw [mKept_eq (m := m) (m2 := mu m 0 0 0) jb nW rfl rfl rfl rfl rfl] at h; exact h
                    refine j_iconst C 0 dX10_purse_151 (by decide) ?_
                    exact j_iret C hQ dX10_purse_152 (⟨by rw [sPurse, if_pos hv]; show (0 : Int32) = (if isF m (nI jb) then bI (mKept m (tn (nI jb)) nW) else -1); rw [if_pos c132, tn_nI (show jb < 20000 by omega)]; exact bI_f c144, by rw [sPurse, if_pos hv]⟩)
                  · have c144 : mKept m jb nW := by have h := bI_n0.mp c144; rw [mKept_eq (m := m) (m2 := mu m 0 0 0) jb nW rfl rfl rfl rfl rfl] at h; exact h
                    refine j_iconst C 1 dX10_purse_147 (by decide) ?_
                    refine j_goto C 152 dX10_purse_148 (by decide) ?_
                    exact j_iret C hQ dX10_purse_152 (⟨by rw [sPurse, if_pos hv]; show (1 : Int32) = (if isF m (nI jb) then bI (mKept m (tn (nI jb)) nW) else -1); rw [if_pos c132, tn_nI (show jb < 20000 by omega)]; exact bI_t c144, by rw [sPurse, if_pos hv]⟩)
                · have c132 : ¬ isF m (nI jb) := bI_0.mp c132
                  refine j_iconst C (-1) dX10_purse_135 (by decide) ?_
                  refine j_goto C 152 dX10_purse_136 (by decide) ?_
                  exact j_iret C hQ dX10_purse_152 (⟨by rw [sPurse, if_pos hv]; show (-1 : Int32) = (if isF m (nI jb) then bI (mKept m (tn (nI jb)) nW) else -1); rw [if_neg c132], by rw [sPurse, if_pos hv]⟩)
              · refine j_tableOut C 153 dX10_purse_63 h (by decide) ?_
                refine j_iload_n C 3 dX10_purse_153 rfl rfl ?_
                exact j_iret C hQ dX10_purse_154 (⟨by rw [sPurse, if_pos hv]; simp only [vPurse, if_neg (show ¬ y = 0 from sw_ne h (by decide) (j := 0) (by decide)), if_neg (show ¬ y = 1 from sw_ne h (by decide) (j := 1) (by decide)), if_neg (show ¬ y = 2 from sw_ne h (by decide) (j := 2) (by decide)), if_neg (show ¬ y = 3 from sw_ne h (by decide) (j := 3) (by decide)), tn_nI (show jb < 20000 by omega)], by rw [sPurse, if_pos hv]⟩)
            · have c38 : ¬ (nW ≤ i) := fun h => c38 ((nI_leI (a := nW) (b := i) (by omega) (by omega)).mpr h)
              refine j_iload_n C 3 dX10_purse_41 rfl rfl ?_
              refine j_aload_n C 0 dX10_purse_42 rfl rfl ?_
              refine mg_held C hin (by decide +kernel) dX10_purse_43 ?_
              refine j_bipush C 10 dX10_purse_46 (by decide) ?_
              refine j_iload_n C 1 dX10_purse_48 rfl rfl ?_
              refine j_imulN C 10 jb dX10_purse_49 ?_
              refine j_iload C 4 dX10_purse_50 rfl ?_
              refine j_iaddN C (10 * jb) i dX10_purse_52 ?_
              refine ml_held C (10 * jb + i) rfl (by omega) dX10_purse_53 ?_
              refine j_st (st2 := [.int (m 28 (10 * jb + i)), .int (mHeldS m jb i)]) rfl ?_
              refine j_iadd C dX10_purse_54 ?_
              refine j_istore_n C [(0, .ref o), (1, .int (nI jb)), (2, .int y), (3, .int ((mHeldS m jb i) + (m 28 (10 * jb + i)))), (4, .int (nI i))] [1, 2, 3, 0, 4] dX10_purse_55 rfl (by decide) rfl ?_
              refine j_iinc C (nI (i + 1)) [(0, .ref o), (1, .int (nI jb)), (2, .int y), (3, .int ((mHeldS m jb i) + (m 28 (10 * jb + i)))), (4, .int (nI (i + 1)))] 4 [1, 2, 3, 4, 0] dX10_purse_56 rfl (nI_1 i) (by decide) rfl ?_
              refine j_goto C 32 dX10_purse_59 (by decide) ?_
              exact ih (i + 1) (by omega) (by omega)
        refine j_aload_n C 0 dX10_purse_22 rfl rfl ?_
        refine j_iconst C 0 dX10_purse_23 (by decide) ?_
        refine mp_thrown C hin (by decide +kernel) dX10_purse_24 ?_
        refine j_iconst C 0 dX10_purse_27 (by decide) ?_
        refine j_istore_n C [(0, .ref o), (1, .int (nI jb)), (2, .int y), (3, .int 0)] [1, 2, 3, 0] dX10_purse_28 rfl (by decide) rfl ?_
        refine j_iconst C 0 dX10_purse_29 (by decide) ?_
        refine j_istore C [(0, .ref o), (1, .int (nI jb)), (2, .int y), (3, .int 0), (4, .int 0)] [1, 2, 3, 4, 0] dX10_purse_30 (by decide) rfl ?_
        exact loop _ 0 (Nat.zero_le _) (Nat.lt_succ_self _)
      · refine j_aload_n C 0 dX10_purse_17 rfl rfl ?_
        refine j_callV_i C 0 0 (cm_refuse l d o q m w) rfl rfl gX10_purse_X10_refuse rfl rfl rfl (by decide +kernel) ⟨(Nat.le_of_ble_eq_true rfl), (Nat.le_of_ble_eq_true rfl)⟩ ⟨(Nat.le_of_ble_eq_true rfl), (Nat.le_of_ble_eq_true rfl)⟩ rfl rfl (Nat.le_of_ble_eq_true rfl) dX10_purse_18 (fun r18 u18 h18 => ?_)
        obtain ⟨rfl, rfl⟩ := h18
        exact j_iret C hQ dX10_purse_21 (⟨by rw [sPurse, if_neg (fun h => c14 h.2.2)], by rw [sPurse, if_neg (fun h => c14 h.2.2)]⟩)

/-- a byte of a number; four bytes behind the tape -/
def bt (x k : Int32) : Int32 := (x.toUInt32 >>> (k.toUInt32 &&& Int32.toUInt32 31)).toInt32 &&& 255
def mCm1 (m : Nat → Nat → Int32) (tp : Nat) (v : Int32) : Nat → Nat → Int32 := mu (mu m 1 tp v) 2 0 (nI (tp + 1))
def mCome (m : Nat → Nat → Int32) (tp : Nat) (x : Int32) : Nat → Nat → Int32 := mCm1 (mCm1 (mCm1 (mCm1 m tp (bt x 24)) (tp + 1) (bt x 16)) (tp + 1 + 1) (bt x 8)) (tp + 1 + 1 + 1) (bt x 0)
theorem mCome_2 (m : Nat → Nat → Int32) (tp : Nat) (x : Int32) : mCome m tp x 2 0 = nI (tp + 4) := rfl

set_option maxHeartbeats 4000000 in
set_option maxRecDepth 100000 in
theorem cm_come (l : Launch) (d : jD) (o : Nat) (q : Nat → Nat) (m : Nat → Nat → Int32) (w : Int64) (x : Int32) (tp : Nat) (hT : m 2 0 = nI tp) (htp : tp + 4 ≤ 140) : jMv noE d l yX10_come wsX10_come ({ frames := 0, cells := 0, slots := 0, locals := 0 } : Room) 0 0 [.ref o, .int x] (mW o q d m w) (fun u => u = mW o q d (mCome m tp x) w) := by
  refine jMv.mk noE_k (by decide) rfl (Nat.le_of_ble_eq_true rfl) (fun X A C hQ => ?_)
  have hin : ∀ w ∈ u_ws RX10 TX10 37, w ∈ wsX10_come := fun w h => List.mem_cons_of_mem _ (List.mem_append_right _ h)
  refine j_lvq (lv2 := [(0, .ref o), (1, .int x)]) rfl ?_
  refine j_bipush C 24 dX10_come_0 (by decide) ?_
  refine j_istore_n C [(0, .ref o), (1, .int x), (2, .int 24)] [1, 2, 0] dX10_come_2 rfl (by decide) rfl ?_
  refine j_iload_n C 2 dX10_come_3 rfl rfl ?_
  refine j_if_lt C 39 dX10_come_4 (by decide) (fun h => absurd h (by decide)) (fun _ => ?_)
  refine j_aload_n C 0 dX10_come_7 rfl rfl ?_
  refine mg_tape C hin (by decide +kernel) dX10_come_8 ?_
  refine j_aload_n C 0 dX10_come_11 rfl rfl ?_
  refine mg_taped C hin (by decide +kernel) dX10_come_12 ?_
  refine j_st (st2 := [.int (nI tp), .ref (q 1)]) (congrArg (fun z => Value.int z :: _) hT) ?_
  refine j_iload_n C 1 dX10_come_15 rfl rfl ?_
  refine j_iload_n C 2 dX10_come_16 rfl rfl ?_
  refine j_iushr C dX10_come_17 ?_
  refine j_sipush C 255 dX10_come_18 (by decide) ?_
  refine j_iand C dX10_come_21 ?_
  refine ms_tape C tp rfl (by omega) dX10_come_22 ?_
  refine j_aload_n C 0 dX10_come_23 rfl rfl ?_
  refine j_dup C dX10_come_24 rfl ?_
  refine mg_taped C hin (by decide +kernel) dX10_come_25 ?_
  refine j_st (st2 := [.int (nI tp), .ref o]) (congrArg (fun z => Value.int z :: _) hT) ?_
  refine j_iconst C 1 dX10_come_28 (by decide) ?_
  refine j_iaddN C tp 1 dX10_come_29 ?_
  refine mp_taped C hin (by decide +kernel) dX10_come_30 ?_
  refine j_iinc C 16 [(0, .ref o), (1, .int x), (2, .int 16)] 2 [1, 2, 0] dX10_come_33 rfl (by decide) (by decide) rfl ?_
  refine j_goto C 3 dX10_come_36 (by decide) ?_
  refine j_iload_n C 2 dX10_come_3 rfl rfl ?_
  refine j_if_lt C 39 dX10_come_4 (by decide) (fun h => absurd h (by decide)) (fun _ => ?_)
  refine j_aload_n C 0 dX10_come_7 rfl rfl ?_
  refine mg_tape C hin (by decide +kernel) dX10_come_8 ?_
  refine j_aload_n C 0 dX10_come_11 rfl rfl ?_
  refine mg_taped C hin (by decide +kernel) dX10_come_12 ?_
  refine j_st (st2 := [.int (nI (tp + 1)), .ref (q 1)]) rfl ?_
  refine j_iload_n C 1 dX10_come_15 rfl rfl ?_
  refine j_iload_n C 2 dX10_come_16 rfl rfl ?_
  refine j_iushr C dX10_come_17 ?_
  refine j_sipush C 255 dX10_come_18 (by decide) ?_
  refine j_iand C dX10_come_21 ?_
  refine ms_tape C (tp + 1) rfl (by omega) dX10_come_22 ?_
  refine j_aload_n C 0 dX10_come_23 rfl rfl ?_
  refine j_dup C dX10_come_24 rfl ?_
  refine mg_taped C hin (by decide +kernel) dX10_come_25 ?_
  refine j_st (st2 := [.int (nI (tp + 1)), .ref o]) rfl ?_
  refine j_iconst C 1 dX10_come_28 (by decide) ?_
  refine j_iaddN C (tp + 1) 1 dX10_come_29 ?_
  refine mp_taped C hin (by decide +kernel) dX10_come_30 ?_
  refine j_iinc C 8 [(0, .ref o), (1, .int x), (2, .int 8)] 2 [1, 2, 0] dX10_come_33 rfl (by decide) (by decide) rfl ?_
  refine j_goto C 3 dX10_come_36 (by decide) ?_
  refine j_iload_n C 2 dX10_come_3 rfl rfl ?_
  refine j_if_lt C 39 dX10_come_4 (by decide) (fun h => absurd h (by decide)) (fun _ => ?_)
  refine j_aload_n C 0 dX10_come_7 rfl rfl ?_
  refine mg_tape C hin (by decide +kernel) dX10_come_8 ?_
  refine j_aload_n C 0 dX10_come_11 rfl rfl ?_
  refine mg_taped C hin (by decide +kernel) dX10_come_12 ?_
  refine j_st (st2 := [.int (nI (tp + 1 + 1)), .ref (q 1)]) rfl ?_
  refine j_iload_n C 1 dX10_come_15 rfl rfl ?_
  refine j_iload_n C 2 dX10_come_16 rfl rfl ?_
  refine j_iushr C dX10_come_17 ?_
  refine j_sipush C 255 dX10_come_18 (by decide) ?_
  refine j_iand C dX10_come_21 ?_
  refine ms_tape C (tp + 1 + 1) rfl (by omega) dX10_come_22 ?_
  refine j_aload_n C 0 dX10_come_23 rfl rfl ?_
  refine j_dup C dX10_come_24 rfl ?_
  refine mg_taped C hin (by decide +kernel) dX10_come_25 ?_
  refine j_st (st2 := [.int (nI (tp + 1 + 1)), .ref o]) rfl ?_
  refine j_iconst C 1 dX10_come_28 (by decide) ?_
  refine j_iaddN C (tp + 1 + 1) 1 dX10_come_29 ?_
  refine mp_taped C hin (by decide +kernel) dX10_come_30 ?_
  refine j_iinc C 0 [(0, .ref o), (1, .int x), (2, .int 0)] 2 [1, 2, 0] dX10_come_33 rfl (by decide) (by decide) rfl ?_
  refine j_goto C 3 dX10_come_36 (by decide) ?_
  refine j_iload_n C 2 dX10_come_3 rfl rfl ?_
  refine j_if_lt C 39 dX10_come_4 (by decide) (fun h => absurd h (by decide)) (fun _ => ?_)
  refine j_aload_n C 0 dX10_come_7 rfl rfl ?_
  refine mg_tape C hin (by decide +kernel) dX10_come_8 ?_
  refine j_aload_n C 0 dX10_come_11 rfl rfl ?_
  refine mg_taped C hin (by decide +kernel) dX10_come_12 ?_
  refine j_st (st2 := [.int (nI (tp + 1 + 1 + 1)), .ref (q 1)]) rfl ?_
  refine j_iload_n C 1 dX10_come_15 rfl rfl ?_
  refine j_iload_n C 2 dX10_come_16 rfl rfl ?_
  refine j_iushr C dX10_come_17 ?_
  refine j_sipush C 255 dX10_come_18 (by decide) ?_
  refine j_iand C dX10_come_21 ?_
  refine ms_tape C (tp + 1 + 1 + 1) rfl (by omega) dX10_come_22 ?_
  refine j_aload_n C 0 dX10_come_23 rfl rfl ?_
  refine j_dup C dX10_come_24 rfl ?_
  refine mg_taped C hin (by decide +kernel) dX10_come_25 ?_
  refine j_st (st2 := [.int (nI (tp + 1 + 1 + 1)), .ref o]) rfl ?_
  refine j_iconst C 1 dX10_come_28 (by decide) ?_
  refine j_iaddN C (tp + 1 + 1 + 1) 1 dX10_come_29 ?_
  refine mp_taped C hin (by decide +kernel) dX10_come_30 ?_
  refine j_iinc C (-8) [(0, .ref o), (1, .int x), (2, .int (-8))] 2 [1, 2, 0] dX10_come_33 rfl (by decide) (by decide) rfl ?_
  refine j_goto C 3 dX10_come_36 (by decide) ?_
  refine j_iload_n C 2 dX10_come_3 rfl rfl ?_
  refine j_if_lt C 39 dX10_come_4 (by decide) (fun _ => ?_) (fun h => absurd h (by decide))
  exact j_vret C hQ dX10_come_39 rfl

def sFeed (m : Nat → Nat → Int32) (a b c d e : Int32) (tp : Nat) : Int32 × (Nat → Nat → Int32) := if tp + 20 ≤ 140 then (nI (tp + 20), mCome (mCome (mCome (mCome (mCome (mu m 0 0 0) (tp + 0) a) (tp + 4) b) (tp + 8) c) (tp + 12) d) (tp + 16) e) else (-1, mu m 0 0 0)

set_option maxHeartbeats 4000000 in
set_option maxRecDepth 100000 in
theorem cm_feed (l : Launch) (d : jD) (o : Nat) (q : Nat → Nat) (m : Nat → Nat → Int32) (w : Int64) (a b c d0 e : Int32) (tp : Nat) (hT : m 2 0 = nI tp) (htp : tp ≤ 140) : jMi noE d l yX10_feed wsX10_feed ({ frames := 1, cells := 0, slots := 0, locals := 22 } : Room) 0 0 [.ref o, .int a, .int b, .int c, .int d0, .int e] (mW o q d m w) (fun r1 u => r1 = (sFeed m a b c d0 e tp).1 ∧ u = mW o q d (sFeed m a b c d0 e tp).2 w) := by
  refine jMi.mk noE_k (by decide) rfl (Nat.le_of_ble_eq_true rfl) (fun X A C hQ => ?_)
  have hin : ∀ w ∈ u_ws RX10 TX10 37, w ∈ wsX10_feed := fun w h => List.mem_cons_of_mem _ (List.mem_append_right _ h)
  refine j_lvq (lv2 := [(0, .ref o), (1, .int a), (2, .int b), (3, .int c), (4, .int d0), (5, .int e)]) rfl ?_
  refine j_aload_n C 0 dX10_feed_0 rfl rfl ?_
  refine j_iconst C 0 dX10_feed_1 (by decide) ?_
  refine mp_thrown C hin (by decide +kernel) dX10_feed_2 ?_
  refine j_aload_n C 0 dX10_feed_5 rfl rfl ?_
  refine mg_taped C hin (by decide +kernel) dX10_feed_6 ?_
  refine j_st (st2 := [.int (nI tp)]) (congrArg (fun z => Value.int z :: _) hT) ?_
  refine j_bipush C 20 dX10_feed_9 (by decide) ?_
  refine j_iaddN C tp 20 dX10_feed_11 ?_
  refine j_sipush C 140 dX10_feed_12 (by decide) ?_
  refine j_icmp_le C 20 dX10_feed_15 (by decide) (fun c15 => ?_) (fun c15 => ?_)
  · have c15 := (nI_leI (a := tp + 20) (b := 140) (by omega) (by omega)).mp c15
    refine j_aload_n C 0 dX10_feed_20 rfl rfl ?_
    refine j_iload_n C 1 dX10_feed_21 rfl rfl ?_
    refine j_callV_v C 1 0 (cm_come l d o q (mu m 0 0 0) w a (tp + 0) hT (by omega)) rfl rfl gX10_feed_X10_come rfl rfl rfl (by decide +kernel) ⟨(Nat.le_of_ble_eq_true rfl), (Nat.le_of_ble_eq_true rfl)⟩ ⟨(Nat.le_of_ble_eq_true rfl), (Nat.le_of_ble_eq_true rfl)⟩ rfl rfl (Nat.le_of_ble_eq_true rfl) dX10_feed_22 (fun u22 h22 => ?_)
    obtain rfl := h22
    refine j_aload_n C 0 dX10_feed_25 rfl rfl ?_
    refine j_iload_n C 2 dX10_feed_26 rfl rfl ?_
    refine j_callV_v C 1 0 (cm_come l d o q (mCome (mu m 0 0 0) (tp + 0) a) w b (tp + 4) rfl (by omega)) rfl rfl gX10_feed_X10_come rfl rfl rfl (by decide +kernel) ⟨(Nat.le_of_ble_eq_true rfl), (Nat.le_of_ble_eq_true rfl)⟩ ⟨(Nat.le_of_ble_eq_true rfl), (Nat.le_of_ble_eq_true rfl)⟩ rfl rfl (Nat.le_of_ble_eq_true rfl) dX10_feed_27 (fun u27 h27 => ?_)
    obtain rfl := h27
    refine j_aload_n C 0 dX10_feed_30 rfl rfl ?_
    refine j_iload_n C 3 dX10_feed_31 rfl rfl ?_
    refine j_callV_v C 1 0 (cm_come l d o q (mCome (mCome (mu m 0 0 0) (tp + 0) a) (tp + 4) b) w c (tp + 8) rfl (by omega)) rfl rfl gX10_feed_X10_come rfl rfl rfl (by decide +kernel) ⟨(Nat.le_of_ble_eq_true rfl), (Nat.le_of_ble_eq_true rfl)⟩ ⟨(Nat.le_of_ble_eq_true rfl), (Nat.le_of_ble_eq_true rfl)⟩ rfl rfl (Nat.le_of_ble_eq_true rfl) dX10_feed_32 (fun u32 h32 => ?_)
    obtain rfl := h32
    refine j_aload_n C 0 dX10_feed_35 rfl rfl ?_
    refine j_iload C 4 dX10_feed_36 rfl ?_
    refine j_callV_v C 1 0 (cm_come l d o q (mCome (mCome (mCome (mu m 0 0 0) (tp + 0) a) (tp + 4) b) (tp + 8) c) w d0 (tp + 12) rfl (by omega)) rfl rfl gX10_feed_X10_come rfl rfl rfl (by decide +kernel) ⟨(Nat.le_of_ble_eq_true rfl), (Nat.le_of_ble_eq_true rfl)⟩ ⟨(Nat.le_of_ble_eq_true rfl), (Nat.le_of_ble_eq_true rfl)⟩ rfl rfl (Nat.le_of_ble_eq_true rfl) dX10_feed_38 (fun u38 h38 => ?_)
    obtain rfl := h38
    refine j_aload_n C 0 dX10_feed_41 rfl rfl ?_
    refine j_iload C 5 dX10_feed_42 rfl ?_
    refine j_callV_v C 1 0 (cm_come l d o q (mCome (mCome (mCome (mCome (mu m 0 0 0) (tp + 0) a) (tp + 4) b) (tp + 8) c) (tp + 12) d0) w e (tp + 16) rfl (by omega)) rfl rfl gX10_feed_X10_come rfl rfl rfl (by decide +kernel) ⟨(Nat.le_of_ble_eq_true rfl), (Nat.le_of_ble_eq_true rfl)⟩ ⟨(Nat.le_of_ble_eq_true rfl), (Nat.le_of_ble_eq_true rfl)⟩ rfl rfl (Nat.le_of_ble_eq_true rfl) dX10_feed_44 (fun u44 h44 => ?_)
    obtain rfl := h44
    refine j_aload_n C 0 dX10_feed_47 rfl rfl ?_
    refine mg_taped C hin (by decide +kernel) dX10_feed_48 ?_
    refine j_st (st2 := [.int (nI (tp + 20))]) (congrArg (fun z => Value.int z :: _) rfl) ?_
    exact j_iret C hQ dX10_feed_51 (⟨by rw [sFeed, if_pos c15], by rw [sFeed, if_pos c15]⟩)
  · have c15 : ¬ ((tp + 20) ≤ 140) := fun h => c15 ((nI_leI (a := tp + 20) (b := 140) (by omega) (by omega)).mpr h)
    refine j_iconst C (-1) dX10_feed_18 (by decide) ?_
    exact j_iret C hQ dX10_feed_19 (⟨by rw [sFeed, if_neg c15], by rw [sFeed, if_neg c15]⟩)

/-- what each has of WORK x for p points a share: the first k BIDDERS -/
def mSells (m : Nat → Nat → Int32) (x : Nat) (p : Int32) : Nat → Nat → Nat → Int32
  | 0 => m
  | k + 1 => mu (mu (mu (mSells m x p k) 28 (10 * k + x) (mSells m x p k 28 (10 * k + x) + mSells m x p k 36 k)) 27 (10 * k + x) (mSells m x p k 27 (10 * k + x) - mSells m x p k 36 k)) 22 k (mSells m x p k 22 k - mSells m x p k 36 k * p)
def mSold (m : Nat → Nat → Int32) (x : Nat) (p : Int32) : Nat → Int32
  | 0 => 0
  | k + 1 => mSold m x p k + mSells m x p k 36 k
def sSells (m : Nat → Nat → Int32) (x : Nat) (p : Int32) : Nat → Nat → Int32 := mu (mSells m x p 28) 18 x (mSells m x p 28 18 x - mSold m x p 28)

set_option maxHeartbeats 4000000 in
set_option maxRecDepth 100000 in
theorem cm_sells (l : Launch) (d : jD) (o : Nat) (q : Nat → Nat) (m : Nat → Nat → Int32) (w : Int64) (x : Nat) (p : Int32) (hx : x < 10) : jMi noE d l yX10_sells wsX10_sells ({ frames := 0, cells := 0, slots := 0, locals := 0 } : Room) 0 0 [.ref o, .int (nI x), .int p] (mW o q d m w) (fun r u => r = mSold m x p 28 ∧ u = mW o q d (sSells m x p) w) := by
  refine jMi.mk noE_k (by decide) rfl (Nat.le_of_ble_eq_true rfl) (fun X A C hQ => ?_)
  have hin : ∀ w ∈ u_ws RX10 TX10 37, w ∈ wsX10_sells := fun w h => List.mem_cons_of_mem _ (List.mem_append_right _ h)
  refine j_lvq (lv2 := [(0, .ref o), (1, .int (nI x)), (2, .int p)]) rfl ?_
  have loop : ∀ fz i : Nat, i ≤ 28 → 28 - i < fz → jJ X l d A 5 0 0 (mW o q d (mSells m x p i) w) [(0, .ref o), (1, .int (nI x)), (2, .int p), (3, .int (mSold m x p i)), (4, .int (nI i))] 5 [] := by
    intro fz
    induction fz with
    | zero => intro i _ h; exact absurd h (Nat.not_lt_zero _)
    | succ fz ih =>
      intro i hi hn
      refine j_iload C 4 dX10_sells_5 rfl ?_
      refine j_bipush C 28 dX10_sells_7 (by decide) ?_
      refine j_icmp_ge C 91 dX10_sells_9 (by decide) (fun c9 => ?_) (fun c9 => ?_)
      · have c9 := (nI_leI (a := 28) (b := i) (by omega) (by omega)).mp c9
        obtain rfl : i = 28 := by omega
        refine j_aload_n C 0 dX10_sells_91 rfl rfl ?_
        refine mg_left C hin (by decide +kernel) dX10_sells_92 ?_
        refine j_iload_n C 1 dX10_sells_95 rfl rfl ?_
        refine j_dup2 C dX10_sells_96 rfl rfl ?_
        refine ml_left C x rfl (by omega) dX10_sells_97 ?_
        refine j_iload_n C 3 dX10_sells_98 rfl rfl ?_
        refine j_isub C dX10_sells_99 ?_
        refine ms_left C x rfl (by omega) dX10_sells_100 ?_
        refine j_iload_n C 3 dX10_sells_101 rfl rfl ?_
        exact j_iret C hQ dX10_sells_102 (⟨rfl, rfl⟩)
      · have c9 : ¬ (28 ≤ i) := fun h => c9 ((nI_leI (a := 28) (b := i) (by omega) (by omega)).mpr h)
        refine j_aload_n C 0 dX10_sells_12 rfl rfl ?_
        refine mg_held C hin (by decide +kernel) dX10_sells_13 ?_
        refine j_bipush C 10 dX10_sells_16 (by decide) ?_
        refine j_iload C 4 dX10_sells_18 rfl ?_
        refine j_imulN C 10 i dX10_sells_20 ?_
        refine j_iload_n C 1 dX10_sells_21 rfl rfl ?_
        refine j_iaddN C (10 * i) x dX10_sells_22 ?_
        refine j_dup2 C dX10_sells_23 rfl rfl ?_
        refine ml_held C (10 * i + x) rfl (by omega) dX10_sells_24 ?_
        refine j_aload_n C 0 dX10_sells_25 rfl rfl ?_
        refine mg_gets C hin (by decide +kernel) dX10_sells_26 ?_
        refine j_iload C 4 dX10_sells_29 rfl ?_
        refine ml_gets C i rfl (by omega) dX10_sells_31 ?_
        refine j_iadd C dX10_sells_32 ?_
        refine ms_held C (10 * i + x) rfl (by omega) dX10_sells_33 ?_
        refine j_aload_n C 0 dX10_sells_34 rfl rfl ?_
        refine mg_asked C hin (by decide +kernel) dX10_sells_35 ?_
        refine j_bipush C 10 dX10_sells_38 (by decide) ?_
        refine j_iload C 4 dX10_sells_40 rfl ?_
        refine j_imulN C 10 i dX10_sells_42 ?_
        refine j_iload_n C 1 dX10_sells_43 rfl rfl ?_
        refine j_iaddN C (10 * i) x dX10_sells_44 ?_
        refine j_dup2 C dX10_sells_45 rfl rfl ?_
        refine ml_asked C (10 * i + x) rfl (by omega) dX10_sells_46 ?_
        refine j_st (st2 := [.int (mSells m x p i 27 (10 * i + x)), .int (nI (10 * i + x)), .ref (q 27)]) rfl ?_
        refine j_aload_n C 0 dX10_sells_47 rfl rfl ?_
        refine mg_gets C hin (by decide +kernel) dX10_sells_48 ?_
        refine j_iload C 4 dX10_sells_51 rfl ?_
        refine ml_gets C i rfl (by omega) dX10_sells_53 ?_
        refine j_st (st2 := [.int (mSells m x p i 36 i), .int (mSells m x p i 27 (10 * i + x)), .int (nI (10 * i + x)), .ref (q 27)]) rfl ?_
        refine j_isub C dX10_sells_54 ?_
        refine ms_asked C (10 * i + x) rfl (by omega) dX10_sells_55 ?_
        refine j_aload_n C 0 dX10_sells_56 rfl rfl ?_
        refine mg_points C hin (by decide +kernel) dX10_sells_57 ?_
        refine j_iload C 4 dX10_sells_60 rfl ?_
        refine j_dup2 C dX10_sells_62 rfl rfl ?_
        refine ml_points C i rfl (by omega) dX10_sells_63 ?_
        refine j_st (st2 := [.int (mSells m x p i 22 i), .int (nI i), .ref (q 22)]) rfl ?_
        refine j_aload_n C 0 dX10_sells_64 rfl rfl ?_
        refine mg_gets C hin (by decide +kernel) dX10_sells_65 ?_
        refine j_iload C 4 dX10_sells_68 rfl ?_
        refine ml_gets C i rfl (by omega) dX10_sells_70 ?_
        refine j_st (st2 := [.int (mSells m x p i 36 i), .int (mSells m x p i 22 i), .int (nI i), .ref (q 22)]) rfl ?_
        refine j_iload_n C 2 dX10_sells_71 rfl rfl ?_
        refine j_imul C dX10_sells_72 ?_
        refine j_isub C dX10_sells_73 ?_
        refine ms_points C i rfl (by omega) dX10_sells_74 ?_
        refine j_iload_n C 3 dX10_sells_75 rfl rfl ?_
        refine j_aload_n C 0 dX10_sells_76 rfl rfl ?_
        refine mg_gets C hin (by decide +kernel) dX10_sells_77 ?_
        refine j_iload C 4 dX10_sells_80 rfl ?_
        refine ml_gets C i rfl (by omega) dX10_sells_82 ?_
        refine j_st (st2 := [.int (mSells m x p i 36 i), .int (mSold m x p i)]) rfl ?_
        refine j_iadd C dX10_sells_83 ?_
        refine j_istore_n C [(0, .ref o), (1, .int (nI x)), (2, .int p), (3, .int ((mSold m x p i) + (mSells m x p i 36 i))), (4, .int (nI i))] [1, 2, 3, 0, 4] dX10_sells_84 rfl (by decide) rfl ?_
        refine j_iinc C (nI (i + 1)) [(0, .ref o), (1, .int (nI x)), (2, .int p), (3, .int ((mSold m x p i) + (mSells m x p i 36 i))), (4, .int (nI (i + 1)))] 4 [1, 2, 3, 4, 0] dX10_sells_85 rfl (nI_1 i) (by decide) rfl ?_
        refine j_goto C 5 dX10_sells_88 (by decide) ?_
        exact ih (i + 1) (by omega) (by omega)
  refine j_iconst C 0 dX10_sells_0 (by decide) ?_
  refine j_istore_n C [(0, .ref o), (1, .int (nI x)), (2, .int p), (3, .int 0)] [1, 2, 3, 0] dX10_sells_1 rfl (by decide) rfl ?_
  refine j_iconst C 0 dX10_sells_2 (by decide) ?_
  refine j_istore C [(0, .ref o), (1, .int (nI x)), (2, .int p), (3, .int 0), (4, .int 0)] [1, 2, 3, 4, 0] dX10_sells_3 (by decide) rfl ?_
  exact loop _ 0 (Nat.zero_le _) (Nat.lt_succ_self _)

/-- Euclid: k steps at most -/
def lgcd : Nat → Int64 → Int64 → Int64
  | 0, x, _ => x
  | k + 1, x, y => if y = 0 then x else lgcd k y (x - x / y * y)
def lgcdE : Nat → Int64 → Int64 → Prop
  | 0, _, y => y = 0
  | k + 1, x, y => y = 0 ∨ lgcdE k y (x - x / y * y)
theorem lcmp0 {x : Int64} : lg_cmp x 0 = 0 ↔ x = 0 := by
  unfold lg_cmp
  constructor
  · intro h
    by_cases h1 : x = 0
    · exact h1
    · exfalso
      simp only [h1, if_false] at h
      split at h <;> first | exact absurd h (by decide) | (split at h <;> first | exact absurd h (by decide) | exact h1 (by assumption))
  · rintro rfl
    decide

-- common
set_option maxHeartbeats 4000000 in
set_option maxRecDepth 100000 in
theorem cm_common (l : Launch) (d : jD) (ws : va_W) (a b : Int64) (k : Nat) (hk : lgcdE k a b) : jMl noE d l yX10_common wsX10_common ({ frames := 0, cells := 0, slots := 0, locals := 0 } : Room) 0 0 [.long a, .long b] ws (fun r u => r = lgcd k a b ∧ u = ws) := by
  refine jMl.mk noE_k (by decide) rfl (Nat.le_of_ble_eq_true rfl) (fun X A C hQ => ?_)
  refine j_lvq (lv2 := [(0, .long a), (2, .long b)]) rfl ?_
  have loop : ∀ n j : Nat, j < n → ∀ x y : Int64, lgcdE j x y → lgcd j x y = lgcd k a b → jJ X l d A 10 0 0 ws [(0, .long a), (2, .long b), (4, .long x), (6, .long y)] 6 [] := by
    intro n
    induction n with
    | zero => intro j h; exact absurd h (Nat.not_lt_zero _)
    | succ n ih =>
      intro j hn x y hj hz
      refine j_lload C 3 dX10_common_6 rfl ?_
      refine j_lconst C 0 dX10_common_8 (by decide) ?_
      refine j_lcmp C dX10_common_9 ?_
      refine j_if_eq C 31 dX10_common_10 (by decide) (fun c10 => ?_) (fun c10 => ?_)
      · refine j_lload C 2 dX10_common_31 rfl ?_
        exact j_lret C hQ dX10_common_33 (⟨by rw [← hz]; cases j <;> simp [lgcd, lcmp0.mp c10], rfl⟩)
      · obtain ⟨j, rfl⟩ : ∃ j2, j = j2 + 1 := by
          cases j with
          | zero => exact absurd (lcmp0.mpr hj) c10
          | succ j => exact ⟨j, rfl⟩
        have hy : ¬ y = 0 := fun h => c10 (lcmp0.mpr h)
        refine j_lload C 2 dX10_common_13 rfl ?_
        refine j_lload C 3 dX10_common_15 rfl ?_
        refine j_lrem C dX10_common_17 (fun h => c10 (lcmp0.mpr h)) ?_
        refine j_lstore C [(0, .long a), (2, .long b), (4, .long x), (6, .long y), (8, .long (x - x / y * y))] [1, 2, 3, 4, 0] dX10_common_18 (by decide) rfl ?_
        refine j_lload C 3 dX10_common_20 rfl ?_
        refine j_lstore C [(0, .long a), (2, .long b), (4, .long y), (6, .long y), (8, .long (x - x / y * y))] [1, 2, 0, 3, 4] dX10_common_22 (by decide) rfl ?_
        refine j_lload C 4 dX10_common_24 rfl ?_
        refine j_lstore C [(0, .long a), (2, .long b), (4, .long y), (6, .long (x - x / y * y)), (8, .long (x - x / y * y))] [1, 2, 3, 0, 4] dX10_common_26 (by decide) rfl ?_
        refine j_goto C 6 dX10_common_28 (by decide) ?_
        refine j_lv (lv' := [(0, .long a), (2, .long b), (4, .long y), (6, .long (x - x / y * y))]) [0, 1, 2, 3] rfl ?_
        exact ih j (by omega) y _ (hj.resolve_left hy) (by rw [← hz]; simp only [lgcd, if_neg hy])
  refine j_lload_n C 0 dX10_common_0 rfl rfl ?_
  refine j_lstore C [(0, .long a), (2, .long b), (4, .long a)] [1, 2, 0] dX10_common_1 (by decide) rfl ?_
  refine j_lload_n C 1 dX10_common_3 rfl rfl ?_
  refine j_lstore C [(0, .long a), (2, .long b), (4, .long a), (6, .long b)] [1, 2, 3, 0] dX10_common_4 (by decide) rfl ?_
  exact loop (k + 1) k (Nat.lt_succ_self _) a b hk rfl


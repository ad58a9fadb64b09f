/-! which rows a sale leaves alone -/
theorem mP1_r (m : Nat → Nat → Int32) {a : Nat} (ha : a ≠ 36) : ∀ k, mP1 m k a = m a
  | 0 => rfl
  | k + 1 => by rw [mP1, mu_r _ _ ha, mP1_r m ha k]
theorem mP2_r (m : Nat → Nat → Int32) (n al : Int32) {a : Nat} (ha : a ≠ 36) : ∀ k, mP2 m n al k a = m a
  | 0 => rfl
  | k + 1 => by rw [mP2, mu_r _ _ ha, mP2_r m n al ha k]
theorem gSt_r (m : Nat → Nat → Int32) (n al : Int32) {a : Nat} (ha : a ≠ 36) : ∀ t, gSt m n al t a = m a
  | 0 => mP2_r m n al ha 28
  | t + 1 => by rw [gSt, mu_r _ _ ha, gSt_r m n al ha t]
theorem sPart_r (m : Nat → Nat → Int32) (n : Int32) (R : Nat) {a : Nat} (ha : a ≠ 36) : sPart m n R a = m a := by
  unfold sPart
  split
  · exact mP1_r m ha 28
  · rw [gSt_r _ _ _ ha, mP1_r m ha 28]
theorem mSells_r (m : Nat → Nat → Int32) (x : Nat) (p : Int32) {a : Nat} (h1 : a ≠ 28) (h2 : a ≠ 27) (h3 : a ≠ 22) : ∀ k, mSells m x p k a = m a
  | 0 => rfl
  | k + 1 => by rw [mSells, mu_r _ _ h3, mu_r _ _ h2, mu_r _ _ h1, mSells_r m x p h1 h2 h3 k]
theorem sSells_r (m : Nat → Nat → Int32) (x : Nat) (p : Int32) {a : Nat} (h0 : a ≠ 18) (h1 : a ≠ 28) (h2 : a ≠ 27) (h3 : a ≠ 22) : sSells m x p a = m a := by
  rw [sSells, mu_r _ _ h0, mSells_r m x p h1 h2 h3]
theorem sWk_r (m : Nat → Nat → Int32) (x nP R1 : Nat) {a : Nat} (h0 : a ≠ 18) (h1 : a ≠ 28) (h2 : a ≠ 27) (h3 : a ≠ 22) (h4 : a ≠ 35) (h5 : a ≠ 36) : sWk m x nP R1 a = m a := by
  rw [sWk, sSells_r _ _ _ h0 h1 h2 h3, partW, sPart_r _ _ _ h5, mWk_r _ _ _ h4]
theorem sAll_r (m : Nat → Nat → Int32) (x R2 : Nat) {a : Nat} (h0 : a ≠ 18) (h1 : a ≠ 28) (h2 : a ≠ 27) (h3 : a ≠ 22) (h4 : a ≠ 35) (h5 : a ≠ 36) : sAll m x R2 a = m a := by
  unfold sAll
  split
  · rw [sSells_r _ _ _ h0 h1 h2 h3, partA, sPart_r _ _ _ h5, mWl_r _ _ h4]
  · rw [partA, sPart_r _ _ _ h5, mWl_r _ _ h4]
theorem sSW1_r (m : Nat → Nat → Int32) (x nP R1 R2 : Nat) (s0 : Int32) {a : Nat} (h0 : a ≠ 18) (h1 : a ≠ 28) (h2 : a ≠ 27) (h3 : a ≠ 22) (h4 : a ≠ 35) (h5 : a ≠ 36) (h6 : a ≠ 19) : (sSW1 m x nP R1 R2 s0).2 a = m a := by
  unfold sSW1
  split
  · rfl
  · show sAllP m x R2 a = m a
    rw [sAllP, mu_r _ _ h6, sAll_r m x R2 h0 h1 h2 h3 h4 h5]
theorem sSW_r (m : Nat → Nat → Int32) (x nP R1 R2 : Nat) {a : Nat} (h0 : a ≠ 18) (h1 : a ≠ 28) (h2 : a ≠ 27) (h3 : a ≠ 22) (h4 : a ≠ 35) (h5 : a ≠ 36) (h6 : a ≠ 19) : (sSW m x nP R1 R2).2 a = m a := by
  unfold sSW
  split
  · rw [sSW1_r _ _ _ _ _ _ h0 h1 h2 h3 h4 h5 h6, sWk_r _ _ _ _ h0 h1 h2 h3 h4 h5]
  · rw [sSW1_r _ _ _ _ _ _ h0 h1 h2 h3 h4 h5 h6]
/-! close in the reference -/
def mC1 (m : Nat → Nat → Int32) (rd : Nat) : Nat → Nat → Nat → Int32
  | 0 => m
  | k + 1 => mu (mC1 m rd k) 29 (280 * rd + k) (mC1 m rd k 28 k)
theorem mC1_r (m : Nat → Nat → Int32) (rd : Nat) {a : Nat} (ha : a ≠ 29) : ∀ k, mC1 m rd k a = m a
  | 0 => rfl
  | k + 1 => by rw [mC1, mu_r _ _ ha, mC1_r m rd ha k]
def mC2 (m : Nat → Nat → Int32) (nP : Nat) (R1 R2 : Nat → Nat) : Nat → Nat → Nat → Int32
  | 0 => m
  | k + 1 => if 0 < mC2 m nP R1 R2 k 18 k then (sSW (mC2 m nP R1 R2 k) k nP (R1 k) (R2 k)).2 else mC2 m nP R1 R2 k
def vC2 (m : Nat → Nat → Int32) (nP : Nat) (R1 R2 : Nat → Nat) : Nat → Int32
  | 0 => 0
  | k + 1 => if 0 < mC2 m nP R1 R2 k 18 k then vC2 m nP R1 R2 k + (sSW (mC2 m nP R1 R2 k) k nP (R1 k) (R2 k)).1 else vC2 m nP R1 R2 k
theorem mC2_r (m : Nat → Nat → Int32) (nP : Nat) (R1 R2 : Nat → Nat) {a : Nat} (h0 : a ≠ 18) (h1 : a ≠ 28) (h2 : a ≠ 27) (h3 : a ≠ 22) (h4 : a ≠ 35) (h5 : a ≠ 36) (h6 : a ≠ 19) : ∀ k, mC2 m nP R1 R2 k a = m a
  | 0 => rfl
  | k + 1 => by
    rw [mC2]
    split
    · rw [sSW_r _ _ _ _ _ h0 h1 h2 h3 h4 h5 h6, mC2_r m nP R1 R2 h0 h1 h2 h3 h4 h5 h6 k]
    · exact mC2_r m nP R1 R2 h0 h1 h2 h3 h4 h5 h6 k
def mC3 (m : Nat → Nat → Int32) : Nat → Nat → Nat → Int32
  | 0 => m
  | k + 1 => mu (mC3 m k) 27 k 0
theorem mC3_r (m : Nat → Nat → Int32) {a : Nat} (ha : a ≠ 27) : ∀ k, mC3 m k a = m a
  | 0 => rfl
  | k + 1 => by rw [mC3, mu_r _ _ ha, mC3_r m ha k]
def mC4 (m : Nat → Nat → Int32) (rd : Nat) : Nat → Nat → Nat → Int32
  | 0 => m
  | k + 1 => mu (mC4 m rd k) 20 (50 * k + rd) (mC4 m rd k 19 k)
theorem mC4_r (m : Nat → Nat → Int32) (rd : Nat) {a : Nat} (ha : a ≠ 20) : ∀ k, mC4 m rd k a = m a
  | 0 => rfl
  | k + 1 => by rw [mC4, mu_r _ _ ha, mC4_r m rd ha k]
abbrev cl1 (m : Nat → Nat → Int32) (rd : Nat) : Nat → Nat → Int32 := mC1 (mu m 0 0 0) rd 280
abbrev cl2 (m : Nat → Nat → Int32) (nW nP rd : Nat) (R1 R2 : Nat → Nat) : Nat → Nat → Int32 := mC2 (cl1 m rd) nP R1 R2 nW
abbrev cl3 (m : Nat → Nat → Int32) (nW nP rd : Nat) (R1 R2 : Nat → Nat) : Nat → Nat → Int32 := mu (mC3 (cl2 m nW nP rd R1 R2) 280) 33 0 (nI (rd + 1))
abbrev cl4 (m : Nat → Nat → Int32) (nW nP rd : Nat) (R1 R2 : Nat → Nat) : Nat → Nat → Int32 := mC4 (cl3 m nW nP rd R1 R2) (rd + 1) nW
def sClose (m : Nat → Nat → Int32) (nW nP rd : Nat) (R1 R2 : Nat → Nat) : Int32 × (Nat → Nat → Int32) := if rd = 49 then (-1, mu m 0 0 0) else
  (vC2 (cl1 m rd) nP R1 R2 nW, mu (cl4 m nW nP rd R1 R2) 34 0 (cl4 m nW nP rd R1 R2 34 0 + vC2 (cl1 m rd) nP R1 R2 nW))
def okClose (m : Nat → Nat → Int32) (nW nP rd : Nat) (R1 R2 : Nat → Nat) : Prop := ∀ k, k < nW → 0 < mC2 (cl1 m rd) nP R1 R2 k 18 k → okSW (mC2 (cl1 m rd) nP R1 R2 k) k nP (R1 k) (R2 k)

set_option maxHeartbeats 4000000 in
set_option maxRecDepth 100000 in
theorem cm_close (l : Launch) (d : jD) (o : Nat) (q : Nat → Nat) (m : Nat → Nat → Int32) (w : Int64) (nW nP nF rd tp : Nat) (hI : mI m nW nP nF rd tp) (R1 R2 : Nat → Nat) (hok : ¬ rd = 49 → okClose m nW nP rd R1 R2) : jMi noE d l yX10_close wsX10_close ({ frames := 2, cells := 0, slots := 0, locals := 53 } : Room) 0 0 [.ref o] (mW o q d m w) (fun r u => r = (sClose m nW nP rd R1 R2).1 ∧ u = mW o q d (sClose m nW nP rd R1 R2).2 w) := by
  obtain ⟨hW, hnW, hPp, hnP, hF, hnF, hR, hrd, hT, htp⟩ := hI
  refine jMi.mk noE_k (by decide) rfl (Nat.le_of_ble_eq_true rfl) (fun X A C hQ => ?_)
  have hin : ∀ w ∈ u_ws RX10 TX10 37, w ∈ wsX10_close := fun w h => List.mem_cons_of_mem _ (List.mem_append_right _ h)
  refine j_lvq (lv2 := [(0, .ref o)]) rfl ?_
  refine j_aload_n C 0 dX10_close_0 rfl rfl ?_
  refine j_iconst C 0 dX10_close_1 (by decide) ?_
  refine mp_thrown C hin (by decide +kernel) dX10_close_2 ?_
  refine j_aload_n C 0 dX10_close_5 rfl rfl ?_
  refine mg_round C hin (by decide +kernel) dX10_close_6 ?_
  refine j_st (st2 := [.int (nI rd)]) (congrArg (fun z => Value.int z :: _) hR) ?_
  refine j_bipush C 49 dX10_close_9 (by decide) ?_
  refine j_icmp_ne C 16 dX10_close_11 (by decide) (fun c11 => ?_) (fun c11 => ?_)
  · have c11 : ¬ (rd = 49) := fun h => c11 ((nI_eq (a := rd) (b := 49) (by omega) (by omega)).mpr h)
    have loopD : ∀ fz i : Nat, i ≤ nW → nW - i < fz → jJ X l d A 3 0 0 (mW o q d (mC4 (cl3 m nW nP rd R1 R2) (rd + 1) i) w) [(0, .ref o), (1, .int (vC2 (cl1 m rd) nP R1 R2 nW)), (2, .int (nI i))] 121 [] := by
      intro fz
      induction fz with
      | zero => intro i _ h; exact absurd h (Nat.not_lt_zero _)
      | succ fz ih =>
        intro i hi hn
        refine j_iload_n C 2 dX10_close_121 rfl rfl ?_
        refine j_aload_n C 0 dX10_close_122 rfl rfl ?_
        refine mg_works C hin (by decide +kernel) dX10_close_123 ?_
        refine j_st (st2 := [.int (nI nW), .int (nI i)]) (congrArg (fun z => Value.int z :: _) (show mC4 (cl3 m nW nP rd R1 R2) (rd + 1) i 30 0 = nI nW by rw [mC4_r _ _ (by decide), cl3, mu_r _ _ (by decide), mC3_r _ (by decide), cl2, mC2_r _ _ _ _ (by decide) (by decide) (by decide) (by decide) (by decide) (by decide) (by decide), cl1, mC1_r _ _ (by decide)]; exact hW)) ?_
        refine j_icmp_ge C 155 dX10_close_126 (by decide) (fun c126 => ?_) (fun c126 => ?_)
        · have c126 := (nI_leI (a := nW) (b := i) (by omega) (by omega)).mp c126
          obtain rfl : nW = i := by omega
          refine j_aload_n C 0 dX10_close_155 rfl rfl ?_
          refine j_dup C dX10_close_156 rfl ?_
          refine mg_soldAll C hin (by decide +kernel) dX10_close_157 ?_
          refine j_iload_n C 1 dX10_close_160 rfl rfl ?_
          refine j_iadd C dX10_close_161 ?_
          refine mp_soldAll C hin (by decide +kernel) dX10_close_162 ?_
          refine j_iload_n C 1 dX10_close_165 rfl rfl ?_
          exact j_iret C hQ dX10_close_166 (⟨by rw [sClose, if_neg c11], by rw [sClose, if_neg c11]⟩)
        · have c126 : ¬ (nW ≤ i) := fun h => c126 ((nI_leI (a := nW) (b := i) (by omega) (by omega)).mpr h)
          refine j_aload_n C 0 dX10_close_129 rfl rfl ?_
          refine mg_prices C hin (by decide +kernel) dX10_close_130 ?_
          refine j_bipush C 50 dX10_close_133 (by decide) ?_
          refine j_iload_n C 2 dX10_close_135 rfl rfl ?_
          refine j_imulN C 50 i dX10_close_136 ?_
          refine j_aload_n C 0 dX10_close_137 rfl rfl ?_
          refine mg_round C hin (by decide +kernel) dX10_close_138 ?_
          refine j_st (st2 := [.int (nI (rd + 1)), .int (nI (50 * i)), .ref (q 20)]) (congrArg (fun z => Value.int z :: _) (show mC4 (cl3 m nW nP rd R1 R2) (rd + 1) i 33 0 = nI (rd + 1) by rw [mC4_r _ _ (by decide), cl3, mu_s])) ?_
          refine j_iaddN C (50 * i) (rd + 1) dX10_close_141 ?_
          refine j_aload_n C 0 dX10_close_142 rfl rfl ?_
          refine mg_price C hin (by decide +kernel) dX10_close_143 ?_
          refine j_iload_n C 2 dX10_close_146 rfl rfl ?_
          refine ml_price C i rfl (by omega) dX10_close_147 ?_
          refine ms_prices C (50 * i + (rd + 1)) rfl (by omega) dX10_close_148 ?_
          refine j_iinc C (nI (i + 1)) [(0, .ref o), (1, .int (vC2 (cl1 m rd) nP R1 R2 nW)), (2, .int (nI (i + 1)))] 2 [1, 2, 0] dX10_close_149 rfl (nI_1 i) (by decide) rfl ?_
          refine j_goto C 121 dX10_close_152 (by decide) ?_
          exact ih (i + 1) (by omega) (by omega)
    have loopC : ∀ fz i : Nat, i ≤ 280 → 280 - i < fz → jJ X l d A 3 0 0 (mW o q d (mC3 (cl2 m nW nP rd R1 R2) i) w) [(0, .ref o), (1, .int (vC2 (cl1 m rd) nP R1 R2 nW)), (2, .int (nI i))] 89 [] := by
      intro fz
      induction fz with
      | zero => intro i _ h; exact absurd h (Nat.not_lt_zero _)
      | succ fz ih =>
        intro i hi hn
        refine j_iload_n C 2 dX10_close_89 rfl rfl ?_
        refine j_sipush C 280 dX10_close_90 (by decide) ?_
        refine j_icmp_ge C 109 dX10_close_93 (by decide) (fun c93 => ?_) (fun c93 => ?_)
        · have c93 := (nI_leI (a := 280) (b := i) (by omega) (by omega)).mp c93
          obtain rfl : i = 280 := by omega
          refine j_aload_n C 0 dX10_close_109 rfl rfl ?_
          refine j_dup C dX10_close_110 rfl ?_
          refine mg_round C hin (by decide +kernel) dX10_close_111 ?_
          refine j_st (st2 := [.int (nI rd), .ref o]) (congrArg (fun z => Value.int z :: _) (show mC3 (cl2 m nW nP rd R1 R2) 280 33 0 = nI rd by rw [mC3_r _ (by decide), cl2, mC2_r _ _ _ _ (by decide) (by decide) (by decide) (by decide) (by decide) (by decide) (by decide), cl1, mC1_r _ _ (by decide)]; exact hR)) ?_
          refine j_iconst C 1 dX10_close_114 (by decide) ?_
          refine j_iaddN C rd 1 dX10_close_115 ?_
          refine mp_round C hin (by decide +kernel) dX10_close_116 ?_
          refine j_iconst C 0 dX10_close_119 (by decide) ?_
          refine j_istore_n C [(0, .ref o), (1, .int (vC2 (cl1 m rd) nP R1 R2 nW)), (2, .int 0)] [1, 2, 0] dX10_close_120 rfl (by decide) rfl ?_
          exact loopD _ 0 (Nat.zero_le _) (Nat.lt_succ_self _)
        · have c93 : ¬ (280 ≤ i) := fun h => c93 ((nI_leI (a := 280) (b := i) (by omega) (by omega)).mpr h)
          refine j_aload_n C 0 dX10_close_96 rfl rfl ?_
          refine mg_asked C hin (by decide +kernel) dX10_close_97 ?_
          refine j_iload_n C 2 dX10_close_100 rfl rfl ?_
          refine j_iconst C 0 dX10_close_101 (by decide) ?_
          refine ms_asked C i rfl (by omega) dX10_close_102 ?_
          refine j_iinc C (nI (i + 1)) [(0, .ref o), (1, .int (vC2 (cl1 m rd) nP R1 R2 nW)), (2, .int (nI (i + 1)))] 2 [1, 2, 0] dX10_close_103 rfl (nI_1 i) (by decide) rfl ?_
          refine j_goto C 89 dX10_close_106 (by decide) ?_
          exact ih (i + 1) (by omega) (by omega)
    have loopB : ∀ fz i : Nat, i ≤ nW → nW - i < fz → jJ X l d A 3 0 0 (mW o q d (mC2 (cl1 m rd) nP R1 R2 i) w) [(0, .ref o), (1, .int (vC2 (cl1 m rd) nP R1 R2 i)), (2, .int (nI i))] 56 [] := by
      intro fz
      induction fz with
      | zero => intro i _ h; exact absurd h (Nat.not_lt_zero _)
      | succ fz ih =>
        intro i hi hn
        refine j_iload_n C 2 dX10_close_56 rfl rfl ?_
        refine j_aload_n C 0 dX10_close_57 rfl rfl ?_
        refine mg_works C hin (by decide +kernel) dX10_close_58 ?_
        refine j_st (st2 := [.int (nI nW), .int (nI i)]) (congrArg (fun z => Value.int z :: _) (show mC2 (cl1 m rd) nP R1 R2 i 30 0 = nI nW by rw [mC2_r _ _ _ _ (by decide) (by decide) (by decide) (by decide) (by decide) (by decide) (by decide), cl1, mC1_r _ _ (by decide)]; exact hW)) ?_
        refine j_icmp_ge C 87 dX10_close_61 (by decide) (fun c61 => ?_) (fun c61 => ?_)
        · have c61 := (nI_leI (a := nW) (b := i) (by omega) (by omega)).mp c61
          obtain rfl : nW = i := by omega
          refine j_iconst C 0 dX10_close_87 (by decide) ?_
          refine j_istore_n C [(0, .ref o), (1, .int (vC2 (cl1 m rd) nP R1 R2 nW)), (2, .int 0)] [1, 2, 0] dX10_close_88 rfl (by decide) rfl ?_
          exact loopC _ 0 (Nat.zero_le _) (Nat.lt_succ_self _)
        · have c61 : ¬ (nW ≤ i) := fun h => c61 ((nI_leI (a := nW) (b := i) (by omega) (by omega)).mpr h)
          have c61 : i < nW := by omega
          refine j_aload_n C 0 dX10_close_64 rfl rfl ?_
          refine mg_left C hin (by decide +kernel) dX10_close_65 ?_
          refine j_iload_n C 2 dX10_close_68 rfl rfl ?_
          refine ml_left C i rfl (by omega) dX10_close_69 ?_
          refine j_if_le C 81 dX10_close_70 (by decide) (fun c70 => ?_) (fun c70 => ?_)
          · refine j_iinc C (nI (i + 1)) [(0, .ref o), (1, .int (vC2 (cl1 m rd) nP R1 R2 i)), (2, .int (nI (i + 1)))] 2 [1, 2, 0] dX10_close_81 rfl (nI_1 i) (by decide) rfl ?_
            refine j_goto C 56 dX10_close_84 (by decide) ?_
            refine j_ws (ws2 := mW o q d (mC2 (cl1 m rd) nP R1 R2 (i + 1)) w) (by rw [mC2, if_neg (i_nlt.mpr c70)]) ?_
            refine j_lvq (lv2 := [(0, .ref o), (1, .int (vC2 (cl1 m rd) nP R1 R2 (i + 1))), (2, .int (nI (i + 1)))]) (by rw [show vC2 (cl1 m rd) nP R1 R2 (i + 1) = vC2 (cl1 m rd) nP R1 R2 i by rw [vC2, if_neg (i_nlt.mpr c70)]]) ?_
            exact ih (i + 1) (by omega) (by omega)
          · have c70 := i_nle.mp c70
            refine j_iload_n C 1 dX10_close_73 rfl rfl ?_
            refine j_aload_n C 0 dX10_close_74 rfl rfl ?_
            refine j_iload_n C 2 dX10_close_75 rfl rfl ?_
            refine j_callV_i C 1 0 (cm_sellsWork l d o q (mC2 (cl1 m rd) nP R1 R2 i) w i nP (R1 i) (R2 i) (by omega) (by rw [mC2_r _ _ _ _ (by decide) (by decide) (by decide) (by decide) (by decide) (by decide) (by decide), cl1, mC1_r _ _ (by decide)]; exact hPp) hnP (hok c11 i c61 c70)) rfl rfl gX10_close_X10_sellsWork rfl rfl rfl (by decide +kernel) ⟨(Nat.le_of_ble_eq_true rfl), (Nat.le_of_ble_eq_true rfl)⟩ ⟨(Nat.le_of_ble_eq_true rfl), (Nat.le_of_ble_eq_true rfl)⟩ rfl rfl (Nat.le_of_ble_eq_true rfl) dX10_close_76 (fun r76 u76 h76 => ?_)
            obtain ⟨rfl, rfl⟩ := h76
            refine j_iadd C dX10_close_79 ?_
            refine j_istore_n C [(0, .ref o), (1, .int ((vC2 (cl1 m rd) nP R1 R2 i) + ((sSW (mC2 (cl1 m rd) nP R1 R2 i) i nP (R1 i) (R2 i)).1))), (2, .int (nI i))] [1, 0, 2] dX10_close_80 rfl (by decide) rfl ?_
            refine j_iinc C (nI (i + 1)) [(0, .ref o), (1, .int ((vC2 (cl1 m rd) nP R1 R2 i) + ((sSW (mC2 (cl1 m rd) nP R1 R2 i) i nP (R1 i) (R2 i)).1))), (2, .int (nI (i + 1)))] 2 [1, 2, 0] dX10_close_81 rfl (nI_1 i) (by decide) rfl ?_
            refine j_goto C 56 dX10_close_84 (by decide) ?_
            refine j_ws (ws2 := mW o q d (mC2 (cl1 m rd) nP R1 R2 (i + 1)) w) (by rw [mC2, if_pos c70]) ?_
            refine j_lvq (lv2 := [(0, .ref o), (1, .int (vC2 (cl1 m rd) nP R1 R2 (i + 1))), (2, .int (nI (i + 1)))]) (by rw [show vC2 (cl1 m rd) nP R1 R2 (i + 1) = (vC2 (cl1 m rd) nP R1 R2 i) + ((sSW (mC2 (cl1 m rd) nP R1 R2 i) i nP (R1 i) (R2 i)).1) by rw [vC2, if_pos c70]]) ?_
            exact ih (i + 1) (by omega) (by omega)
    have loopA : ∀ fz i : Nat, i ≤ 280 → 280 - i < fz → jJ X l d A 3 0 0 (mW o q d (mC1 (mu m 0 0 0) rd i) w) [(0, .ref o), (1, .int (nI i))] 18 [] := by
      intro fz
      induction fz with
      | zero => intro i _ h; exact absurd h (Nat.not_lt_zero _)
      | succ fz ih =>
        intro i hi hn
        refine j_iload_n C 1 dX10_close_18 rfl rfl ?_
        refine j_sipush C 280 dX10_close_19 (by decide) ?_
        refine j_icmp_ge C 52 dX10_close_22 (by decide) (fun c22 => ?_) (fun c22 => ?_)
        · have c22 := (nI_leI (a := 280) (b := i) (by omega) (by omega)).mp c22
          obtain rfl : i = 280 := by omega
          refine j_iconst C 0 dX10_close_52 (by decide) ?_
          refine j_istore_n C [(0, .ref o), (1, .int 0)] [1, 0] dX10_close_53 rfl (by decide) rfl ?_
          refine j_iconst C 0 dX10_close_54 (by decide) ?_
          refine j_istore_n C [(0, .ref o), (1, .int 0), (2, .int 0)] [1, 2, 0] dX10_close_55 rfl (by decide) rfl ?_
          exact loopB _ 0 (Nat.zero_le _) (Nat.lt_succ_self _)
        · have c22 : ¬ (280 ≤ i) := fun h => c22 ((nI_leI (a := 280) (b := i) (by omega) (by omega)).mpr h)
          refine j_aload_n C 0 dX10_close_25 rfl rfl ?_
          refine mg_was C hin (by decide +kernel) dX10_close_26 ?_
          refine j_sipush C 280 dX10_close_29 (by decide) ?_
          refine j_aload_n C 0 dX10_close_32 rfl rfl ?_
          refine mg_round C hin (by decide +kernel) dX10_close_33 ?_
          refine j_st (st2 := [.int (nI rd), .int 280, .ref (q 29)]) (congrArg (fun z => Value.int z :: _) (show mC1 (mu m 0 0 0) rd i 33 0 = nI rd by rw [mC1_r _ _ (by decide)]; exact hR)) ?_
          refine j_imulN C 280 rd dX10_close_36 ?_
          refine j_iload_n C 1 dX10_close_37 rfl rfl ?_
          refine j_iaddN C (280 * rd) i dX10_close_38 ?_
          refine j_aload_n C 0 dX10_close_39 rfl rfl ?_
          refine mg_held C hin (by decide +kernel) dX10_close_40 ?_
          refine j_iload_n C 1 dX10_close_43 rfl rfl ?_
          refine ml_held C i rfl (by omega) dX10_close_44 ?_
          refine ms_was C (280 * rd + i) rfl (by omega) dX10_close_45 ?_
          refine j_iinc C (nI (i + 1)) [(0, .ref o), (1, .int (nI (i + 1)))] 1 [1, 0] dX10_close_46 rfl (nI_1 i) (by decide) rfl ?_
          refine j_goto C 18 dX10_close_49 (by decide) ?_
          exact ih (i + 1) (by omega) (by omega)
    refine j_iconst C 0 dX10_close_16 (by decide) ?_
    refine j_istore_n C [(0, .ref o), (1, .int 0)] [1, 0] dX10_close_17 rfl (by decide) rfl ?_
    exact loopA _ 0 (Nat.zero_le _) (Nat.lt_succ_self _)
  · have c11 := (nI_eq (a := rd) (b := 49) (by omega) (by omega)).mp c11
    refine j_iconst C (-1) dX10_close_14 (by decide) ?_
    exact j_iret C hQ dX10_close_15 (⟨by rw [sClose, if_pos c11], by rw [sClose, if_pos c11]⟩)

/-! OWNED in the reference -/
abbrev oPt (m : Nat → Nat → Int32) (p x r f : Nat) : Int64 := (mHeldAt m (24 + f) x r).toInt64 * (m 26 (4 * p + f)).toInt64
abbrev oBy (m : Nat → Nat → Int32) (p x r f : Nat) : Int64 := lgcd 100 (oPt m p x r f) (m 25 f).toInt64
abbrev oOv (m : Nat → Nat → Int32) (p x r f : Nat) : Int64 := (m 25 f).toInt64 / oBy m p x r f
def oS (m : Nat → Nat → Int32) (p x r : Nat) : Nat → Int64 × Int64
  | 0 => ((mHeldAt m p x r).toInt64, 1)
  | f + 1 => if oPt m p x r f = 0 then oS m p x r f else
    ((oS m p x r f).1 * (oOv m p x r f / lgcd 100 (oOv m p x r f) (oS m p x r f).2) + oPt m p x r f / oBy m p x r f * ((oS m p x r f).2 / lgcd 100 (oOv m p x r f) (oS m p x r f).2), (oS m p x r f).2 * (oOv m p x r f / lgcd 100 (oOv m p x r f) (oS m p x r f).2))
abbrev oLo (m : Nat → Nat → Int32) (p x r nF : Nat) : Int64 := (oS m p x r nF).2 * (m 17 x).toInt64
def oVal (m : Nat → Nat → Int32) (p x r nF : Nat) (y : Int32) : Int64 := (if y = 0 then (oS m p x r nF).1 else oLo m p x r nF) / lgcd 100 (oS m p x r nF).1 (oLo m p x r nF)
def okO (m : Nat → Nat → Int32) (p x r nF : Nat) : Prop := (∀ f, f < nF → ¬ oPt m p x r f = 0 → lgcdE 100 (oPt m p x r f) (m 25 f).toInt64 ∧ ¬ oBy m p x r f = 0 ∧ lgcdE 100 (oOv m p x r f) (oS m p x r f).2 ∧ ¬ lgcd 100 (oOv m p x r f) (oS m p x r f).2 = 0) ∧ lgcdE 100 (oS m p x r nF).1 (oLo m p x r nF) ∧ ¬ lgcd 100 (oS m p x r nF).1 (oLo m p x r nF) = 0
abbrev okOwn (m : Nat → Nat → Int32) (b x r y : Int32) : Prop := isP m b ∧ isW m x ∧ isR m r ∧ 0 ≤ y ∧ y ≤ 1
def sOwned (m : Nat → Nat → Int32) (b x r y : Int32) (nF : Nat) : Int64 × (Nat → Nat → Int32) := if okOwn m b x r y then (oVal m (tn b) (tn x) (tn r) nF y, mu m 0 0 0) else (0, mu m 0 0 1)
theorem mHeldAt_eq {m m2 : Nat → Nat → Int32} (b x r : Nat) (h1 : m2 33 = m 33) (h2 : m2 28 = m 28) (h3 : m2 29 = m 29) : mHeldAt m2 b x r = mHeldAt m b x r := by unfold mHeldAt; rw [h1, h2, h3]
theorem mHA0 (m : Nat → Nat → Int32) (b x r : Nat) : mHeldAt (mu m 0 0 0) b x r = mHeldAt m b x r := mHeldAt_eq b x r rfl rfl rfl

set_option maxHeartbeats 4000000 in
set_option maxRecDepth 100000 in
theorem cm_owned (l : Launch) (d : jD) (o : Nat) (q : Nat → Nat) (m : Nat → Nat → Int32) (w : Int64) (b x r y : Int32) (nW nP nF rd tp : Nat) (hI : mI m nW nP nF rd tp) (hok : okOwn m b x r y → okO m (tn b) (tn x) (tn r) nF) : jMl noE d l yX10_owned wsX10_owned ({ frames := 1, cells := 0, slots := 0, locals := 29 } : Room) 0 0 [.ref o, .int b, .int x, .int r, .int y] (mW o q d m w) (fun r1 u => r1 = (sOwned m b x r y nF).1 ∧ u = mW o q d (sOwned m b x r y nF).2 w) := by
  obtain ⟨hW, hnW, hPp, hnP, hF, hnF, hR, hrd, hT, htp⟩ := hI
  refine jMl.mk noE_k (by decide) rfl (Nat.le_of_ble_eq_true rfl) (fun X A C hQ => ?_)
  have hin : ∀ w ∈ u_ws RX10 TX10 37, w ∈ wsX10_owned := fun w h => List.mem_cons_of_mem _ (List.mem_append_right _ h)
  refine j_lvq (lv2 := [(0, .ref o), (1, .int b), (2, .int x), (3, .int r), (4, .int y)]) rfl ?_
  refine j_aload_n C 0 dX10_owned_0 rfl rfl ?_
  refine j_iload_n C 1 dX10_owned_1 rfl rfl ?_
  refine j_callV_i C 1 0 (cm_isPerson l d o q m w b) rfl rfl gX10_owned_X10_isPerson rfl rfl rfl (by decide +kernel) ⟨(Nat.le_of_ble_eq_true rfl), (Nat.le_of_ble_eq_true rfl)⟩ ⟨(Nat.le_of_ble_eq_true rfl), (Nat.le_of_ble_eq_true rfl)⟩ rfl rfl (Nat.le_of_ble_eq_true rfl) dX10_owned_2 (fun r2 u2 h2 => ?_)
  obtain ⟨rfl, rfl⟩ := h2
  refine j_if_eq C 35 dX10_owned_5 (by decide) (fun c5 => ?_) (fun c5 => ?_)
  · have c5 : ¬ isP m b := bI_0.mp c5
    refine j_aload_n C 0 dX10_owned_35 rfl rfl ?_
    refine j_callV_i C 0 0 (cm_refuse l d o q m w) rfl rfl gX10_owned_X10_refuse rfl rfl rfl (by decide +kernel) ⟨(Nat.le_of_ble_eq_true rfl), (Nat.le_of_ble_eq_true rfl)⟩ ⟨(Nat.le_of_ble_eq_true rfl), (Nat.le_of_ble_eq_true rfl)⟩ rfl rfl (Nat.le_of_ble_eq_true rfl) dX10_owned_36 (fun r36 u36 h36 => ?_)
    obtain ⟨rfl, rfl⟩ := h36
    refine j_i2l C dX10_owned_39 ?_
    exact j_lret C hQ dX10_owned_40 (⟨by rw [sOwned, if_neg (fun h => c5 h.1)]; rfl, by rw [sOwned, if_neg (fun h => c5 h.1)]⟩)
  · have c5 : isP m b := bI_n0.mp c5
    obtain ⟨jb, hjb, rfl⟩ := isP_nI hPp hnP c5
    refine j_aload_n C 0 dX10_owned_8 rfl rfl ?_
    refine j_iload_n C 2 dX10_owned_9 rfl rfl ?_
    refine j_callV_i C 1 0 (cm_isWork l d o q m w x) rfl rfl gX10_owned_X10_isWork rfl rfl rfl (by decide +kernel) ⟨(Nat.le_of_ble_eq_true rfl), (Nat.le_of_ble_eq_true rfl)⟩ ⟨(Nat.le_of_ble_eq_true rfl), (Nat.le_of_ble_eq_true rfl)⟩ rfl rfl (Nat.le_of_ble_eq_true rfl) dX10_owned_10 (fun r10 u10 h10 => ?_)
    obtain ⟨rfl, rfl⟩ := h10
    refine j_if_eq C 35 dX10_owned_13 (by decide) (fun c13 => ?_) (fun c13 => ?_)
    · have c13 : ¬ isW m x := bI_0.mp c13
      refine j_aload_n C 0 dX10_owned_35 rfl rfl ?_
      refine j_callV_i C 0 0 (cm_refuse l d o q m w) rfl rfl gX10_owned_X10_refuse rfl rfl rfl (by decide +kernel) ⟨(Nat.le_of_ble_eq_true rfl), (Nat.le_of_ble_eq_true rfl)⟩ ⟨(Nat.le_of_ble_eq_true rfl), (Nat.le_of_ble_eq_true rfl)⟩ rfl rfl (Nat.le_of_ble_eq_true rfl) dX10_owned_36 (fun r36 u36 h36 => ?_)
      obtain ⟨rfl, rfl⟩ := h36
      refine j_i2l C dX10_owned_39 ?_
      exact j_lret C hQ dX10_owned_40 (⟨by rw [sOwned, if_neg (fun h => c13 h.2.1)]; rfl, by rw [sOwned, if_neg (fun h => c13 h.2.1)]⟩)
    · have c13 : isW m x := bI_n0.mp c13
      obtain ⟨jx, hjx, rfl⟩ := isW_nI hW hnW c13
      refine j_aload_n C 0 dX10_owned_16 rfl rfl ?_
      refine j_iload_n C 3 dX10_owned_17 rfl rfl ?_
      refine j_callV_i C 1 0 (cm_isRound l d o q m w r) rfl rfl gX10_owned_X10_isRound rfl rfl rfl (by decide +kernel) ⟨(Nat.le_of_ble_eq_true rfl), (Nat.le_of_ble_eq_true rfl)⟩ ⟨(Nat.le_of_ble_eq_true rfl), (Nat.le_of_ble_eq_true rfl)⟩ rfl rfl (Nat.le_of_ble_eq_true rfl) dX10_owned_18 (fun r18 u18 h18 => ?_)
      obtain ⟨rfl, rfl⟩ := h18
      refine j_if_eq C 35 dX10_owned_21 (by decide) (fun c21 => ?_) (fun c21 => ?_)
      · have c21 : ¬ isR m r := bI_0.mp c21
        refine j_aload_n C 0 dX10_owned_35 rfl rfl ?_
        refine j_callV_i C 0 0 (cm_refuse l d o q m w) rfl rfl gX10_owned_X10_refuse rfl rfl rfl (by decide +kernel) ⟨(Nat.le_of_ble_eq_true rfl), (Nat.le_of_ble_eq_true rfl)⟩ ⟨(Nat.le_of_ble_eq_true rfl), (Nat.le_of_ble_eq_true rfl)⟩ rfl rfl (Nat.le_of_ble_eq_true rfl) dX10_owned_36 (fun r36 u36 h36 => ?_)
        obtain ⟨rfl, rfl⟩ := h36
        refine j_i2l C dX10_owned_39 ?_
        exact j_lret C hQ dX10_owned_40 (⟨by rw [sOwned, if_neg (fun h => c21 h.2.2.1)]; rfl, by rw [sOwned, if_neg (fun h => c21 h.2.2.1)]⟩)
      · have c21 : isR m r := bI_n0.mp c21
        obtain ⟨jr, hjr, rfl⟩ := isR_nI hR hrd c21
        refine j_iload C 4 dX10_owned_24 rfl ?_
        refine j_if_lt C 35 dX10_owned_26 (by decide) (fun c26 => ?_) (fun c26 => ?_)
        · refine j_aload_n C 0 dX10_owned_35 rfl rfl ?_
          refine j_callV_i C 0 0 (cm_refuse l d o q m w) rfl rfl gX10_owned_X10_refuse rfl rfl rfl (by decide +kernel) ⟨(Nat.le_of_ble_eq_true rfl), (Nat.le_of_ble_eq_true rfl)⟩ ⟨(Nat.le_of_ble_eq_true rfl), (Nat.le_of_ble_eq_true rfl)⟩ rfl rfl (Nat.le_of_ble_eq_true rfl) dX10_owned_36 (fun r36 u36 h36 => ?_)
          obtain ⟨rfl, rfl⟩ := h36
          refine j_i2l C dX10_owned_39 ?_
          exact j_lret C hQ dX10_owned_40 (⟨by rw [sOwned, if_neg (fun h => i_nlt.mpr h.2.2.2.1 c26)]; rfl, by rw [sOwned, if_neg (fun h => i_nlt.mpr h.2.2.2.1 c26)]⟩)
        · refine j_iload C 4 dX10_owned_29 rfl ?_
          refine j_iconst C 1 dX10_owned_31 (by decide) ?_
          refine j_icmp_le C 41 dX10_owned_32 (by decide) (fun c32 => ?_) (fun c32 => ?_)
          · have hv : okOwn m (nI jb) (nI jx) (nI jr) y := ⟨c5, c13, c21, i_nlt.mp c26, c32⟩
            have hok := hok hv
            simp only [tn_nI (show jb < 20000 by omega), tn_nI (show jx < 20000 by omega), tn_nI (show jr < 20000 by omega)] at hok
            have loop : ∀ fz i : Nat, i ≤ nF → nF - i < fz → jJ X l d A 18 0 0 (mW o q d (mu m 0 0 0) w) [(0, .ref o), (1, .int (nI jb)), (2, .int (nI jx)), (3, .int (nI jr)), (4, .int y), (5, .long ((oS m jb jx jr i).1)), (7, .long ((oS m jb jx jr i).2)), (9, .int (nI i))] 62 [] := by
              intro fz
              induction fz with
              | zero => intro i _ h; exact absurd h (Nat.not_lt_zero _)
              | succ fz ih =>
                intro i hi hn
                refine j_iload C 7 dX10_owned_62 rfl ?_
                refine j_aload_n C 0 dX10_owned_64 rfl rfl ?_
                refine mg_funds C hin (by decide +kernel) dX10_owned_65 ?_
                refine j_st (st2 := [.int (nI nF), .int (nI i)]) (congrArg (fun z => Value.int z :: _) hF) ?_
                refine j_icmp_ge C 183 dX10_owned_68 (by decide) (fun c68 => ?_) (fun c68 => ?_)
                · have c68 := (nI_leI (a := nF) (b := i) (by omega) (by omega)).mp c68
                  obtain rfl : nF = i := by omega
                  refine j_lload C 6 dX10_owned_183 rfl ?_
                  refine j_aload_n C 0 dX10_owned_185 rfl rfl ?_
                  refine mg_shares C hin (by decide +kernel) dX10_owned_186 ?_
                  refine j_iload_n C 2 dX10_owned_189 rfl rfl ?_
                  refine ml_shares C jx rfl (by omega) dX10_owned_190 ?_
                  refine j_st (st2 := [.int (m 17 jx), .long ((oS m jb jx jr nF).2)]) rfl ?_
                  refine j_i2l C dX10_owned_191 ?_
                  refine j_lmul C dX10_owned_192 ?_
                  refine j_lstore C [(0, .ref o), (1, .int (nI jb)), (2, .int (nI jx)), (3, .int (nI jr)), (4, .int y), (5, .long ((oS m jb jx jr nF).1)), (7, .long (((oS m jb jx jr nF).2) * ((m 17 jx).toInt64))), (9, .int (nI nF))] [1, 2, 3, 4, 5, 6, 0, 7] dX10_owned_193 (by decide) rfl ?_
                  refine j_lload C 5 dX10_owned_195 rfl ?_
                  refine j_lload C 6 dX10_owned_197 rfl ?_
                  refine j_callS_l C 2 (cm_common l d _ ((oS m jb jx jr nF).1) (oLo m jb jx jr nF) 100 hok.2.1) gX10_owned_X10_common rfl rfl rfl (by decide +kernel) ⟨(Nat.le_of_ble_eq_true rfl), (Nat.le_of_ble_eq_true rfl)⟩ ⟨(Nat.le_of_ble_eq_true rfl), (Nat.le_of_ble_eq_true rfl)⟩ rfl rfl (Nat.le_of_ble_eq_true rfl) dX10_owned_199 (fun r199 u199 h199 => ?_)
                  obtain ⟨rfl, rfl⟩ := h199
                  refine j_lstore C [(0, .ref o), (1, .int (nI jb)), (2, .int (nI jx)), (3, .int (nI jr)), (4, .int y), (5, .long ((oS m jb jx jr nF).1)), (7, .long (((oS m jb jx jr nF).2) * ((m 17 jx).toInt64))), (9, .long (lgcd 100 (oS m jb jx jr nF).1 (oLo m jb jx jr nF)))] [1, 2, 3, 4, 5, 6, 7, 0] dX10_owned_202 (by decide) rfl ?_
                  refine j_iload C 4 dX10_owned_204 rfl ?_
                  refine j_if_ne C 214 dX10_owned_206 (by decide) (fun c206 => ?_) (fun c206 => ?_)
                  · refine j_lload C 6 dX10_owned_214 rfl ?_
                    refine j_lload C 7 dX10_owned_216 rfl ?_
                    refine j_ldiv C dX10_owned_218 hok.2.2 ?_
                    exact j_lret C hQ dX10_owned_219 (⟨by rw [sOwned, if_pos hv, oVal]; simp only [tn_nI (show jb < 20000 by omega), tn_nI (show jx < 20000 by omega), tn_nI (show jr < 20000 by omega), if_neg c206], by rw [sOwned, if_pos hv]⟩)
                  · refine j_lload C 5 dX10_owned_209 rfl ?_
                    refine j_goto C 216 dX10_owned_211 (by decide) ?_
                    refine j_lload C 7 dX10_owned_216 rfl ?_
                    refine j_ldiv C dX10_owned_218 hok.2.2 ?_
                    exact j_lret C hQ dX10_owned_219 (⟨by rw [sOwned, if_pos hv, oVal]; simp only [tn_nI (show jb < 20000 by omega), tn_nI (show jx < 20000 by omega), tn_nI (show jr < 20000 by omega), if_pos c206], by rw [sOwned, if_pos hv]⟩)
                · have c68 : ¬ (nF ≤ i) := fun h => c68 ((nI_leI (a := nF) (b := i) (by omega) (by omega)).mpr h)
                  refine j_aload_n C 0 dX10_owned_71 rfl rfl ?_
                  refine j_bipush C 24 dX10_owned_72 (by decide) ?_
                  refine j_iload C 7 dX10_owned_74 rfl ?_
                  refine j_iaddN C 24 i dX10_owned_76 ?_
                  refine j_iload_n C 2 dX10_owned_77 rfl rfl ?_
                  refine j_iload_n C 3 dX10_owned_78 rfl rfl ?_
                  refine j_callV_i C 3 0 (cm_heldAsOf l d o q (mu m 0 0 0) w (24 + i) jx jr (by omega) (by omega) (by omega)) rfl rfl gX10_owned_X10_heldAsOf rfl rfl rfl (by decide +kernel) ⟨(Nat.le_of_ble_eq_true rfl), (Nat.le_of_ble_eq_true rfl)⟩ ⟨(Nat.le_of_ble_eq_true rfl), (Nat.le_of_ble_eq_true rfl)⟩ rfl rfl (Nat.le_of_ble_eq_true rfl) dX10_owned_79 (fun r79 u79 h79 => ?_)
                  rw [mHA0] at h79
                  obtain ⟨rfl, rfl⟩ := h79
                  refine j_i2l C dX10_owned_82 ?_
                  refine j_aload_n C 0 dX10_owned_83 rfl rfl ?_
                  refine mg_gift C hin (by decide +kernel) dX10_owned_84 ?_
                  refine j_iconst C 4 dX10_owned_87 (by decide) ?_
                  refine j_iload_n C 1 dX10_owned_88 rfl rfl ?_
                  refine j_imulN C 4 jb dX10_owned_89 ?_
                  refine j_iload C 7 dX10_owned_90 rfl ?_
                  refine j_iaddN C (4 * jb) i dX10_owned_92 ?_
                  refine ml_gift C (4 * jb + i) rfl (by omega) dX10_owned_93 ?_
                  refine j_st (st2 := [.int (m 26 (4 * jb + i)), .long ((mHeldAt m (24 + i) jx jr).toInt64)]) rfl ?_
                  refine j_i2l C dX10_owned_94 ?_
                  refine j_lmul C dX10_owned_95 ?_
                  refine j_lstore C [(0, .ref o), (1, .int (nI jb)), (2, .int (nI jx)), (3, .int (nI jr)), (4, .int y), (5, .long ((oS m jb jx jr i).1)), (7, .long ((oS m jb jx jr i).2)), (9, .int (nI i)), (10, .long (((mHeldAt m (24 + i) jx jr).toInt64) * ((m 26 (4 * jb + i)).toInt64)))] [1, 2, 3, 4, 5, 6, 7, 8, 0] dX10_owned_96 (by decide) rfl ?_
                  refine j_lload C 8 dX10_owned_98 rfl ?_
                  refine j_lconst C 0 dX10_owned_100 (by decide) ?_
                  refine j_lcmp C dX10_owned_101 ?_
                  refine j_if_ne C 108 dX10_owned_102 (by decide) (fun c102 => ?_) (fun c102 => ?_)
                  · have c102 : ¬ oPt m jb jx jr i = 0 := fun h => c102 (lcmp0.mpr h)
                    have ho := hok.1 i (by omega) c102
                    refine j_lload C 8 dX10_owned_108 rfl ?_
                    refine j_aload_n C 0 dX10_owned_110 rfl rfl ?_
                    refine mg_given C hin (by decide +kernel) dX10_owned_111 ?_
                    refine j_iload C 7 dX10_owned_114 rfl ?_
                    refine ml_given C i rfl (by omega) dX10_owned_116 ?_
                    refine j_st (st2 := [.int (m 25 i), .long (((mHeldAt m (24 + i) jx jr).toInt64) * ((m 26 (4 * jb + i)).toInt64))]) rfl ?_
                    refine j_i2l C dX10_owned_117 ?_
                    refine j_callS_l C 2 (cm_common l d _ (oPt m jb jx jr i) ((m 25 i).toInt64) 100 ho.1) gX10_owned_X10_common rfl rfl rfl (by decide +kernel) ⟨(Nat.le_of_ble_eq_true rfl), (Nat.le_of_ble_eq_true rfl)⟩ ⟨(Nat.le_of_ble_eq_true rfl), (Nat.le_of_ble_eq_true rfl)⟩ rfl rfl (Nat.le_of_ble_eq_true rfl) dX10_owned_118 (fun r118 u118 h118 => ?_)
                    obtain ⟨rfl, rfl⟩ := h118
                    refine j_lstore C [(0, .ref o), (1, .int (nI jb)), (2, .int (nI jx)), (3, .int (nI jr)), (4, .int y), (5, .long ((oS m jb jx jr i).1)), (7, .long ((oS m jb jx jr i).2)), (9, .int (nI i)), (10, .long (((mHeldAt m (24 + i) jx jr).toInt64) * ((m 26 (4 * jb + i)).toInt64))), (12, .long (oBy m jb jx jr i))] [1, 2, 3, 4, 5, 6, 7, 8, 9, 0] dX10_owned_121 (by decide) rfl ?_
                    refine j_aload_n C 0 dX10_owned_123 rfl rfl ?_
                    refine mg_given C hin (by decide +kernel) dX10_owned_124 ?_
                    refine j_iload C 7 dX10_owned_127 rfl ?_
                    refine ml_given C i rfl (by omega) dX10_owned_129 ?_
                    refine j_st (st2 := [.int (m 25 i)]) rfl ?_
                    refine j_i2l C dX10_owned_130 ?_
                    refine j_lload C 9 dX10_owned_131 rfl ?_
                    refine j_ldiv C dX10_owned_133 ho.2.1 ?_
                    refine j_lstore C [(0, .ref o), (1, .int (nI jb)), (2, .int (nI jx)), (3, .int (nI jr)), (4, .int y), (5, .long ((oS m jb jx jr i).1)), (7, .long ((oS m jb jx jr i).2)), (9, .int (nI i)), (10, .long (((mHeldAt m (24 + i) jx jr).toInt64) * ((m 26 (4 * jb + i)).toInt64))), (12, .long (oBy m jb jx jr i)), (14, .long (((m 25 i).toInt64) / (oBy m jb jx jr i)))] [1, 2, 3, 4, 5, 6, 7, 8, 9, 10, 0] dX10_owned_134 (by decide) rfl ?_
                    refine j_lload C 10 dX10_owned_136 rfl ?_
                    refine j_lload C 6 dX10_owned_138 rfl ?_
                    refine j_callS_l C 2 (cm_common l d _ (oOv m jb jx jr i) ((oS m jb jx jr i).2) 100 ho.2.2.1) gX10_owned_X10_common rfl rfl rfl (by decide +kernel) ⟨(Nat.le_of_ble_eq_true rfl), (Nat.le_of_ble_eq_true rfl)⟩ ⟨(Nat.le_of_ble_eq_true rfl), (Nat.le_of_ble_eq_true rfl)⟩ rfl rfl (Nat.le_of_ble_eq_true rfl) dX10_owned_140 (fun r140 u140 h140 => ?_)
                    obtain ⟨rfl, rfl⟩ := h140
                    refine j_lstore C [(0, .ref o), (1, .int (nI jb)), (2, .int (nI jx)), (3, .int (nI jr)), (4, .int y), (5, .long ((oS m jb jx jr i).1)), (7, .long ((oS m jb jx jr i).2)), (9, .int (nI i)), (10, .long (((mHeldAt m (24 + i) jx jr).toInt64) * ((m 26 (4 * jb + i)).toInt64))), (12, .long (oBy m jb jx jr i)), (14, .long (((m 25 i).toInt64) / (oBy m jb jx jr i))), (16, .long (lgcd 100 (oOv m jb jx jr i) (oS m jb jx jr i).2))] [1, 2, 3, 4, 5, 6, 7, 8, 9, 10, 11, 0] dX10_owned_143 (by decide) rfl ?_
                    refine j_lload C 5 dX10_owned_145 rfl ?_
                    refine j_lload C 10 dX10_owned_147 rfl ?_
                    refine j_lload C 11 dX10_owned_149 rfl ?_
                    refine j_ldiv C dX10_owned_151 ho.2.2.2 ?_
                    refine j_lmul C dX10_owned_152 ?_
                    refine j_lload C 8 dX10_owned_153 rfl ?_
                    refine j_lload C 9 dX10_owned_155 rfl ?_
                    refine j_ldiv C dX10_owned_157 ho.2.1 ?_
                    refine j_lload C 6 dX10_owned_158 rfl ?_
                    refine j_lload C 11 dX10_owned_160 rfl ?_
                    refine j_ldiv C dX10_owned_162 ho.2.2.2 ?_
                    refine j_lmul C dX10_owned_163 ?_
                    refine j_ladd C dX10_owned_164 ?_
                    refine j_lstore C [(0, .ref o), (1, .int (nI jb)), (2, .int (nI jx)), (3, .int (nI jr)), (4, .int y), (5, .long ((((oS m jb jx jr i).1) * ((((m 25 i).toInt64) / (oBy m jb jx jr i)) / (lgcd 100 (oOv m jb jx jr i) (oS m jb jx jr i).2))) + (((((mHeldAt m (24 + i) jx jr).toInt64) * ((m 26 (4 * jb + i)).toInt64)) / (oBy m jb jx jr i)) * (((oS m jb jx jr i).2) / (lgcd 100 (oOv m jb jx jr i) (oS m jb jx jr i).2))))), (7, .long ((oS m jb jx jr i).2)), (9, .int (nI i)), (10, .long (((mHeldAt m (24 + i) jx jr).toInt64) * ((m 26 (4 * jb + i)).toInt64))), (12, .long (oBy m jb jx jr i)), (14, .long (((m 25 i).toInt64) / (oBy m jb jx jr i))), (16, .long (lgcd 100 (oOv m jb jx jr i) (oS m jb jx jr i).2))] [1, 2, 3, 4, 5, 0, 6, 7, 8, 9, 10, 11] dX10_owned_165 (by decide) rfl ?_
                    refine j_lload C 6 dX10_owned_167 rfl ?_
                    refine j_lload C 10 dX10_owned_169 rfl ?_
                    refine j_lload C 11 dX10_owned_171 rfl ?_
                    refine j_ldiv C dX10_owned_173 ho.2.2.2 ?_
                    refine j_lmul C dX10_owned_174 ?_
                    refine j_lstore C [(0, .ref o), (1, .int (nI jb)), (2, .int (nI jx)), (3, .int (nI jr)), (4, .int y), (5, .long ((((oS m jb jx jr i).1) * ((((m 25 i).toInt64) / (oBy m jb jx jr i)) / (lgcd 100 (oOv m jb jx jr i) (oS m jb jx jr i).2))) + (((((mHeldAt m (24 + i) jx jr).toInt64) * ((m 26 (4 * jb + i)).toInt64)) / (oBy m jb jx jr i)) * (((oS m jb jx jr i).2) / (lgcd 100 (oOv m jb jx jr i) (oS m jb jx jr i).2))))), (7, .long (((oS m jb jx jr i).2) * ((((m 25 i).toInt64) / (oBy m jb jx jr i)) / (lgcd 100 (oOv m jb jx jr i) (oS m jb jx jr i).2)))), (9, .int (nI i)), (10, .long (((mHeldAt m (24 + i) jx jr).toInt64) * ((m 26 (4 * jb + i)).toInt64))), (12, .long (oBy m jb jx jr i)), (14, .long (((m 25 i).toInt64) / (oBy m jb jx jr i))), (16, .long (lgcd 100 (oOv m jb jx jr i) (oS m jb jx jr i).2))] [1, 2, 3, 4, 5, 6, 0, 7, 8, 9, 10, 11] dX10_owned_175 (by decide) rfl ?_
                    refine j_iinc C (nI (i + 1)) [(0, .ref o), (1, .int (nI jb)), (2, .int (nI jx)), (3, .int (nI jr)), (4, .int y), (5, .long ((((oS m jb jx jr i).1) * ((((m 25 i).toInt64) / (oBy m jb jx jr i)) / (lgcd 100 (oOv m jb jx jr i) (oS m jb jx jr i).2))) + (((((mHeldAt m (24 + i) jx jr).toInt64) * ((m 26 (4 * jb + i)).toInt64)) / (oBy m jb jx jr i)) * (((oS m jb jx jr i).2) / (lgcd 100 (oOv m jb jx jr i) (oS m jb jx jr i).2))))), (7, .long (((oS m jb jx jr i).2) * ((((m 25 i).toInt64) / (oBy m jb jx jr i)) / (lgcd 100 (oOv m jb jx jr i) (oS m jb jx jr i).2)))), (9, .int (nI (i + 1))), (10, .long (((mHeldAt m (24 + i) jx jr).toInt64) * ((m 26 (4 * jb + i)).toInt64))), (12, .long (oBy m jb jx jr i)), (14, .long (((m 25 i).toInt64) / (oBy m jb jx jr i))), (16, .long (lgcd 100 (oOv m jb jx jr i) (oS m jb jx jr i).2))] 7 [1, 2, 3, 4, 5, 6, 7, 0, 8, 9, 10, 11] dX10_owned_177 rfl (nI_1 i) (by decide) rfl ?_
                    refine j_goto C 62 dX10_owned_180 (by decide) ?_
                    refine j_lv (lv' := [(0, .ref o), (1, .int (nI jb)), (2, .int (nI jx)), (3, .int (nI jr)), (4, .int y), (5, .long ((((oS m jb jx jr i).1) * ((((m 25 i).toInt64) / (oBy m jb jx jr i)) / (lgcd 100 (oOv m jb jx jr i) (oS m jb jx jr i).2))) + (((((mHeldAt m (24 + i) jx jr).toInt64) * ((m 26 (4 * jb + i)).toInt64)) / (oBy m jb jx jr i)) * (((oS m jb jx jr i).2) / (lgcd 100 (oOv m jb jx jr i) (oS m jb jx jr i).2))))), (7, .long (((oS m jb jx jr i).2) * ((((m 25 i).toInt64) / (oBy m jb jx jr i)) / (lgcd 100 (oOv m jb jx jr i) (oS m jb jx jr i).2)))), (9, .int (nI (i + 1)))]) [0, 1, 2, 3, 4, 5, 6, 7] rfl ?_
                    refine j_lvq (lv2 := [(0, .ref o), (1, .int (nI jb)), (2, .int (nI jx)), (3, .int (nI jr)), (4, .int y), (5, .long ((oS m jb jx jr (i + 1)).1)), (7, .long ((oS m jb jx jr (i + 1)).2)), (9, .int (nI (i + 1)))]) (by rw [show oS m jb jx jr (i + 1) = ((((oS m jb jx jr i).1) * ((((m 25 i).toInt64) / (oBy m jb jx jr i)) / (lgcd 100 (oOv m jb jx jr i) (oS m jb jx jr i).2))) + (((((mHeldAt m (24 + i) jx jr).toInt64) * ((m 26 (4 * jb + i)).toInt64)) / (oBy m jb jx jr i)) * (((oS m jb jx jr i).2) / (lgcd 100 (oOv m jb jx jr i) (oS m jb jx jr i).2))), ((oS m jb jx jr i).2) * ((((m 25 i).toInt64) / (oBy m jb jx jr i)) / (lgcd 100 (oOv m jb jx jr i) (oS m jb jx jr i).2))) from if_neg c102]) ?_
                    exact ih (i + 1) (by omega) (by omega)
                  · have c102 := lcmp0.mp c102
                    refine j_goto C 177 dX10_owned_105 (by decide) ?_
                    refine j_iinc C (nI (i + 1)) [(0, .ref o), (1, .int (nI jb)), (2, .int (nI jx)), (3, .int (nI jr)), (4, .int y), (5, .long ((oS m jb jx jr i).1)), (7, .long ((oS m jb jx jr i).2)), (9, .int (nI (i + 1))), (10, .long (((mHeldAt m (24 + i) jx jr).toInt64) * ((m 26 (4 * jb + i)).toInt64)))] 7 [1, 2, 3, 4, 5, 6, 7, 0, 8] dX10_owned_177 rfl (nI_1 i) (by decide) rfl ?_
                    refine j_goto C 62 dX10_owned_180 (by decide) ?_
                    refine j_lv (lv' := [(0, .ref o), (1, .int (nI jb)), (2, .int (nI jx)), (3, .int (nI jr)), (4, .int y), (5, .long ((oS m jb jx jr i).1)), (7, .long ((oS m jb jx jr i).2)), (9, .int (nI (i + 1)))]) [0, 1, 2, 3, 4, 5, 6, 7] rfl ?_
                    refine j_lvq (lv2 := [(0, .ref o), (1, .int (nI jb)), (2, .int (nI jx)), (3, .int (nI jr)), (4, .int y), (5, .long ((oS m jb jx jr (i + 1)).1)), (7, .long ((oS m jb jx jr (i + 1)).2)), (9, .int (nI (i + 1)))]) (by rw [show oS m jb jx jr (i + 1) = ((oS m jb jx jr i).1, (oS m jb jx jr i).2) from if_pos c102]) ?_
                    exact ih (i + 1) (by omega) (by omega)
            refine j_aload_n C 0 dX10_owned_41 rfl rfl ?_
            refine j_iconst C 0 dX10_owned_42 (by decide) ?_
            refine mp_thrown C hin (by decide +kernel) dX10_owned_43 ?_
            refine j_aload_n C 0 dX10_owned_46 rfl rfl ?_
            refine j_iload_n C 1 dX10_owned_47 rfl rfl ?_
            refine j_iload_n C 2 dX10_owned_48 rfl rfl ?_
            refine j_iload_n C 3 dX10_owned_49 rfl rfl ?_
            refine j_callV_i C 3 0 (cm_heldAsOf l d o q (mu m 0 0 0) w jb jx jr (by omega) (by omega) (by omega)) rfl rfl gX10_owned_X10_heldAsOf rfl rfl rfl (by decide +kernel) ⟨(Nat.le_of_ble_eq_true rfl), (Nat.le_of_ble_eq_true rfl)⟩ ⟨(Nat.le_of_ble_eq_true rfl), (Nat.le_of_ble_eq_true rfl)⟩ rfl rfl (Nat.le_of_ble_eq_true rfl) dX10_owned_50 (fun r50 u50 h50 => ?_)
            rw [mHA0] at h50
            obtain ⟨rfl, rfl⟩ := h50
            refine j_i2l C dX10_owned_53 ?_
            refine j_lstore C [(0, .ref o), (1, .int (nI jb)), (2, .int (nI jx)), (3, .int (nI jr)), (4, .int y), (5, .long ((mHeldAt m jb jx jr).toInt64))] [1, 2, 3, 4, 5, 0] dX10_owned_54 (by decide) rfl ?_
            refine j_lconst C 1 dX10_owned_56 (by decide) ?_
            refine j_lstore C [(0, .ref o), (1, .int (nI jb)), (2, .int (nI jx)), (3, .int (nI jr)), (4, .int y), (5, .long ((mHeldAt m jb jx jr).toInt64)), (7, .long 1)] [1, 2, 3, 4, 5, 6, 0] dX10_owned_57 (by decide) rfl ?_
            refine j_iconst C 0 dX10_owned_59 (by decide) ?_
            refine j_istore C [(0, .ref o), (1, .int (nI jb)), (2, .int (nI jx)), (3, .int (nI jr)), (4, .int y), (5, .long ((mHeldAt m jb jx jr).toInt64)), (7, .long 1), (9, .int 0)] [1, 2, 3, 4, 5, 6, 7, 0] dX10_owned_60 (by decide) rfl ?_
            exact loop _ 0 (Nat.zero_le _) (Nat.lt_succ_self _)
          · refine j_aload_n C 0 dX10_owned_35 rfl rfl ?_
            refine j_callV_i C 0 0 (cm_refuse l d o q m w) rfl rfl gX10_owned_X10_refuse rfl rfl rfl (by decide +kernel) ⟨(Nat.le_of_ble_eq_true rfl), (Nat.le_of_ble_eq_true rfl)⟩ ⟨(Nat.le_of_ble_eq_true rfl), (Nat.le_of_ble_eq_true rfl)⟩ rfl rfl (Nat.le_of_ble_eq_true rfl) dX10_owned_36 (fun r36 u36 h36 => ?_)
            obtain ⟨rfl, rfl⟩ := h36
            refine j_i2l C dX10_owned_39 ?_
            exact j_lret C hQ dX10_owned_40 (⟨by rw [sOwned, if_neg (fun h => c32 h.2.2.2.2)]; rfl, by rw [sOwned, if_neg (fun h => c32 h.2.2.2.2)]⟩)


/-! small things of the reference: answers of its tests and reads -/
def bI (p : Prop) [Decidable p] : Int32 := if p then 1 else 0
theorem bI_0 {p : Prop} [Decidable p] : bI p = 0 ↔ ¬ p := by unfold bI; by_cases h : p <;> simp [h]
theorem bI_n0 {p : Prop} [Decidable p] : ¬ bI p = 0 ↔ p := by unfold bI; by_cases h : p <;> simp [h]
theorem bI_t {p : Prop} [Decidable p] (h : p) : 1 = bI p := by simp [bI, h]
theorem bI_f {p : Prop} [Decidable p] (h : ¬ p) : 0 = bI p := by simp [bI, h]
theorem i_nlt {a b : Int32} : ¬ a < b ↔ b ≤ a := Int32.not_lt
theorem i_nle {a b : Int32} : ¬ a ≤ b ↔ b < a := Int32.not_le
theorem nI_in2 {x : Int32} {n : Nat} (h0 : 0 ≤ x) (h1 : x < nI n) (hn : n < 2 ^ 31) : ∃ j : Nat, j < n ∧ x = nI j := by
  obtain ⟨j, hj, rfl⟩ := nI_of (Int32.not_lt.mpr h0)
  exact ⟨j, (nI_ltI hj hn).mp h1, rfl⟩
theorem ix10 (b w : Nat) : (10 : Int32) * nI b + nI w = nI (10 * b + w) := by rw [show (10 : Int32) = nI 10 from rfl, pk_mul, nI_add]
theorem ix50 (b w : Nat) : (50 : Int32) * nI b + nI w = nI (50 * b + w) := by rw [show (50 : Int32) = nI 50 from rfl, pk_mul, nI_add]
theorem ix4 (b w : Nat) : (4 : Int32) * nI b + nI w = nI (4 * b + w) := by rw [show (4 : Int32) = nI 4 from rfl, pk_mul, nI_add]
theorem ix280 (b w : Nat) : (280 : Int32) * nI b + nI w = nI (280 * b + w) := by rw [show (280 : Int32) = nI 280 from rfl, pk_mul, nI_add]
theorem ix280b (r b w : Nat) : (280 : Int32) * nI r + (10 : Int32) * nI b + nI w = nI (280 * r + 10 * b + w) := by rw [show (280 : Int32) = nI 280 from rfl, show (10 : Int32) = nI 10 from rfl, pk_mul, pk_mul, nI_add, nI_add]
theorem ixm24 (b : Nat) (h : 24 ≤ b) : nI b - (24 : Int32) = nI (b - 24) := pk_sub (a := b) (b := 24) h
abbrev isW (m : Nat → Nat → Int32) (w : Int32) : Prop := 0 ≤ w ∧ w < m 30 0
abbrev isP (m : Nat → Nat → Int32) (b : Int32) : Prop := 0 ≤ b ∧ b < m 31 0
abbrev isF (m : Nat → Nat → Int32) (b : Int32) : Prop := 24 ≤ b ∧ b < 24 + m 32 0
abbrev isB (m : Nat → Nat → Int32) (b : Int32) : Prop := isP m b ∨ isF m b
abbrev isR (m : Nat → Nat → Int32) (r : Int32) : Prop := 0 ≤ r ∧ r ≤ m 33 0
theorem isW_nI {m : Nat → Nat → Int32} {w : Int32} {n : Nat} (hn : m 30 0 = nI n) (h10 : n ≤ 10) (h : isW m w) : ∃ j : Nat, j < n ∧ w = nI j := nI_in2 h.1 (by rw [← hn]; exact h.2) (by omega)
theorem isP_nI {m : Nat → Nat → Int32} {w : Int32} {n : Nat} (hn : m 31 0 = nI n) (h10 : n ≤ 24) (h : isP m w) : ∃ j : Nat, j < n ∧ w = nI j := nI_in2 h.1 (by rw [← hn]; exact h.2) (by omega)
theorem isF_nI {m : Nat → Nat → Int32} {w : Int32} {n : Nat} (hn : m 32 0 = nI n) (h4 : n ≤ 4) (h : isF m w) : ∃ j : Nat, 24 ≤ j ∧ j < 24 + n ∧ w = nI j := by
  obtain ⟨h1, h2⟩ := h
  rw [hn, show (24 : Int32) = nI 24 from rfl, nI_add] at h2
  obtain ⟨j, hj, rfl⟩ := nI_in2 (Int32.le_trans (by decide) h1) h2 (by omega)
  exact ⟨j, (nI_leI (by omega) (by omega)).mp (show nI 24 ≤ nI j from h1), hj, rfl⟩
theorem isB_nI {m : Nat → Nat → Int32} {b : Int32} {nP nF : Nat} (hP : m 31 0 = nI nP) (hp : nP ≤ 24) (hF : m 32 0 = nI nF) (hf : nF ≤ 4) (h : isB m b) : ∃ j : Nat, j < 28 ∧ (j < nP ∨ 24 ≤ j ∧ j < 24 + nF) ∧ b = nI j := by
  rcases h with h | h
  · obtain ⟨j, h1, rfl⟩ := isP_nI hP hp h
    exact ⟨j, by omega, Or.inl h1, rfl⟩
  · obtain ⟨j, h1, h2, rfl⟩ := isF_nI hF hf h
    exact ⟨j, by omega, Or.inr ⟨h1, h2⟩, rfl⟩
theorem isR_nI {m : Nat → Nat → Int32} {r : Int32} {n : Nat} (hn : m 33 0 = nI n) (h10 : n ≤ 49) (h : isR m r) : ∃ j : Nat, j ≤ n ∧ r = nI j := by
  obtain ⟨j, hj, rfl⟩ := nI_of (Int32.not_lt.mpr h.1)
  exact ⟨j, by have := h.2; rw [hn] at this; exact (nI_leI hj (by omega)).mp this, rfl⟩

set_option maxHeartbeats 4000000 in
set_option maxRecDepth 100000 in
theorem cm_isIn (l : Launch) (d : jD) (ws : va_W) (v a b : Int32) : jMi noE d l yX10_isIn wsX10_isIn ({ frames := 0, cells := 0, slots := 0, locals := 0 } : Room) 0 0 [.int v, .int a, .int b] ws (fun r u => r = bI (a ≤ v ∧ v ≤ b) ∧ u = ws) := by
  refine jMi.mk noE_k (by decide) rfl (Nat.le_of_ble_eq_true rfl) (fun X A C hQ => ?_)
  refine j_lvq (lv2 := [(0, .int v), (1, .int a), (2, .int b)]) rfl ?_
  refine j_iload_n C 0 dX10_isIn_0 rfl rfl ?_
  refine j_iload_n C 1 dX10_isIn_1 rfl rfl ?_
  refine j_icmp_lt C 14 dX10_isIn_2 (by decide) (fun c2 => ?_) (fun c2 => ?_)
  · refine j_iconst C 0 dX10_isIn_14 (by decide) ?_
    exact j_zret C hQ rfl dX10_isIn_15 (⟨bI_f (fun h => absurd h.1 (i_nle.mpr c2)), rfl⟩)
  · refine j_iload_n C 0 dX10_isIn_5 rfl rfl ?_
    refine j_iload_n C 2 dX10_isIn_6 rfl rfl ?_
    refine j_icmp_gt C 14 dX10_isIn_7 (by decide) (fun c7 => ?_) (fun c7 => ?_)
    · refine j_iconst C 0 dX10_isIn_14 (by decide) ?_
      exact j_zret C hQ rfl dX10_isIn_15 (⟨bI_f (fun h => absurd h.2 (i_nle.mpr c7)), rfl⟩)
    · refine j_iconst C 1 dX10_isIn_10 (by decide) ?_
      refine j_goto C 15 dX10_isIn_11 (by decide) ?_
      exact j_zret C hQ rfl dX10_isIn_15 (⟨bI_t ⟨i_nlt.mp c2, i_nlt.mp c7⟩, rfl⟩)

set_option maxHeartbeats 4000000 in
set_option maxRecDepth 100000 in
theorem cm_isWork (l : Launch) (d : jD) (o : Nat) (q : Nat → Nat) (m : Nat → Nat → Int32) (w : Int64) (x : Int32) : jMi noE d l yX10_isWork wsX10_isWork ({ frames := 0, cells := 0, slots := 0, locals := 0 } : Room) 0 0 [.ref o, .int x] (mW o q d m w) (fun r u => r = bI (isW m x) ∧ u = mW o q d m w) := by
  refine jMi.mk noE_k (by decide) rfl (Nat.le_of_ble_eq_true rfl) (fun X A C hQ => ?_)
  have hin : ∀ w ∈ u_ws RX10 TX10 37, w ∈ wsX10_isWork := fun w h => List.mem_cons_of_mem _ (List.mem_append_right _ h)
  refine j_lvq (lv2 := [(0, .ref o), (1, .int x)]) rfl ?_
  refine j_iload_n C 1 dX10_isWork_0 rfl rfl ?_
  refine j_if_lt C 16 dX10_isWork_1 (by decide) (fun c1 => ?_) (fun c1 => ?_)
  · refine j_iconst C 0 dX10_isWork_16 (by decide) ?_
    exact j_zret C hQ rfl dX10_isWork_17 (⟨bI_f (fun h => absurd h.1 (i_nle.mpr c1)), rfl⟩)
  · refine j_iload_n C 1 dX10_isWork_4 rfl rfl ?_
    refine j_aload_n C 0 dX10_isWork_5 rfl rfl ?_
    refine mg_works C hin (by decide +kernel) dX10_isWork_6 ?_
    refine j_icmp_ge C 16 dX10_isWork_9 (by decide) (fun c9 => ?_) (fun c9 => ?_)
    · refine j_iconst C 0 dX10_isWork_16 (by decide) ?_
      exact j_zret C hQ rfl dX10_isWork_17 (⟨bI_f (fun h => absurd h.2 (i_nlt.mpr c9)), rfl⟩)
    · refine j_iconst C 1 dX10_isWork_12 (by decide) ?_
      refine j_goto C 17 dX10_isWork_13 (by decide) ?_
      exact j_zret C hQ rfl dX10_isWork_17 (⟨bI_t ⟨i_nlt.mp c1, i_nle.mp c9⟩, rfl⟩)

set_option maxHeartbeats 4000000 in
set_option maxRecDepth 100000 in
theorem cm_isPerson (l : Launch) (d : jD) (o : Nat) (q : Nat → Nat) (m : Nat → Nat → Int32) (w : Int64) (x : Int32) : jMi noE d l yX10_isPerson wsX10_isPerson ({ frames := 0, cells := 0, slots := 0, locals := 0 } : Room) 0 0 [.ref o, .int x] (mW o q d m w) (fun r u => r = bI (isP m x) ∧ u = mW o q d m w) := by
  refine jMi.mk noE_k (by decide) rfl (Nat.le_of_ble_eq_true rfl) (fun X A C hQ => ?_)
  have hin : ∀ w ∈ u_ws RX10 TX10 37, w ∈ wsX10_isPerson := fun w h => List.mem_cons_of_mem _ (List.mem_append_right _ h)
  refine j_lvq (lv2 := [(0, .ref o), (1, .int x)]) rfl ?_
  refine j_iload_n C 1 dX10_isPerson_0 rfl rfl ?_
  refine j_if_lt C 16 dX10_isPerson_1 (by decide) (fun c1 => ?_) (fun c1 => ?_)
  · refine j_iconst C 0 dX10_isPerson_16 (by decide) ?_
    exact j_zret C hQ rfl dX10_isPerson_17 (⟨bI_f (fun h => absurd h.1 (i_nle.mpr c1)), rfl⟩)
  · refine j_iload_n C 1 dX10_isPerson_4 rfl rfl ?_
    refine j_aload_n C 0 dX10_isPerson_5 rfl rfl ?_
    refine mg_people C hin (by decide +kernel) dX10_isPerson_6 ?_
    refine j_icmp_ge C 16 dX10_isPerson_9 (by decide) (fun c9 => ?_) (fun c9 => ?_)
    · refine j_iconst C 0 dX10_isPerson_16 (by decide) ?_
      exact j_zret C hQ rfl dX10_isPerson_17 (⟨bI_f (fun h => absurd h.2 (i_nlt.mpr c9)), rfl⟩)
    · refine j_iconst C 1 dX10_isPerson_12 (by decide) ?_
      refine j_goto C 17 dX10_isPerson_13 (by decide) ?_
      exact j_zret C hQ rfl dX10_isPerson_17 (⟨bI_t ⟨i_nlt.mp c1, i_nle.mp c9⟩, rfl⟩)

set_option maxHeartbeats 4000000 in
set_option maxRecDepth 100000 in
theorem cm_isFund (l : Launch) (d : jD) (o : Nat) (q : Nat → Nat) (m : Nat → Nat → Int32) (w : Int64) (x : Int32) : jMi noE d l yX10_isFund wsX10_isFund ({ frames := 0, cells := 0, slots := 0, locals := 0 } : Room) 0 0 [.ref o, .int x] (mW o q d m w) (fun r u => r = bI (isF m x) ∧ u = mW o q d m w) := by
  refine jMi.mk noE_k (by decide) rfl (Nat.le_of_ble_eq_true rfl) (fun X A C hQ => ?_)
  have hin : ∀ w ∈ u_ws RX10 TX10 37, w ∈ wsX10_isFund := fun w h => List.mem_cons_of_mem _ (List.mem_append_right _ h)
  refine j_lvq (lv2 := [(0, .ref o), (1, .int x)]) rfl ?_
  refine j_iload_n C 1 dX10_isFund_0 rfl rfl ?_
  refine j_bipush C 24 dX10_isFund_1 (by decide) ?_
  refine j_icmp_lt C 21 dX10_isFund_3 (by decide) (fun c3 => ?_) (fun c3 => ?_)
  · refine j_iconst C 0 dX10_isFund_21 (by decide) ?_
    exact j_zret C hQ rfl dX10_isFund_22 (⟨bI_f (fun h => absurd h.1 (i_nle.mpr c3)), rfl⟩)
  · refine j_iload_n C 1 dX10_isFund_6 rfl rfl ?_
    refine j_bipush C 24 dX10_isFund_7 (by decide) ?_
    refine j_aload_n C 0 dX10_isFund_9 rfl rfl ?_
    refine mg_funds C hin (by decide +kernel) dX10_isFund_10 ?_
    refine j_iadd C dX10_isFund_13 ?_
    refine j_icmp_ge C 21 dX10_isFund_14 (by decide) (fun c14 => ?_) (fun c14 => ?_)
    · refine j_iconst C 0 dX10_isFund_21 (by decide) ?_
      exact j_zret C hQ rfl dX10_isFund_22 (⟨bI_f (fun h => absurd h.2 (i_nlt.mpr c14)), rfl⟩)
    · refine j_iconst C 1 dX10_isFund_17 (by decide) ?_
      refine j_goto C 22 dX10_isFund_18 (by decide) ?_
      exact j_zret C hQ rfl dX10_isFund_22 (⟨bI_t ⟨i_nlt.mp c3, i_nle.mp c14⟩, rfl⟩)

set_option maxHeartbeats 4000000 in
set_option maxRecDepth 100000 in
theorem cm_isRound (l : Launch) (d : jD) (o : Nat) (q : Nat → Nat) (m : Nat → Nat → Int32) (w : Int64) (x : Int32) : jMi noE d l yX10_isRound wsX10_isRound ({ frames := 0, cells := 0, slots := 0, locals := 0 } : Room) 0 0 [.ref o, .int x] (mW o q d m w) (fun r u => r = bI (isR m x) ∧ u = mW o q d m w) := by
  refine jMi.mk noE_k (by decide) rfl (Nat.le_of_ble_eq_true rfl) (fun X A C hQ => ?_)
  have hin : ∀ w ∈ u_ws RX10 TX10 37, w ∈ wsX10_isRound := fun w h => List.mem_cons_of_mem _ (List.mem_append_right _ h)
  refine j_lvq (lv2 := [(0, .ref o), (1, .int x)]) rfl ?_
  refine j_iload_n C 1 dX10_isRound_0 rfl rfl ?_
  refine j_if_lt C 16 dX10_isRound_1 (by decide) (fun c1 => ?_) (fun c1 => ?_)
  · refine j_iconst C 0 dX10_isRound_16 (by decide) ?_
    exact j_zret C hQ rfl dX10_isRound_17 (⟨bI_f (fun h => absurd h.1 (i_nle.mpr c1)), rfl⟩)
  · refine j_iload_n C 1 dX10_isRound_4 rfl rfl ?_
    refine j_aload_n C 0 dX10_isRound_5 rfl rfl ?_
    refine mg_round C hin (by decide +kernel) dX10_isRound_6 ?_
    refine j_icmp_gt C 16 dX10_isRound_9 (by decide) (fun c9 => ?_) (fun c9 => ?_)
    · refine j_iconst C 0 dX10_isRound_16 (by decide) ?_
      exact j_zret C hQ rfl dX10_isRound_17 (⟨bI_f (fun h => absurd h.2 (i_nle.mpr c9)), rfl⟩)
    · refine j_iconst C 1 dX10_isRound_12 (by decide) ?_
      refine j_goto C 17 dX10_isRound_13 (by decide) ?_
      exact j_zret C hQ rfl dX10_isRound_17 (⟨bI_t ⟨i_nlt.mp c1, i_nlt.mp c9⟩, rfl⟩)

set_option maxHeartbeats 4000000 in
set_option maxRecDepth 100000 in
theorem cm_isBidder (l : Launch) (d : jD) (o : Nat) (q : Nat → Nat) (m : Nat → Nat → Int32) (w : Int64) (x : Int32) : jMi noE d l yX10_isBidder wsX10_isBidder ({ frames := 1, cells := 0, slots := 0, locals := 21 } : Room) 0 0 [.ref o, .int x] (mW o q d m w) (fun r u => r = bI (isB m x) ∧ u = mW o q d m w) := by
  refine jMi.mk noE_k (by decide) rfl (Nat.le_of_ble_eq_true rfl) (fun X A C hQ => ?_)
  have hin : ∀ w ∈ u_ws RX10 TX10 37, w ∈ wsX10_isBidder := fun w h => List.mem_cons_of_mem _ (List.mem_append_right _ h)
  refine j_lvq (lv2 := [(0, .ref o), (1, .int x)]) rfl ?_
  refine j_aload_n C 0 dX10_isBidder_0 rfl rfl ?_
  refine j_iload_n C 1 dX10_isBidder_1 rfl rfl ?_
  refine j_callV_i C 1 0 (cm_isPerson l d o q m w x) rfl rfl gX10_isBidder_X10_isPerson rfl rfl rfl (by decide +kernel) ⟨(Nat.le_of_ble_eq_true rfl), (Nat.le_of_ble_eq_true rfl)⟩ ⟨(Nat.le_of_ble_eq_true rfl), (Nat.le_of_ble_eq_true rfl)⟩ rfl rfl (Nat.le_of_ble_eq_true rfl) dX10_isBidder_2 (fun r2 u2 h2 => ?_)
  obtain ⟨rfl, rfl⟩ := h2
  refine j_if_ne C 16 dX10_isBidder_5 (by decide) (fun c5 => ?_) (fun c5 => ?_)
  · refine j_iconst C 1 dX10_isBidder_16 (by decide) ?_
    refine j_goto C 21 dX10_isBidder_17 (by decide) ?_
    exact j_zret C hQ rfl dX10_isBidder_21 (⟨bI_t (Or.inl (bI_n0.mp c5)), rfl⟩)
  · refine j_aload_n C 0 dX10_isBidder_8 rfl rfl ?_
    refine j_iload_n C 1 dX10_isBidder_9 rfl rfl ?_
    refine j_callV_i C 1 0 (cm_isFund l d o q m w x) rfl rfl gX10_isBidder_X10_isFund rfl rfl rfl (by decide +kernel) ⟨(Nat.le_of_ble_eq_true rfl), (Nat.le_of_ble_eq_true rfl)⟩ ⟨(Nat.le_of_ble_eq_true rfl), (Nat.le_of_ble_eq_true rfl)⟩ rfl rfl (Nat.le_of_ble_eq_true rfl) dX10_isBidder_10 (fun r10 u10 h10 => ?_)
    obtain ⟨rfl, rfl⟩ := h10
    refine j_if_eq C 20 dX10_isBidder_13 (by decide) (fun c13 => ?_) (fun c13 => ?_)
    · refine j_iconst C 0 dX10_isBidder_20 (by decide) ?_
      exact j_zret C hQ rfl dX10_isBidder_21 (⟨bI_f (fun h => h.elim (bI_0.mp c5) (bI_0.mp c13)), rfl⟩)
    · refine j_iconst C 1 dX10_isBidder_16 (by decide) ?_
      refine j_goto C 21 dX10_isBidder_17 (by decide) ?_
      exact j_zret C hQ rfl dX10_isBidder_21 (⟨bI_t (Or.inr (bI_n0.mp c13)), rfl⟩)

set_option maxHeartbeats 4000000 in
set_option maxRecDepth 100000 in
theorem cm_thrown (l : Launch) (d : jD) (o : Nat) (q : Nat → Nat) (m : Nat → Nat → Int32) (w : Int64) : jMi noE d l yX10_thrown wsX10_thrown ({ frames := 0, cells := 0, slots := 0, locals := 0 } : Room) 0 0 [.ref o] (mW o q d m w) (fun r u => r = m 0 0 ∧ u = mW o q d m w) := by
  refine jMi.mk noE_k (by decide) rfl (Nat.le_of_ble_eq_true rfl) (fun X A C hQ => ?_)
  have hin : ∀ w ∈ u_ws RX10 TX10 37, w ∈ wsX10_thrown := fun w h => List.mem_cons_of_mem _ (List.mem_append_right _ h)
  refine j_lvq (lv2 := [(0, .ref o)]) rfl ?_
  refine j_aload_n C 0 dX10_thrown_0 rfl rfl ?_
  refine mg_thrown C hin (by decide +kernel) dX10_thrown_1 ?_
  exact j_iret C hQ dX10_thrown_4 (⟨rfl, rfl⟩)

set_option maxHeartbeats 4000000 in
set_option maxRecDepth 100000 in
theorem cm_refuse (l : Launch) (d : jD) (o : Nat) (q : Nat → Nat) (m : Nat → Nat → Int32) (w : Int64) : jMi noE d l yX10_refuse wsX10_refuse ({ frames := 0, cells := 0, slots := 0, locals := 0 } : Room) 0 0 [.ref o] (mW o q d m w) (fun r u => r = 0 ∧ u = mW o q d (mu m 0 0 1) w) := by
  refine jMi.mk noE_k (by decide) rfl (Nat.le_of_ble_eq_true rfl) (fun X A C hQ => ?_)
  have hin : ∀ w ∈ u_ws RX10 TX10 37, w ∈ wsX10_refuse := fun w h => List.mem_cons_of_mem _ (List.mem_append_right _ h)
  refine j_lvq (lv2 := [(0, .ref o)]) rfl ?_
  refine j_aload_n C 0 dX10_refuse_0 rfl rfl ?_
  refine j_iconst C 1 dX10_refuse_1 (by decide) ?_
  refine mp_thrown C hin (by decide +kernel) dX10_refuse_2 ?_
  refine j_iconst C 0 dX10_refuse_5 (by decide) ?_
  exact j_iret C hQ dX10_refuse_6 (⟨rfl, rfl⟩)

set_option maxHeartbeats 4000000 in
set_option maxRecDepth 100000 in
theorem cm_fault (l : Launch) (d : jD) (o : Nat) (q : Nat → Nat) (m : Nat → Nat → Int32) (w : Int64) : jMi noE d l yX10_fault wsX10_fault ({ frames := 0, cells := 0, slots := 0, locals := 0 } : Room) 0 0 [.ref o] (mW o q d m w) (fun r u => r = m 13 0 ∧ u = mW o q d (mu m 0 0 0) w) := by
  refine jMi.mk noE_k (by decide) rfl (Nat.le_of_ble_eq_true rfl) (fun X A C hQ => ?_)
  have hin : ∀ w ∈ u_ws RX10 TX10 37, w ∈ wsX10_fault := fun w h => List.mem_cons_of_mem _ (List.mem_append_right _ h)
  refine j_lvq (lv2 := [(0, .ref o)]) rfl ?_
  refine j_aload_n C 0 dX10_fault_0 rfl rfl ?_
  refine j_iconst C 0 dX10_fault_1 (by decide) ?_
  refine mp_thrown C hin (by decide +kernel) dX10_fault_2 ?_
  refine j_aload_n C 0 dX10_fault_5 rfl rfl ?_
  refine mg_fault C hin (by decide +kernel) dX10_fault_6 ?_
  refine j_st (st2 := [.int (m 13 0)]) rfl ?_
  exact j_iret C hQ dX10_fault_9 (⟨rfl, rfl⟩)

/-- what the first n WORKS' BIDS of b cost -/
def mCost (m : Nat → Nat → Int32) (b : Nat) : Nat → Int32
  | 0 => 0
  | n + 1 => mCost m b n + m 27 (10 * b + n) * m 19 n

set_option maxHeartbeats 4000000 in
set_option maxRecDepth 100000 in
theorem cm_costs (l : Launch) (d : jD) (o : Nat) (q : Nat → Nat) (m : Nat → Nat → Int32) (w : Int64) (b nW : Nat) (hb : b < 28) (hW : m 30 0 = nI nW) (hn : nW ≤ 10) : jMi noE d l yX10_costs wsX10_costs ({ frames := 0, cells := 0, slots := 0, locals := 0 } : Room) 0 0 [.ref o, .int (nI b)] (mW o q d m w) (fun r u => r = mCost m b nW ∧ u = mW o q d m w) := by
  refine jMi.mk noE_k (by decide) rfl (Nat.le_of_ble_eq_true rfl) (fun X A C hQ => ?_)
  have hin : ∀ w ∈ u_ws RX10 TX10 37, w ∈ wsX10_costs := fun w h => List.mem_cons_of_mem _ (List.mem_append_right _ h)
  refine j_lvq (lv2 := [(0, .ref o), (1, .int (nI b))]) rfl ?_
  have loop : ∀ n i : Nat, i ≤ nW → nW - i < n → jJ X l d A 4 0 0 (mW o q d m w) [(0, .ref o), (1, .int (nI b)), (2, .int (mCost m b i)), (3, .int (nI i))] 4 [] := by
    intro n
    induction n with
    | zero => intro i _ h; exact absurd h (Nat.not_lt_zero _)
    | succ n ih =>
      intro i hi hn
      refine j_iload_n C 3 dX10_costs_4 rfl rfl ?_
      refine j_aload_n C 0 dX10_costs_5 rfl rfl ?_
      refine mg_works C hin (by decide +kernel) dX10_costs_6 ?_
      refine j_icmp_ge C 39 dX10_costs_9 (by decide) (fun c9 => ?_) (fun c9 => ?_)
      · have c9 : nW ≤ i := (nI_leI (by omega) (by omega)).mp (by rw [← hW]; exact c9)
        refine j_iload_n C 2 dX10_costs_39 rfl rfl ?_
        exact j_iret C hQ dX10_costs_40 (⟨by rw [show i = nW by omega], rfl⟩)
      · have c9 : i < nW := Nat.not_le.mp (fun h => c9 (by rw [hW]; exact (nI_leI (by omega) (by omega)).mpr h))
        refine j_iload_n C 2 dX10_costs_12 rfl rfl ?_
        refine j_aload_n C 0 dX10_costs_13 rfl rfl ?_
        refine mg_asked C hin (by decide +kernel) dX10_costs_14 ?_
        refine j_bipush C 10 dX10_costs_17 (by decide) ?_
        refine j_iload_n C 1 dX10_costs_19 rfl rfl ?_
        refine j_imul C dX10_costs_20 ?_
        refine j_iload_n C 3 dX10_costs_21 rfl rfl ?_
        refine j_iadd C dX10_costs_22 ?_
        refine ml_asked C (10 * b + i) (ix10 b i) (by omega) dX10_costs_23 ?_
        refine j_aload_n C 0 dX10_costs_24 rfl rfl ?_
        refine mg_price C hin (by decide +kernel) dX10_costs_25 ?_
        refine j_iload_n C 3 dX10_costs_28 rfl rfl ?_
        refine ml_price C i rfl (by omega) dX10_costs_29 ?_
        refine j_imul C dX10_costs_30 ?_
        refine j_iadd C dX10_costs_31 ?_
        refine j_istore_n C [(0, .ref o), (1, .int (nI b)), (2, .int ((mCost m b i) + ((m 27 (10 * b + i)) * (m 19 i)))), (3, .int (nI i))] [1, 2, 0, 3] dX10_costs_32 rfl (by decide) rfl ?_
        refine j_iinc C (nI (i + 1)) [(0, .ref o), (1, .int (nI b)), (2, .int ((mCost m b i) + ((m 27 (10 * b + i)) * (m 19 i)))), (3, .int (nI (i + 1)))] 3 [1, 2, 3, 0] dX10_costs_33 rfl (nI_1 i) (by decide) rfl ?_
        refine j_goto C 4 dX10_costs_36 (by decide) ?_
        exact ih (i + 1) (by omega) (by omega)
  refine j_iconst C 0 dX10_costs_0 (by decide) ?_
  refine j_istore_n C [(0, .ref o), (1, .int (nI b)), (2, .int 0)] [1, 2, 0] dX10_costs_1 rfl (by decide) rfl ?_
  refine j_iconst C 0 dX10_costs_2 (by decide) ?_
  refine j_istore_n C [(0, .ref o), (1, .int (nI b)), (2, .int 0), (3, .int 0)] [1, 2, 3, 0] dX10_costs_3 rfl (by decide) rfl ?_
  exact loop _ 0 (Nat.zero_le _) (Nat.lt_succ_self _)


/-! the reader of RULES in the reference -/
abbrev isL (c : Int32) : Prop := 97 ≤ c ∧ c ≤ 122
abbrev isDg (c : Int32) : Prop := 48 ≤ c ∧ c ≤ 57
def bA (T : Nat → Int32) (sz p : Nat) : Int32 := if p < sz then T p else 0
abbrev isLD (T : Nat → Int32) (sz p : Nat) : Prop := isL (bA T sz p) ∨ isDg (bA T sz p)
abbrev isBl (c : Int32) : Prop := c = 32 ∨ c = 10
/-- how many blanks from p on -/
def skc (T : Nat → Int32) (sz : Nat) : Nat → Nat → Nat
  | 0, _ => 0
  | f + 1, p => if p < sz ∧ isBl (T p) then skc T sz f (p + 1) + 1 else 0
/-- how many letters and digits from p on -/
def rlen (T : Nat → Int32) (sz : Nat) : Nat → Nat → Nat
  | 0, _ => 0
  | f + 1, p => if isLD T sz p then rlen T sz f (p + 1) + 1 else 0
theorem isLD_lt {T : Nat → Int32} {sz p : Nat} (h : isLD T sz p) : p < sz := by
  rcases Nat.lt_or_ge p sz with h1 | h1
  · exact h1
  · exfalso
    unfold isLD bA at h
    rw [if_neg (by omega)] at h
    revert h
    decide
def sL (m : Nat → Nat → Int32) (p : Nat) : Nat → Nat → Nat → Int32
  | 0 => m
  | k + 1 => mu (sL m p k) 9 0 (nI (p + k + 1))
theorem sL_r (m : Nat → Nat → Int32) (p : Nat) {a : Nat} (ha : a ≠ 9) : ∀ k, sL m p k a = m a
  | 0 => rfl
  | k + 1 => by rw [sL, mu_r _ _ ha, sL_r m p ha k]
theorem sL_9 {m : Nat → Nat → Int32} {p : Nat} (h : m 9 0 = nI p) : ∀ k, sL m p k 9 0 = nI (p + k)
  | 0 => h
  | k + 1 => by rw [sL, mu_s]; rfl
def gL (m : Nat → Nat → Int32) (T : Nat → Int32) (s : Nat) : Nat → Nat → Nat → Int32
  | 0 => m
  | k + 1 => mu (if k < 4 then mu (gL m T s k) 12 0 (10 * gL m T s k 12 0 + T (s + k) - 48) else gL m T s k) 9 0 (nI (s + k + 1))
theorem gL_r (m : Nat → Nat → Int32) (T : Nat → Int32) (s : Nat) {a : Nat} (ha : a ≠ 9) (hb : a ≠ 12) : ∀ k, gL m T s k a = m a
  | 0 => rfl
  | k + 1 => by
    rw [gL, mu_r _ _ ha]
    split
    · rw [mu_r _ _ hb, gL_r m T s ha hb k]
    · exact gL_r m T s ha hb k
theorem gL_9 {m : Nat → Nat → Int32} {T : Nat → Int32} {s : Nat} (h : m 9 0 = nI s) : ∀ k, gL m T s k 9 0 = nI (s + k)
  | 0 => h
  | k + 1 => by rw [gL, mu_s]; rfl
def wN (T : Nat → Int32) (s : Nat) : Nat → Int64
  | 0 => 0
  | k + 1 => if k < 8 then 27 * wN T s k + (T (s + k)).toInt64 - 96 else -1
def gd (T : Nat → Int32) (s : Nat) (lt : Int32) : Nat → Int32
  | 0 => 1
  | k + 1 => if gd T s lt k = 0 then 0 else if bI (isL (T (s + k))) = lt then 1 else 0
def kd (lt g : Int32) (k : Nat) : Int32 := if g = 0 ∨ (lt = 0 ∧ 4 < k) then 1 else if lt = 0 then 3 else 2
abbrev goA (m : Nat → Nat → Int32) (p K : Nat) : Nat → Nat → Int32 := mu (sL m p K) 10 0 (nI (p + K))
abbrev goL (m : Nat → Nat → Int32) (p K : Nat) : Int32 := bI (isL (m 1 (p + K)))
def sGo (m : Nat → Nat → Int32) (w : Int64) (sz p : Nat) : (Nat → Nat → Int32) × Int64 :=
  let K := skc (m 1) sz 141 p
  if 120 < sz ∧ 120 ≤ p + K then (mu (mu (goA m p K) 10 0 120) 11 0 1, w)
  else if sz ≤ p + K then (mu (goA m p K) 11 0 0, w)
  else if ¬ isL (m 1 (p + K)) ∧ ¬ isDg (m 1 (p + K)) then (mu (mu (goA m p K) 11 0 (if m 1 (p + K) = 59 then 4 else 1)) 9 0 (nI (p + K + 1)), w)
  else (mu (gL (mu (goA m p K) 12 0 0) (m 1) (p + K) (rlen (m 1) sz 141 (p + K))) 11 0 (kd (goL m p K) (gd (m 1) (p + K) (goL m p K) (rlen (m 1) sz 141 (p + K))) (rlen (m 1) sz 141 (p + K))), wN (m 1) (p + K) (rlen (m 1) sz 141 (p + K)))

set_option maxHeartbeats 4000000 in
set_option maxRecDepth 100000 in
theorem cm_isDigit (l : Launch) (d : jD) (ws : va_W) (v : Int32) : jMi noE d l yX10_isDigit wsX10_isDigit ({ frames := 0, cells := 0, slots := 0, locals := 0 } : Room) 0 0 [.int v] ws (fun r u => r = bI (isDg v) ∧ u = ws) := by
  refine jMi.mk noE_k (by decide) rfl (Nat.le_of_ble_eq_true rfl) (fun X A C hQ => ?_)
  refine j_lvq (lv2 := [(0, .int v)]) rfl ?_
  refine j_iload_n C 0 dX10_isDigit_0 rfl rfl ?_
  refine j_bipush C 48 dX10_isDigit_1 (by decide) ?_
  refine j_icmp_lt C 16 dX10_isDigit_3 (by decide) (fun c3 => ?_) (fun c3 => ?_)
  · refine j_iconst C 0 dX10_isDigit_16 (by decide) ?_
    exact j_zret C hQ rfl dX10_isDigit_17 (⟨bI_f (fun h => absurd h.1 (i_nle.mpr c3)), rfl⟩)
  · refine j_iload_n C 0 dX10_isDigit_6 rfl rfl ?_
    refine j_bipush C 57 dX10_isDigit_7 (by decide) ?_
    refine j_icmp_gt C 16 dX10_isDigit_9 (by decide) (fun c9 => ?_) (fun c9 => ?_)
    · refine j_iconst C 0 dX10_isDigit_16 (by decide) ?_
      exact j_zret C hQ rfl dX10_isDigit_17 (⟨bI_f (fun h => absurd h.2 (i_nle.mpr c9)), rfl⟩)
    · refine j_iconst C 1 dX10_isDigit_12 (by decide) ?_
      refine j_goto C 17 dX10_isDigit_13 (by decide) ?_
      exact j_zret C hQ rfl dX10_isDigit_17 (⟨bI_t ⟨i_nlt.mp c3, i_nlt.mp c9⟩, rfl⟩)

set_option maxHeartbeats 4000000 in
set_option maxRecDepth 100000 in
theorem cm_isLetter (l : Launch) (d : jD) (ws : va_W) (v : Int32) : jMi noE d l yX10_isLetter wsX10_isLetter ({ frames := 0, cells := 0, slots := 0, locals := 0 } : Room) 0 0 [.int v] ws (fun r u => r = bI (isL v) ∧ u = ws) := by
  refine jMi.mk noE_k (by decide) rfl (Nat.le_of_ble_eq_true rfl) (fun X A C hQ => ?_)
  refine j_lvq (lv2 := [(0, .int v)]) rfl ?_
  refine j_iload_n C 0 dX10_isLetter_0 rfl rfl ?_
  refine j_bipush C 97 dX10_isLetter_1 (by decide) ?_
  refine j_icmp_lt C 16 dX10_isLetter_3 (by decide) (fun c3 => ?_) (fun c3 => ?_)
  · refine j_iconst C 0 dX10_isLetter_16 (by decide) ?_
    exact j_zret C hQ rfl dX10_isLetter_17 (⟨bI_f (fun h => absurd h.1 (i_nle.mpr c3)), rfl⟩)
  · refine j_iload_n C 0 dX10_isLetter_6 rfl rfl ?_
    refine j_bipush C 122 dX10_isLetter_7 (by decide) ?_
    refine j_icmp_gt C 16 dX10_isLetter_9 (by decide) (fun c9 => ?_) (fun c9 => ?_)
    · refine j_iconst C 0 dX10_isLetter_16 (by decide) ?_
      exact j_zret C hQ rfl dX10_isLetter_17 (⟨bI_f (fun h => absurd h.2 (i_nle.mpr c9)), rfl⟩)
    · refine j_iconst C 1 dX10_isLetter_12 (by decide) ?_
      refine j_goto C 17 dX10_isLetter_13 (by decide) ?_
      exact j_zret C hQ rfl dX10_isLetter_17 (⟨bI_t ⟨i_nlt.mp c3, i_nlt.mp c9⟩, rfl⟩)

set_option maxHeartbeats 4000000 in
set_option maxRecDepth 100000 in
theorem cm_byteAt (l : Launch) (d : jD) (o : Nat) (q : Nat → Nat) (m : Nat → Nat → Int32) (w : Int64) (sz p : Nat) (hz : m 8 0 = nI sz) (hsz : sz ≤ 140) (hp : p ≤ 140) : jMi noE d l yX10_byteAt wsX10_byteAt ({ frames := 0, cells := 0, slots := 0, locals := 0 } : Room) 0 0 [.ref o, .int (nI p)] (mW o q d m w) (fun r u => r = bA (m 1) sz p ∧ u = mW o q d m w) := by
  refine jMi.mk noE_k (by decide) rfl (Nat.le_of_ble_eq_true rfl) (fun X A C hQ => ?_)
  have hin : ∀ w ∈ u_ws RX10 TX10 37, w ∈ wsX10_byteAt := fun w h => List.mem_cons_of_mem _ (List.mem_append_right _ h)
  refine j_lvq (lv2 := [(0, .ref o), (1, .int (nI p))]) rfl ?_
  refine j_iload_n C 1 dX10_byteAt_0 rfl rfl ?_
  refine j_aload_n C 0 dX10_byteAt_1 rfl rfl ?_
  refine mg_size C hin (by decide +kernel) dX10_byteAt_2 ?_
  refine j_st (st2 := [.int (nI sz), .int (nI p)]) (congrArg (fun z => Value.int z :: _) hz) ?_
  refine j_icmp_ge C 17 dX10_byteAt_5 (by decide) (fun c5 => ?_) (fun c5 => ?_)
  · have c5 := (nI_leI (a := sz) (b := p) (by omega) (by omega)).mp c5
    refine j_iconst C 0 dX10_byteAt_17 (by decide) ?_
    exact j_iret C hQ dX10_byteAt_18 (⟨by rw [bA, if_neg (by omega)], rfl⟩)
  · have c5 : ¬ (sz ≤ p) := fun h => c5 ((nI_leI (a := sz) (b := p) (by omega) (by omega)).mpr h)
    refine j_aload_n C 0 dX10_byteAt_8 rfl rfl ?_
    refine mg_tape C hin (by decide +kernel) dX10_byteAt_9 ?_
    refine j_iload_n C 1 dX10_byteAt_12 rfl rfl ?_
    refine ml_tape C p rfl (by omega) dX10_byteAt_13 ?_
    refine j_goto C 18 dX10_byteAt_14 (by decide) ?_
    exact j_iret C hQ dX10_byteAt_18 (⟨by rw [bA, if_pos (by omega)], rfl⟩)

set_option maxHeartbeats 4000000 in
set_option maxRecDepth 100000 in
theorem cm_go (l : Launch) (d : jD) (o : Nat) (q : Nat → Nat) (m : Nat → Nat → Int32) (w : Int64) (sz p : Nat) (hz : m 8 0 = nI sz) (hsz : sz ≤ 140) (ht : m 9 0 = nI p) (hp : p ≤ sz) : jMv noE d l yX10_go wsX10_go ({ frames := 1, cells := 0, slots := 0, locals := 21 } : Room) 0 0 [.ref o] (mW o q d m w) (fun u => u = mW o q d (sGo m w sz p).1 (sGo m w sz p).2) := by
  refine jMv.mk noE_k (by decide) rfl (Nat.le_of_ble_eq_true rfl) (fun X A C hQ => ?_)
  have hin : ∀ w ∈ u_ws RX10 TX10 37, w ∈ wsX10_go := fun w h => List.mem_cons_of_mem _ (List.mem_append_right _ h)
  refine j_lvq (lv2 := [(0, .ref o)]) rfl ?_
  obtain ⟨K, hK⟩ : ∃ z, z = skc (m 1) sz 141 p := ⟨_, rfl⟩
  have t157 : p + K < sz → ¬ (120 < sz ∧ 120 ≤ p + K) → ¬ (¬ isL (m 1 (p + K)) ∧ ¬ isDg (m 1 (p + K))) → jJ X l d A 5 0 0 (mW o q d (goA m p K) w) [(0, .ref o), (1, .int (m 1 (p + K)))] 157 [] := by
    intro h1 h2 h3
    obtain ⟨N, hN⟩ : ∃ z, z = rlen (m 1) sz 141 (p + K) := ⟨_, rfl⟩
    have t315 : p + K + N ≤ sz → jJ X l d A 5 0 0 (mW o q d (gL (mu (goA m p K) 12 0 0) (m 1) (p + K) N) (wN (m 1) (p + K) N)) [(0, .ref o), (1, .int (m 1 (p + K))), (2, .int (goL m p K)), (3, .int (gd (m 1) (p + K) (goL m p K) N))] 315 [] := by
      intro hNs
      refine j_aload_n C 0 dX10_go_315 rfl rfl ?_
      refine j_iload_n C 3 dX10_go_316 rfl rfl ?_
      refine j_if_eq C 337 dX10_go_317 (by decide) (fun c317 => ?_) (fun c317 => ?_)
      · refine j_iconst C 1 dX10_go_337 (by decide) ?_
        refine j_goto C 350 dX10_go_338 (by decide) ?_
        refine mp_kind C hin (by decide +kernel) dX10_go_350 ?_
        exact j_vret C hQ dX10_go_353 (by rw [sGo]; simp only [← hK]; rw [if_neg h2, if_neg (by omega), if_neg h3, ← hN, show kd (goL m p K) (gd (m 1) (p + K) (goL m p K) N) N = 1 from if_pos (Or.inl c317)])
      · refine j_iload_n C 2 dX10_go_320 rfl rfl ?_
        refine j_if_ne C 341 dX10_go_321 (by decide) (fun c321 => ?_) (fun c321 => ?_)
        · refine j_iload_n C 2 dX10_go_341 rfl rfl ?_
          refine j_if_eq C 349 dX10_go_342 (by decide) (fun c342 => ?_) (fun c342 => ?_)
          · refine j_iconst C 3 dX10_go_349 (by decide) ?_
            refine mp_kind C hin (by decide +kernel) dX10_go_350 ?_
            exact j_vret C hQ dX10_go_353 (by rw [sGo]; simp only [← hK]; rw [if_neg h2, if_neg (by omega), if_neg h3, ← hN, show kd (goL m p K) (gd (m 1) (p + K) (goL m p K) N) N = 3 by rw [kd, if_neg (fun h => h.elim c317 (fun h => c321 h.1)), if_pos c342]])
          · refine j_iconst C 2 dX10_go_345 (by decide) ?_
            refine j_goto C 350 dX10_go_346 (by decide) ?_
            refine mp_kind C hin (by decide +kernel) dX10_go_350 ?_
            exact j_vret C hQ dX10_go_353 (by rw [sGo]; simp only [← hK]; rw [if_neg h2, if_neg (by omega), if_neg h3, ← hN, show kd (goL m p K) (gd (m 1) (p + K) (goL m p K) N) N = 2 by rw [kd, if_neg (fun h => h.elim c317 (fun h => c321 h.1)), if_neg c342]])
        · refine j_aload_n C 0 dX10_go_324 rfl rfl ?_
          refine mg_to C hin (by decide +kernel) dX10_go_325 ?_
          refine j_st (st2 := [.int (nI (p + K + N)), .ref o]) (congrArg (fun z => Value.int z :: _) (gL_9 (show mu (goA m p K) 12 0 0 9 0 = nI (p + K) by rw [mu_r _ _ (by decide), goA, mu_r _ _ (by decide)]; exact sL_9 ht K) N)) ?_
          refine j_aload_n C 0 dX10_go_328 rfl rfl ?_
          refine mg_from C hin (by decide +kernel) dX10_go_329 ?_
          refine j_st (st2 := [.int (nI (p + K)), .int (nI (p + K + N)), .ref o]) (congrArg (fun z => Value.int z :: _) (show gL (mu (goA m p K) 12 0 0) (m 1) (p + K) N 10 0 = nI (p + K) by rw [gL_r _ _ _ (by decide) (by decide), mu_r _ _ (by decide), goA, mu_s])) ?_
          refine j_isubN C (p + K + N) (p + K) (by omega) dX10_go_332 ?_
          refine j_iconst C 4 dX10_go_333 (by decide) ?_
          refine j_icmp_le C 341 dX10_go_334 (by decide) (fun c334 => ?_) (fun c334 => ?_)
          · have c334 := (nI_leI (a := p + K + N - (p + K)) (b := 4) (by omega) (by omega)).mp c334
            refine j_iload_n C 2 dX10_go_341 rfl rfl ?_
            refine j_if_eq C 349 dX10_go_342 (by decide) (fun c342 => ?_) (fun c342 => ?_)
            · refine j_iconst C 3 dX10_go_349 (by decide) ?_
              refine mp_kind C hin (by decide +kernel) dX10_go_350 ?_
              exact j_vret C hQ dX10_go_353 (by rw [sGo]; simp only [← hK]; rw [if_neg h2, if_neg (by omega), if_neg h3, ← hN, show kd (goL m p K) (gd (m 1) (p + K) (goL m p K) N) N = 3 by rw [kd, if_neg (fun h => h.elim c317 (fun h => by omega)), if_pos c342]])
            · refine j_iconst C 2 dX10_go_345 (by decide) ?_
              refine j_goto C 350 dX10_go_346 (by decide) ?_
              refine mp_kind C hin (by decide +kernel) dX10_go_350 ?_
              exact j_vret C hQ dX10_go_353 (by rw [sGo]; simp only [← hK]; rw [if_neg h2, if_neg (by omega), if_neg h3, ← hN, show kd (goL m p K) (gd (m 1) (p + K) (goL m p K) N) N = 2 by rw [kd, if_neg (fun h => h.elim c317 (fun h => by omega)), if_neg c342]])
          · have c334 : ¬ ((p + K + N - (p + K)) ≤ 4) := fun h => c334 ((nI_leI (a := p + K + N - (p + K)) (b := 4) (by omega) (by omega)).mpr h)
            refine j_iconst C 1 dX10_go_337 (by decide) ?_
            refine j_goto C 350 dX10_go_338 (by decide) ?_
            refine mp_kind C hin (by decide +kernel) dX10_go_350 ?_
            exact j_vret C hQ dX10_go_353 (by rw [sGo]; simp only [← hK]; rw [if_neg h2, if_neg (by omega), if_neg h3, ← hN, show kd (goL m p K) (gd (m 1) (p + K) (goL m p K) N) N = 1 from if_pos (Or.inr ⟨c321, by omega⟩)])
    have loop : ∀ fz k : Nat, p + K + k ≤ sz → sz - (p + K + k) < fz → k + rlen (m 1) sz (141 - k) (p + K + k) = N → jJ X l d A 5 0 0 (mW o q d (gL (mu (goA m p K) 12 0 0) (m 1) (p + K) k) (wN (m 1) (p + K) k)) [(0, .ref o), (1, .int (m 1 (p + K))), (2, .int (goL m p K)), (3, .int (gd (m 1) (p + K) (goL m p K) k))] 174 [] := by
      intro fz
      induction fz with
      | zero => intro k _ h; exact absurd h (Nat.not_lt_zero _)
      | succ fz ih =>
        intro k hi hn hr
        refine j_aload_n C 0 dX10_go_174 rfl rfl ?_
        refine j_aload_n C 0 dX10_go_175 rfl rfl ?_
        refine mg_to C hin (by decide +kernel) dX10_go_176 ?_
        refine j_st (st2 := [.int (nI (p + K + k)), .ref o]) (congrArg (fun z => Value.int z :: _) (gL_9 (show mu (goA m p K) 12 0 0 9 0 = nI (p + K) by rw [mu_r _ _ (by decide), goA, mu_r _ _ (by decide)]; exact sL_9 ht K) k)) ?_
        refine j_callV_i C 1 0 (cm_byteAt l d o q (gL (mu (goA m p K) 12 0 0) (m 1) (p + K) k) (wN (m 1) (p + K) k) sz (p + K + k) (show gL (mu (goA m p K) 12 0 0) (m 1) (p + K) k 8 0 = nI sz by rw [gL_r _ _ _ (by decide) (by decide), mu_r _ _ (by decide), goA, mu_r _ _ (by decide), sL_r m p (by decide)]; exact hz) hsz (by omega)) rfl rfl gX10_go_X10_byteAt rfl rfl rfl (by decide +kernel) ⟨(Nat.le_of_ble_eq_true rfl), (Nat.le_of_ble_eq_true rfl)⟩ ⟨(Nat.le_of_ble_eq_true rfl), (Nat.le_of_ble_eq_true rfl)⟩ rfl rfl (Nat.le_of_ble_eq_true rfl) dX10_go_179 (fun r179 u179 h179 => ?_)
        rw [(show gL (mu (goA m p K) 12 0 0) (m 1) (p + K) k 1 = m 1 by rw [gL_r _ _ _ (by decide) (by decide), mu_r _ _ (by decide), goA, mu_r _ _ (by decide), sL_r m p (by decide)])] at h179
        obtain ⟨rfl, rfl⟩ := h179
        refine j_callS_i C 1 (cm_isLetter l d _ (bA (m 1) sz (p + K + k))) gX10_go_X10_isLetter rfl rfl rfl (by decide +kernel) ⟨(Nat.le_of_ble_eq_true rfl), (Nat.le_of_ble_eq_true rfl)⟩ ⟨(Nat.le_of_ble_eq_true rfl), (Nat.le_of_ble_eq_true rfl)⟩ rfl rfl (Nat.le_of_ble_eq_true rfl) dX10_go_182 (fun r182 u182 h182 => ?_)
        obtain ⟨rfl, rfl⟩ := h182
        refine j_if_ne C 202 dX10_go_185 (by decide) (fun c185 => ?_) (fun c185 => ?_)
        · have c185 := bI_n0.mp c185
          have hLD : isLD (m 1) sz (p + K + k) := Or.inl c185
          have hlt := isLD_lt hLD
          have b232 : jJ X l d A 5 0 0 (mW o q d (gL (mu (goA m p K) 12 0 0) (m 1) (p + K) k) (wN (m 1) (p + K) k)) [(0, .ref o), (1, .int (m 1 (p + K))), (2, .int (goL m p K)), (3, .int (gd (m 1) (p + K) (goL m p K) (k + 1))), (4, .int (m 1 (p + K + k)))] 232 [] := by
            refine j_aload_n C 0 dX10_go_232 rfl rfl ?_
            refine j_aload_n C 0 dX10_go_233 rfl rfl ?_
            refine mg_to C hin (by decide +kernel) dX10_go_234 ?_
            refine j_st (st2 := [.int (nI (p + K + k)), .ref o]) (congrArg (fun z => Value.int z :: _) (gL_9 (show mu (goA m p K) 12 0 0 9 0 = nI (p + K) by rw [mu_r _ _ (by decide), goA, mu_r _ _ (by decide)]; exact sL_9 ht K) k)) ?_
            refine j_aload_n C 0 dX10_go_237 rfl rfl ?_
            refine mg_from C hin (by decide +kernel) dX10_go_238 ?_
            refine j_st (st2 := [.int (nI (p + K)), .int (nI (p + K + k)), .ref o]) (congrArg (fun z => Value.int z :: _) (show gL (mu (goA m p K) 12 0 0) (m 1) (p + K) k 10 0 = nI (p + K) by rw [gL_r _ _ _ (by decide) (by decide), mu_r _ _ (by decide), goA, mu_s])) ?_
            refine j_isubN C (p + K + k) (p + K) (by omega) dX10_go_241 ?_
            refine j_bipush C 8 dX10_go_242 (by decide) ?_
            refine j_icmp_ge C 266 dX10_go_244 (by decide) (fun c244 => ?_) (fun c244 => ?_)
            · have c244 := (nI_leI (a := 8) (b := p + K + k - (p + K)) (by omega) (by omega)).mp c244
              refine j_ldc2 C (-1) (by decide +kernel) dX10_go_266 ?_
              refine mp_word C hin (by decide +kernel) dX10_go_269 ?_
              refine j_aload_n C 0 dX10_go_272 rfl rfl ?_
              refine mg_to C hin (by decide +kernel) dX10_go_273 ?_
              refine j_st (st2 := [.int (nI (p + K + k))]) (congrArg (fun z => Value.int z :: _) (gL_9 (show mu (goA m p K) 12 0 0 9 0 = nI (p + K) by rw [mu_r _ _ (by decide), goA, mu_r _ _ (by decide)]; exact sL_9 ht K) k)) ?_
              refine j_aload_n C 0 dX10_go_276 rfl rfl ?_
              refine mg_from C hin (by decide +kernel) dX10_go_277 ?_
              refine j_st (st2 := [.int (nI (p + K)), .int (nI (p + K + k))]) (congrArg (fun z => Value.int z :: _) (show gL (mu (goA m p K) 12 0 0) (m 1) (p + K) k 10 0 = nI (p + K) by rw [gL_r _ _ _ (by decide) (by decide), mu_r _ _ (by decide), goA, mu_s])) ?_
              refine j_isubN C (p + K + k) (p + K) (by omega) dX10_go_280 ?_
              refine j_iconst C 4 dX10_go_281 (by decide) ?_
              refine j_icmp_ge C 302 dX10_go_282 (by decide) (fun c282 => ?_) (fun c282 => ?_)
              · have c282 := (nI_leI (a := 4) (b := p + K + k - (p + K)) (by omega) (by omega)).mp c282
                refine j_aload_n C 0 dX10_go_302 rfl rfl ?_
                refine j_dup C dX10_go_303 rfl ?_
                refine mg_to C hin (by decide +kernel) dX10_go_304 ?_
                refine j_st (st2 := [.int (nI (p + K + k)), .ref o]) (congrArg (fun z => Value.int z :: _) (gL_9 (show mu (goA m p K) 12 0 0 9 0 = nI (p + K) by rw [mu_r _ _ (by decide), goA, mu_r _ _ (by decide)]; exact sL_9 ht K) k)) ?_
                refine j_iconst C 1 dX10_go_307 (by decide) ?_
                refine j_iaddN C (p + K + k) 1 dX10_go_308 ?_
                refine mp_to C hin (by decide +kernel) dX10_go_309 ?_
                refine j_goto C 174 dX10_go_312 (by decide) ?_
                refine j_lv (lv' := [(0, .ref o), (1, .int (m 1 (p + K))), (2, .int (goL m p K)), (3, .int (gd (m 1) (p + K) (goL m p K) (k + 1)))]) [0, 1, 2, 3] rfl ?_
                refine j_ws (ws2 := mW o q d (gL (mu (goA m p K) 12 0 0) (m 1) (p + K) (k + 1)) (wN (m 1) (p + K) (k + 1))) (by rw [gL, if_neg (show ¬ k < 4 by omega), wN, if_neg (show ¬ k < 8 by omega)]) ?_
                exact ih (k + 1) (by omega) (by omega) (by rw [← hr]; obtain ⟨f2, hf2⟩ : ∃ f2, 141 - k = f2 + 1 := ⟨140 - k, by omega⟩; rw [hf2, rlen, if_pos hLD, show 141 - (k + 1) = f2 by omega, Nat.add_assoc (p + K) k 1]; omega)
              · have c282 : ¬ (4 ≤ (p + K + k - (p + K))) := fun h => c282 ((nI_leI (a := 4) (b := p + K + k - (p + K)) (by omega) (by omega)).mpr h)
                refine j_aload_n C 0 dX10_go_285 rfl rfl ?_
                refine j_bipush C 10 dX10_go_286 (by decide) ?_
                refine j_aload_n C 0 dX10_go_288 rfl rfl ?_
                refine mg_number C hin (by decide +kernel) dX10_go_289 ?_
                refine j_imul C dX10_go_292 ?_
                refine j_iload C 4 dX10_go_293 rfl ?_
                refine j_iadd C dX10_go_295 ?_
                refine j_bipush C 48 dX10_go_296 (by decide) ?_
                refine j_isub C dX10_go_298 ?_
                refine mp_number C hin (by decide +kernel) dX10_go_299 ?_
                refine j_aload_n C 0 dX10_go_302 rfl rfl ?_
                refine j_dup C dX10_go_303 rfl ?_
                refine mg_to C hin (by decide +kernel) dX10_go_304 ?_
                refine j_st (st2 := [.int (nI (p + K + k)), .ref o]) (congrArg (fun z => Value.int z :: _) (gL_9 (show mu (goA m p K) 12 0 0 9 0 = nI (p + K) by rw [mu_r _ _ (by decide), goA, mu_r _ _ (by decide)]; exact sL_9 ht K) k)) ?_
                refine j_iconst C 1 dX10_go_307 (by decide) ?_
                refine j_iaddN C (p + K + k) 1 dX10_go_308 ?_
                refine mp_to C hin (by decide +kernel) dX10_go_309 ?_
                refine j_goto C 174 dX10_go_312 (by decide) ?_
                refine j_lv (lv' := [(0, .ref o), (1, .int (m 1 (p + K))), (2, .int (goL m p K)), (3, .int (gd (m 1) (p + K) (goL m p K) (k + 1)))]) [0, 1, 2, 3] rfl ?_
                refine j_ws (ws2 := mW o q d (gL (mu (goA m p K) 12 0 0) (m 1) (p + K) (k + 1)) (wN (m 1) (p + K) (k + 1))) (by rw [gL, if_pos (show k < 4 by omega), wN, if_neg (show ¬ k < 8 by omega)]) ?_
                exact ih (k + 1) (by omega) (by omega) (by rw [← hr]; obtain ⟨f2, hf2⟩ : ∃ f2, 141 - k = f2 + 1 := ⟨140 - k, by omega⟩; rw [hf2, rlen, if_pos hLD, show 141 - (k + 1) = f2 by omega, Nat.add_assoc (p + K) k 1]; omega)
            · have c244 : ¬ (8 ≤ (p + K + k - (p + K))) := fun h => c244 ((nI_leI (a := 8) (b := p + K + k - (p + K)) (by omega) (by omega)).mpr h)
              refine j_ldc2 C (27) (by decide +kernel) dX10_go_247 ?_
              refine j_aload_n C 0 dX10_go_250 rfl rfl ?_
              refine mg_word C hin (by decide +kernel) dX10_go_251 ?_
              refine j_lmul C dX10_go_254 ?_
              refine j_iload C 4 dX10_go_255 rfl ?_
              refine j_i2l C dX10_go_257 ?_
              refine j_ladd C dX10_go_258 ?_
              refine j_ldc2 C (96) (by decide +kernel) dX10_go_259 ?_
              refine j_lsub C dX10_go_262 ?_
              refine j_goto C 269 dX10_go_263 (by decide) ?_
              refine mp_word C hin (by decide +kernel) dX10_go_269 ?_
              refine j_aload_n C 0 dX10_go_272 rfl rfl ?_
              refine mg_to C hin (by decide +kernel) dX10_go_273 ?_
              refine j_st (st2 := [.int (nI (p + K + k))]) (congrArg (fun z => Value.int z :: _) (gL_9 (show mu (goA m p K) 12 0 0 9 0 = nI (p + K) by rw [mu_r _ _ (by decide), goA, mu_r _ _ (by decide)]; exact sL_9 ht K) k)) ?_
              refine j_aload_n C 0 dX10_go_276 rfl rfl ?_
              refine mg_from C hin (by decide +kernel) dX10_go_277 ?_
              refine j_st (st2 := [.int (nI (p + K)), .int (nI (p + K + k))]) (congrArg (fun z => Value.int z :: _) (show gL (mu (goA m p K) 12 0 0) (m 1) (p + K) k 10 0 = nI (p + K) by rw [gL_r _ _ _ (by decide) (by decide), mu_r _ _ (by decide), goA, mu_s])) ?_
              refine j_isubN C (p + K + k) (p + K) (by omega) dX10_go_280 ?_
              refine j_iconst C 4 dX10_go_281 (by decide) ?_
              refine j_icmp_ge C 302 dX10_go_282 (by decide) (fun c282 => ?_) (fun c282 => ?_)
              · have c282 := (nI_leI (a := 4) (b := p + K + k - (p + K)) (by omega) (by omega)).mp c282
                refine j_aload_n C 0 dX10_go_302 rfl rfl ?_
                refine j_dup C dX10_go_303 rfl ?_
                refine mg_to C hin (by decide +kernel) dX10_go_304 ?_
                refine j_st (st2 := [.int (nI (p + K + k)), .ref o]) (congrArg (fun z => Value.int z :: _) (gL_9 (show mu (goA m p K) 12 0 0 9 0 = nI (p + K) by rw [mu_r _ _ (by decide), goA, mu_r _ _ (by decide)]; exact sL_9 ht K) k)) ?_
                refine j_iconst C 1 dX10_go_307 (by decide) ?_
                refine j_iaddN C (p + K + k) 1 dX10_go_308 ?_
                refine mp_to C hin (by decide +kernel) dX10_go_309 ?_
                refine j_goto C 174 dX10_go_312 (by decide) ?_
                refine j_lv (lv' := [(0, .ref o), (1, .int (m 1 (p + K))), (2, .int (goL m p K)), (3, .int (gd (m 1) (p + K) (goL m p K) (k + 1)))]) [0, 1, 2, 3] rfl ?_
                refine j_ws (ws2 := mW o q d (gL (mu (goA m p K) 12 0 0) (m 1) (p + K) (k + 1)) (wN (m 1) (p + K) (k + 1))) (by rw [gL, if_neg (show ¬ k < 4 by omega), wN, if_pos (show k < 8 by omega)]) ?_
                exact ih (k + 1) (by omega) (by omega) (by rw [← hr]; obtain ⟨f2, hf2⟩ : ∃ f2, 141 - k = f2 + 1 := ⟨140 - k, by omega⟩; rw [hf2, rlen, if_pos hLD, show 141 - (k + 1) = f2 by omega, Nat.add_assoc (p + K) k 1]; omega)
              · have c282 : ¬ (4 ≤ (p + K + k - (p + K))) := fun h => c282 ((nI_leI (a := 4) (b := p + K + k - (p + K)) (by omega) (by omega)).mpr h)
                refine j_aload_n C 0 dX10_go_285 rfl rfl ?_
                refine j_bipush C 10 dX10_go_286 (by decide) ?_
                refine j_aload_n C 0 dX10_go_288 rfl rfl ?_
                refine mg_number C hin (by decide +kernel) dX10_go_289 ?_
                refine j_imul C dX10_go_292 ?_
                refine j_iload C 4 dX10_go_293 rfl ?_
                refine j_iadd C dX10_go_295 ?_
                refine j_bipush C 48 dX10_go_296 (by decide) ?_
                refine j_isub C dX10_go_298 ?_
                refine mp_number C hin (by decide +kernel) dX10_go_299 ?_
                refine j_aload_n C 0 dX10_go_302 rfl rfl ?_
                refine j_dup C dX10_go_303 rfl ?_
                refine mg_to C hin (by decide +kernel) dX10_go_304 ?_
                refine j_st (st2 := [.int (nI (p + K + k)), .ref o]) (congrArg (fun z => Value.int z :: _) (gL_9 (show mu (goA m p K) 12 0 0 9 0 = nI (p + K) by rw [mu_r _ _ (by decide), goA, mu_r _ _ (by decide)]; exact sL_9 ht K) k)) ?_
                refine j_iconst C 1 dX10_go_307 (by decide) ?_
                refine j_iaddN C (p + K + k) 1 dX10_go_308 ?_
                refine mp_to C hin (by decide +kernel) dX10_go_309 ?_
                refine j_goto C 174 dX10_go_312 (by decide) ?_
                refine j_lv (lv' := [(0, .ref o), (1, .int (m 1 (p + K))), (2, .int (goL m p K)), (3, .int (gd (m 1) (p + K) (goL m p K) (k + 1)))]) [0, 1, 2, 3] rfl ?_
                refine j_ws (ws2 := mW o q d (gL (mu (goA m p K) 12 0 0) (m 1) (p + K) (k + 1)) (wN (m 1) (p + K) (k + 1))) (by rw [gL, if_pos (show k < 4 by omega), wN, if_pos (show k < 8 by omega)]) ?_
                exact ih (k + 1) (by omega) (by omega) (by rw [← hr]; obtain ⟨f2, hf2⟩ : ∃ f2, 141 - k = f2 + 1 := ⟨140 - k, by omega⟩; rw [hf2, rlen, if_pos hLD, show 141 - (k + 1) = f2 by omega, Nat.add_assoc (p + K) k 1]; omega)
          refine j_aload_n C 0 dX10_go_202 rfl rfl ?_
          refine mg_tape C hin (by decide +kernel) dX10_go_203 ?_
          refine j_aload_n C 0 dX10_go_206 rfl rfl ?_
          refine mg_to C hin (by decide +kernel) dX10_go_207 ?_
          refine j_st (st2 := [.int (nI (p + K + k)), .ref (q 1)]) (congrArg (fun z => Value.int z :: _) (gL_9 (show mu (goA m p K) 12 0 0 9 0 = nI (p + K) by rw [mu_r _ _ (by decide), goA, mu_r _ _ (by decide)]; exact sL_9 ht K) k)) ?_
          refine ml_tape C (p + K + k) rfl (by omega) dX10_go_210 ?_
          refine j_st (st2 := [.int (m 1 (p + K + k))]) (congrArg (fun z => Value.int z :: _) (congrFun (show gL (mu (goA m p K) 12 0 0) (m 1) (p + K) k 1 = m 1 by rw [gL_r _ _ _ (by decide) (by decide), mu_r _ _ (by decide), goA, mu_r _ _ (by decide), sL_r m p (by decide)]) (p + K + k))) ?_
          refine j_istore C [(0, .ref o), (1, .int (m 1 (p + K))), (2, .int (goL m p K)), (3, .int (gd (m 1) (p + K) (goL m p K) k)), (4, .int (m 1 (p + K + k)))] [1, 2, 3, 4, 0] dX10_go_211 (by decide) rfl ?_
          refine j_iload_n C 3 dX10_go_213 rfl rfl ?_
          refine j_if_eq C 230 dX10_go_214 (by decide) (fun c214 => ?_) (fun c214 => ?_)
          · refine j_iconst C 0 dX10_go_230 (by decide) ?_
            refine j_istore_n C [(0, .ref o), (1, .int (m 1 (p + K))), (2, .int (goL m p K)), (3, .int 0), (4, .int (m 1 (p + K + k)))] [1, 2, 3, 0, 4] dX10_go_231 rfl (by decide) rfl ?_
            refine j_lv (lv' := [(0, .ref o), (1, .int (m 1 (p + K))), (2, .int (goL m p K)), (3, .int 0), (4, .int (m 1 (p + K + k)))]) [0, 1, 2, 3, 4] rfl ?_
            refine j_lvq (lv2 := [(0, .ref o), (1, .int (m 1 (p + K))), (2, .int (goL m p K)), (3, .int (gd (m 1) (p + K) (goL m p K) (k + 1))), (4, .int (m 1 (p + K + k)))]) (by rw [(show gd (m 1) (p + K) (goL m p K) (k + 1) = 0 by rw [gd, if_pos c214])]) ?_
            exact b232
          · refine j_iload C 4 dX10_go_217 rfl ?_
            refine j_callS_i C 1 (cm_isLetter l d _ (m 1 (p + K + k))) gX10_go_X10_isLetter rfl rfl rfl (by decide +kernel) ⟨(Nat.le_of_ble_eq_true rfl), (Nat.le_of_ble_eq_true rfl)⟩ ⟨(Nat.le_of_ble_eq_true rfl), (Nat.le_of_ble_eq_true rfl)⟩ rfl rfl (Nat.le_of_ble_eq_true rfl) dX10_go_219 (fun r219 u219 h219 => ?_)
            obtain ⟨rfl, rfl⟩ := h219
            refine j_iload_n C 2 dX10_go_222 rfl rfl ?_
            refine j_icmp_ne C 230 dX10_go_223 (by decide) (fun c223 => ?_) (fun c223 => ?_)
            · refine j_iconst C 0 dX10_go_230 (by decide) ?_
              refine j_istore_n C [(0, .ref o), (1, .int (m 1 (p + K))), (2, .int (goL m p K)), (3, .int 0), (4, .int (m 1 (p + K + k)))] [1, 2, 3, 0, 4] dX10_go_231 rfl (by decide) rfl ?_
              refine j_lv (lv' := [(0, .ref o), (1, .int (m 1 (p + K))), (2, .int (goL m p K)), (3, .int 0), (4, .int (m 1 (p + K + k)))]) [0, 1, 2, 3, 4] rfl ?_
              refine j_lvq (lv2 := [(0, .ref o), (1, .int (m 1 (p + K))), (2, .int (goL m p K)), (3, .int (gd (m 1) (p + K) (goL m p K) (k + 1))), (4, .int (m 1 (p + K + k)))]) (by rw [(show gd (m 1) (p + K) (goL m p K) (k + 1) = 0 by rw [gd, if_neg c214, if_neg c223])]) ?_
              exact b232
            · refine j_iconst C 1 dX10_go_226 (by decide) ?_
              refine j_goto C 231 dX10_go_227 (by decide) ?_
              refine j_istore_n C [(0, .ref o), (1, .int (m 1 (p + K))), (2, .int (goL m p K)), (3, .int 1), (4, .int (m 1 (p + K + k)))] [1, 2, 3, 0, 4] dX10_go_231 rfl (by decide) rfl ?_
              refine j_lv (lv' := [(0, .ref o), (1, .int (m 1 (p + K))), (2, .int (goL m p K)), (3, .int 1), (4, .int (m 1 (p + K + k)))]) [0, 1, 2, 3, 4] rfl ?_
              refine j_lvq (lv2 := [(0, .ref o), (1, .int (m 1 (p + K))), (2, .int (goL m p K)), (3, .int (gd (m 1) (p + K) (goL m p K) (k + 1))), (4, .int (m 1 (p + K + k)))]) (by rw [(show gd (m 1) (p + K) (goL m p K) (k + 1) = 1 by rw [gd, if_neg c214, if_pos c223])]) ?_
              exact b232
        · have c185 := bI_0.mp c185
          refine j_aload_n C 0 dX10_go_188 rfl rfl ?_
          refine j_aload_n C 0 dX10_go_189 rfl rfl ?_
          refine mg_to C hin (by decide +kernel) dX10_go_190 ?_
          refine j_st (st2 := [.int (nI (p + K + k)), .ref o]) (congrArg (fun z => Value.int z :: _) (gL_9 (show mu (goA m p K) 12 0 0 9 0 = nI (p + K) by rw [mu_r _ _ (by decide), goA, mu_r _ _ (by decide)]; exact sL_9 ht K) k)) ?_
          refine j_callV_i C 1 0 (cm_byteAt l d o q (gL (mu (goA m p K) 12 0 0) (m 1) (p + K) k) (wN (m 1) (p + K) k) sz (p + K + k) (show gL (mu (goA m p K) 12 0 0) (m 1) (p + K) k 8 0 = nI sz by rw [gL_r _ _ _ (by decide) (by decide), mu_r _ _ (by decide), goA, mu_r _ _ (by decide), sL_r m p (by decide)]; exact hz) hsz (by omega)) rfl rfl gX10_go_X10_byteAt rfl rfl rfl (by decide +kernel) ⟨(Nat.le_of_ble_eq_true rfl), (Nat.le_of_ble_eq_true rfl)⟩ ⟨(Nat.le_of_ble_eq_true rfl), (Nat.le_of_ble_eq_true rfl)⟩ rfl rfl (Nat.le_of_ble_eq_true rfl) dX10_go_193 (fun r193 u193 h193 => ?_)
          rw [(show gL (mu (goA m p K) 12 0 0) (m 1) (p + K) k 1 = m 1 by rw [gL_r _ _ _ (by decide) (by decide), mu_r _ _ (by decide), goA, mu_r _ _ (by decide), sL_r m p (by decide)])] at h193
          obtain ⟨rfl, rfl⟩ := h193
          refine j_callS_i C 1 (cm_isDigit l d _ (bA (m 1) sz (p + K + k))) gX10_go_X10_isDigit rfl rfl rfl (by decide +kernel) ⟨(Nat.le_of_ble_eq_true rfl), (Nat.le_of_ble_eq_true rfl)⟩ ⟨(Nat.le_of_ble_eq_true rfl), (Nat.le_of_ble_eq_true rfl)⟩ rfl rfl (Nat.le_of_ble_eq_true rfl) dX10_go_196 (fun r196 u196 h196 => ?_)
          obtain ⟨rfl, rfl⟩ := h196
          refine j_if_eq C 315 dX10_go_199 (by decide) (fun c199 => ?_) (fun c199 => ?_)
          · have c199 := bI_0.mp c199
            have hk0 : k = N := by
              obtain ⟨f2, hf2⟩ : ∃ f2, 141 - k = f2 + 1 := ⟨140 - k, by omega⟩
              rw [hf2, rlen, if_neg (fun h => h.elim c185 c199)] at hr
              exact hr
            subst hk0
            exact t315 (by omega)
          · have c199 := bI_n0.mp c199
            have hLD : isLD (m 1) sz (p + K + k) := Or.inr c199
            have hlt := isLD_lt hLD
            have b232 : jJ X l d A 5 0 0 (mW o q d (gL (mu (goA m p K) 12 0 0) (m 1) (p + K) k) (wN (m 1) (p + K) k)) [(0, .ref o), (1, .int (m 1 (p + K))), (2, .int (goL m p K)), (3, .int (gd (m 1) (p + K) (goL m p K) (k + 1))), (4, .int (m 1 (p + K + k)))] 232 [] := by
              refine j_aload_n C 0 dX10_go_232 rfl rfl ?_
              refine j_aload_n C 0 dX10_go_233 rfl rfl ?_
              refine mg_to C hin (by decide +kernel) dX10_go_234 ?_
              refine j_st (st2 := [.int (nI (p + K + k)), .ref o]) (congrArg (fun z => Value.int z :: _) (gL_9 (show mu (goA m p K) 12 0 0 9 0 = nI (p + K) by rw [mu_r _ _ (by decide), goA, mu_r _ _ (by decide)]; exact sL_9 ht K) k)) ?_
              refine j_aload_n C 0 dX10_go_237 rfl rfl ?_
              refine mg_from C hin (by decide +kernel) dX10_go_238 ?_
              refine j_st (st2 := [.int (nI (p + K)), .int (nI (p + K + k)), .ref o]) (congrArg (fun z => Value.int z :: _) (show gL (mu (goA m p K) 12 0 0) (m 1) (p + K) k 10 0 = nI (p + K) by rw [gL_r _ _ _ (by decide) (by decide), mu_r _ _ (by decide), goA, mu_s])) ?_
              refine j_isubN C (p + K + k) (p + K) (by omega) dX10_go_241 ?_
              refine j_bipush C 8 dX10_go_242 (by decide) ?_
              refine j_icmp_ge C 266 dX10_go_244 (by decide) (fun c244 => ?_) (fun c244 => ?_)
              · have c244 := (nI_leI (a := 8) (b := p + K + k - (p + K)) (by omega) (by omega)).mp c244
                refine j_ldc2 C (-1) (by decide +kernel) dX10_go_266 ?_
                refine mp_word C hin (by decide +kernel) dX10_go_269 ?_
                refine j_aload_n C 0 dX10_go_272 rfl rfl ?_
                refine mg_to C hin (by decide +kernel) dX10_go_273 ?_
                refine j_st (st2 := [.int (nI (p + K + k))]) (congrArg (fun z => Value.int z :: _) (gL_9 (show mu (goA m p K) 12 0 0 9 0 = nI (p + K) by rw [mu_r _ _ (by decide), goA, mu_r _ _ (by decide)]; exact sL_9 ht K) k)) ?_
                refine j_aload_n C 0 dX10_go_276 rfl rfl ?_
                refine mg_from C hin (by decide +kernel) dX10_go_277 ?_
                refine j_st (st2 := [.int (nI (p + K)), .int (nI (p + K + k))]) (congrArg (fun z => Value.int z :: _) (show gL (mu (goA m p K) 12 0 0) (m 1) (p + K) k 10 0 = nI (p + K) by rw [gL_r _ _ _ (by decide) (by decide), mu_r _ _ (by decide), goA, mu_s])) ?_
                refine j_isubN C (p + K + k) (p + K) (by omega) dX10_go_280 ?_
                refine j_iconst C 4 dX10_go_281 (by decide) ?_
                refine j_icmp_ge C 302 dX10_go_282 (by decide) (fun c282 => ?_) (fun c282 => ?_)
                · have c282 := (nI_leI (a := 4) (b := p + K + k - (p + K)) (by omega) (by omega)).mp c282
                  refine j_aload_n C 0 dX10_go_302 rfl rfl ?_
                  refine j_dup C dX10_go_303 rfl ?_
                  refine mg_to C hin (by decide +kernel) dX10_go_304 ?_
                  refine j_st (st2 := [.int (nI (p + K + k)), .ref o]) (congrArg (fun z => Value.int z :: _) (gL_9 (show mu (goA m p K) 12 0 0 9 0 = nI (p + K) by rw [mu_r _ _ (by decide), goA, mu_r _ _ (by decide)]; exact sL_9 ht K) k)) ?_
                  refine j_iconst C 1 dX10_go_307 (by decide) ?_
                  refine j_iaddN C (p + K + k) 1 dX10_go_308 ?_
                  refine mp_to C hin (by decide +kernel) dX10_go_309 ?_
                  refine j_goto C 174 dX10_go_312 (by decide) ?_
                  refine j_lv (lv' := [(0, .ref o), (1, .int (m 1 (p + K))), (2, .int (goL m p K)), (3, .int (gd (m 1) (p + K) (goL m p K) (k + 1)))]) [0, 1, 2, 3] rfl ?_
                  refine j_ws (ws2 := mW o q d (gL (mu (goA m p K) 12 0 0) (m 1) (p + K) (k + 1)) (wN (m 1) (p + K) (k + 1))) (by rw [gL, if_neg (show ¬ k < 4 by omega), wN, if_neg (show ¬ k < 8 by omega)]) ?_
                  exact ih (k + 1) (by omega) (by omega) (by rw [← hr]; obtain ⟨f2, hf2⟩ : ∃ f2, 141 - k = f2 + 1 := ⟨140 - k, by omega⟩; rw [hf2, rlen, if_pos hLD, show 141 - (k + 1) = f2 by omega, Nat.add_assoc (p + K) k 1]; omega)
                · have c282 : ¬ (4 ≤ (p + K + k - (p + K))) := fun h => c282 ((nI_leI (a := 4) (b := p + K + k - (p + K)) (by omega) (by omega)).mpr h)
                  refine j_aload_n C 0 dX10_go_285 rfl rfl ?_
                  refine j_bipush C 10 dX10_go_286 (by decide) ?_
                  refine j_aload_n C 0 dX10_go_288 rfl rfl ?_
                  refine mg_number C hin (by decide +kernel) dX10_go_289 ?_
                  refine j_imul C dX10_go_292 ?_
                  refine j_iload C 4 dX10_go_293 rfl ?_
                  refine j_iadd C dX10_go_295 ?_
                  refine j_bipush C 48 dX10_go_296 (by decide) ?_
                  refine j_isub C dX10_go_298 ?_
                  refine mp_number C hin (by decide +kernel) dX10_go_299 ?_
                  refine j_aload_n C 0 dX10_go_302 rfl rfl ?_
                  refine j_dup C dX10_go_303 rfl ?_
                  refine mg_to C hin (by decide +kernel) dX10_go_304 ?_
                  refine j_st (st2 := [.int (nI (p + K + k)), .ref o]) (congrArg (fun z => Value.int z :: _) (gL_9 (show mu (goA m p K) 12 0 0 9 0 = nI (p + K) by rw [mu_r _ _ (by decide), goA, mu_r _ _ (by decide)]; exact sL_9 ht K) k)) ?_
                  refine j_iconst C 1 dX10_go_307 (by decide) ?_
                  refine j_iaddN C (p + K + k) 1 dX10_go_308 ?_
                  refine mp_to C hin (by decide +kernel) dX10_go_309 ?_
                  refine j_goto C 174 dX10_go_312 (by decide) ?_
                  refine j_lv (lv' := [(0, .ref o), (1, .int (m 1 (p + K))), (2, .int (goL m p K)), (3, .int (gd (m 1) (p + K) (goL m p K) (k + 1)))]) [0, 1, 2, 3] rfl ?_
                  refine j_ws (ws2 := mW o q d (gL (mu (goA m p K) 12 0 0) (m 1) (p + K) (k + 1)) (wN (m 1) (p + K) (k + 1))) (by rw [gL, if_pos (show k < 4 by omega), wN, if_neg (show ¬ k < 8 by omega)]) ?_
                  exact ih (k + 1) (by omega) (by omega) (by rw [← hr]; obtain ⟨f2, hf2⟩ : ∃ f2, 141 - k = f2 + 1 := ⟨140 - k, by omega⟩; rw [hf2, rlen, if_pos hLD, show 141 - (k + 1) = f2 by omega, Nat.add_assoc (p + K) k 1]; omega)
              · have c244 : ¬ (8 ≤ (p + K + k - (p + K))) := fun h => c244 ((nI_leI (a := 8) (b := p + K + k - (p + K)) (by omega) (by omega)).mpr h)
                refine j_ldc2 C (27) (by decide +kernel) dX10_go_247 ?_
                refine j_aload_n C 0 dX10_go_250 rfl rfl ?_
                refine mg_word C hin (by decide +kernel) dX10_go_251 ?_
                refine j_lmul C dX10_go_254 ?_
                refine j_iload C 4 dX10_go_255 rfl ?_
                refine j_i2l C dX10_go_257 ?_
                refine j_ladd C dX10_go_258 ?_
                refine j_ldc2 C (96) (by decide +kernel) dX10_go_259 ?_
                refine j_lsub C dX10_go_262 ?_
                refine j_goto C 269 dX10_go_263 (by decide) ?_
                refine mp_word C hin (by decide +kernel) dX10_go_269 ?_
                refine j_aload_n C 0 dX10_go_272 rfl rfl ?_
                refine mg_to C hin (by decide +kernel) dX10_go_273 ?_
                refine j_st (st2 := [.int (nI (p + K + k))]) (congrArg (fun z => Value.int z :: _) (gL_9 (show mu (goA m p K) 12 0 0 9 0 = nI (p + K) by rw [mu_r _ _ (by decide), goA, mu_r _ _ (by decide)]; exact sL_9 ht K) k)) ?_
                refine j_aload_n C 0 dX10_go_276 rfl rfl ?_
                refine mg_from C hin (by decide +kernel) dX10_go_277 ?_
                refine j_st (st2 := [.int (nI (p + K)), .int (nI (p + K + k))]) (congrArg (fun z => Value.int z :: _) (show gL (mu (goA m p K) 12 0 0) (m 1) (p + K) k 10 0 = nI (p + K) by rw [gL_r _ _ _ (by decide) (by decide), mu_r _ _ (by decide), goA, mu_s])) ?_
                refine j_isubN C (p + K + k) (p + K) (by omega) dX10_go_280 ?_
                refine j_iconst C 4 dX10_go_281 (by decide) ?_
                refine j_icmp_ge C 302 dX10_go_282 (by decide) (fun c282 => ?_) (fun c282 => ?_)
                · have c282 := (nI_leI (a := 4) (b := p + K + k - (p + K)) (by omega) (by omega)).mp c282
                  refine j_aload_n C 0 dX10_go_302 rfl rfl ?_
                  refine j_dup C dX10_go_303 rfl ?_
                  refine mg_to C hin (by decide +kernel) dX10_go_304 ?_
                  refine j_st (st2 := [.int (nI (p + K + k)), .ref o]) (congrArg (fun z => Value.int z :: _) (gL_9 (show mu (goA m p K) 12 0 0 9 0 = nI (p + K) by rw [mu_r _ _ (by decide), goA, mu_r _ _ (by decide)]; exact sL_9 ht K) k)) ?_
                  refine j_iconst C 1 dX10_go_307 (by decide) ?_
                  refine j_iaddN C (p + K + k) 1 dX10_go_308 ?_
                  refine mp_to C hin (by decide +kernel) dX10_go_309 ?_
                  refine j_goto C 174 dX10_go_312 (by decide) ?_
                  refine j_lv (lv' := [(0, .ref o), (1, .int (m 1 (p + K))), (2, .int (goL m p K)), (3, .int (gd (m 1) (p + K) (goL m p K) (k + 1)))]) [0, 1, 2, 3] rfl ?_
                  refine j_ws (ws2 := mW o q d (gL (mu (goA m p K) 12 0 0) (m 1) (p + K) (k + 1)) (wN (m 1) (p + K) (k + 1))) (by rw [gL, if_neg (show ¬ k < 4 by omega), wN, if_pos (show k < 8 by omega)]) ?_
                  exact ih (k + 1) (by omega) (by omega) (by rw [← hr]; obtain ⟨f2, hf2⟩ : ∃ f2, 141 - k = f2 + 1 := ⟨140 - k, by omega⟩; rw [hf2, rlen, if_pos hLD, show 141 - (k + 1) = f2 by omega, Nat.add_assoc (p + K) k 1]; omega)
                · have c282 : ¬ (4 ≤ (p + K + k - (p + K))) := fun h => c282 ((nI_leI (a := 4) (b := p + K + k - (p + K)) (by omega) (by omega)).mpr h)
                  refine j_aload_n C 0 dX10_go_285 rfl rfl ?_
                  refine j_bipush C 10 dX10_go_286 (by decide) ?_
                  refine j_aload_n C 0 dX10_go_288 rfl rfl ?_
                  refine mg_number C hin (by decide +kernel) dX10_go_289 ?_
                  refine j_imul C dX10_go_292 ?_
                  refine j_iload C 4 dX10_go_293 rfl ?_
                  refine j_iadd C dX10_go_295 ?_
                  refine j_bipush C 48 dX10_go_296 (by decide) ?_
                  refine j_isub C dX10_go_298 ?_
                  refine mp_number C hin (by decide +kernel) dX10_go_299 ?_
                  refine j_aload_n C 0 dX10_go_302 rfl rfl ?_
                  refine j_dup C dX10_go_303 rfl ?_
                  refine mg_to C hin (by decide +kernel) dX10_go_304 ?_
                  refine j_st (st2 := [.int (nI (p + K + k)), .ref o]) (congrArg (fun z => Value.int z :: _) (gL_9 (show mu (goA m p K) 12 0 0 9 0 = nI (p + K) by rw [mu_r _ _ (by decide), goA, mu_r _ _ (by decide)]; exact sL_9 ht K) k)) ?_
                  refine j_iconst C 1 dX10_go_307 (by decide) ?_
                  refine j_iaddN C (p + K + k) 1 dX10_go_308 ?_
                  refine mp_to C hin (by decide +kernel) dX10_go_309 ?_
                  refine j_goto C 174 dX10_go_312 (by decide) ?_
                  refine j_lv (lv' := [(0, .ref o), (1, .int (m 1 (p + K))), (2, .int (goL m p K)), (3, .int (gd (m 1) (p + K) (goL m p K) (k + 1)))]) [0, 1, 2, 3] rfl ?_
                  refine j_ws (ws2 := mW o q d (gL (mu (goA m p K) 12 0 0) (m 1) (p + K) (k + 1)) (wN (m 1) (p + K) (k + 1))) (by rw [gL, if_pos (show k < 4 by omega), wN, if_pos (show k < 8 by omega)]) ?_
                  exact ih (k + 1) (by omega) (by omega) (by rw [← hr]; obtain ⟨f2, hf2⟩ : ∃ f2, 141 - k = f2 + 1 := ⟨140 - k, by omega⟩; rw [hf2, rlen, if_pos hLD, show 141 - (k + 1) = f2 by omega, Nat.add_assoc (p + K) k 1]; omega)
            refine j_aload_n C 0 dX10_go_202 rfl rfl ?_
            refine mg_tape C hin (by decide +kernel) dX10_go_203 ?_
            refine j_aload_n C 0 dX10_go_206 rfl rfl ?_
            refine mg_to C hin (by decide +kernel) dX10_go_207 ?_
            refine j_st (st2 := [.int (nI (p + K + k)), .ref (q 1)]) (congrArg (fun z => Value.int z :: _) (gL_9 (show mu (goA m p K) 12 0 0 9 0 = nI (p + K) by rw [mu_r _ _ (by decide), goA, mu_r _ _ (by decide)]; exact sL_9 ht K) k)) ?_
            refine ml_tape C (p + K + k) rfl (by omega) dX10_go_210 ?_
            refine j_st (st2 := [.int (m 1 (p + K + k))]) (congrArg (fun z => Value.int z :: _) (congrFun (show gL (mu (goA m p K) 12 0 0) (m 1) (p + K) k 1 = m 1 by rw [gL_r _ _ _ (by decide) (by decide), mu_r _ _ (by decide), goA, mu_r _ _ (by decide), sL_r m p (by decide)]) (p + K + k))) ?_
            refine j_istore C [(0, .ref o), (1, .int (m 1 (p + K))), (2, .int (goL m p K)), (3, .int (gd (m 1) (p + K) (goL m p K) k)), (4, .int (m 1 (p + K + k)))] [1, 2, 3, 4, 0] dX10_go_211 (by decide) rfl ?_
            refine j_iload_n C 3 dX10_go_213 rfl rfl ?_
            refine j_if_eq C 230 dX10_go_214 (by decide) (fun c214 => ?_) (fun c214 => ?_)
            · refine j_iconst C 0 dX10_go_230 (by decide) ?_
              refine j_istore_n C [(0, .ref o), (1, .int (m 1 (p + K))), (2, .int (goL m p K)), (3, .int 0), (4, .int (m 1 (p + K + k)))] [1, 2, 3, 0, 4] dX10_go_231 rfl (by decide) rfl ?_
              refine j_lv (lv' := [(0, .ref o), (1, .int (m 1 (p + K))), (2, .int (goL m p K)), (3, .int 0), (4, .int (m 1 (p + K + k)))]) [0, 1, 2, 3, 4] rfl ?_
              refine j_lvq (lv2 := [(0, .ref o), (1, .int (m 1 (p + K))), (2, .int (goL m p K)), (3, .int (gd (m 1) (p + K) (goL m p K) (k + 1))), (4, .int (m 1 (p + K + k)))]) (by rw [(show gd (m 1) (p + K) (goL m p K) (k + 1) = 0 by rw [gd, if_pos c214])]) ?_
              exact b232
            · refine j_iload C 4 dX10_go_217 rfl ?_
              refine j_callS_i C 1 (cm_isLetter l d _ (m 1 (p + K + k))) gX10_go_X10_isLetter rfl rfl rfl (by decide +kernel) ⟨(Nat.le_of_ble_eq_true rfl), (Nat.le_of_ble_eq_true rfl)⟩ ⟨(Nat.le_of_ble_eq_true rfl), (Nat.le_of_ble_eq_true rfl)⟩ rfl rfl (Nat.le_of_ble_eq_true rfl) dX10_go_219 (fun r219 u219 h219 => ?_)
              obtain ⟨rfl, rfl⟩ := h219
              refine j_iload_n C 2 dX10_go_222 rfl rfl ?_
              refine j_icmp_ne C 230 dX10_go_223 (by decide) (fun c223 => ?_) (fun c223 => ?_)
              · refine j_iconst C 0 dX10_go_230 (by decide) ?_
                refine j_istore_n C [(0, .ref o), (1, .int (m 1 (p + K))), (2, .int (goL m p K)), (3, .int 0), (4, .int (m 1 (p + K + k)))] [1, 2, 3, 0, 4] dX10_go_231 rfl (by decide) rfl ?_
                refine j_lv (lv' := [(0, .ref o), (1, .int (m 1 (p + K))), (2, .int (goL m p K)), (3, .int 0), (4, .int (m 1 (p + K + k)))]) [0, 1, 2, 3, 4] rfl ?_
                refine j_lvq (lv2 := [(0, .ref o), (1, .int (m 1 (p + K))), (2, .int (goL m p K)), (3, .int (gd (m 1) (p + K) (goL m p K) (k + 1))), (4, .int (m 1 (p + K + k)))]) (by rw [(show gd (m 1) (p + K) (goL m p K) (k + 1) = 0 by rw [gd, if_neg c214, if_neg c223])]) ?_
                exact b232
              · refine j_iconst C 1 dX10_go_226 (by decide) ?_
                refine j_goto C 231 dX10_go_227 (by decide) ?_
                refine j_istore_n C [(0, .ref o), (1, .int (m 1 (p + K))), (2, .int (goL m p K)), (3, .int 1), (4, .int (m 1 (p + K + k)))] [1, 2, 3, 0, 4] dX10_go_231 rfl (by decide) rfl ?_
                refine j_lv (lv' := [(0, .ref o), (1, .int (m 1 (p + K))), (2, .int (goL m p K)), (3, .int 1), (4, .int (m 1 (p + K + k)))]) [0, 1, 2, 3, 4] rfl ?_
                refine j_lvq (lv2 := [(0, .ref o), (1, .int (m 1 (p + K))), (2, .int (goL m p K)), (3, .int (gd (m 1) (p + K) (goL m p K) (k + 1))), (4, .int (m 1 (p + K + k)))]) (by rw [(show gd (m 1) (p + K) (goL m p K) (k + 1) = 1 by rw [gd, if_neg c214, if_pos c223])]) ?_
                exact b232
    refine j_iload_n C 1 dX10_go_157 rfl rfl ?_
    refine j_callS_i C 1 (cm_isLetter l d _ (m 1 (p + K))) gX10_go_X10_isLetter rfl rfl rfl (by decide +kernel) ⟨(Nat.le_of_ble_eq_true rfl), (Nat.le_of_ble_eq_true rfl)⟩ ⟨(Nat.le_of_ble_eq_true rfl), (Nat.le_of_ble_eq_true rfl)⟩ rfl rfl (Nat.le_of_ble_eq_true rfl) dX10_go_158 (fun r158 u158 h158 => ?_)
    obtain ⟨rfl, rfl⟩ := h158
    refine j_istore_n C [(0, .ref o), (1, .int (m 1 (p + K))), (2, .int (bI (isL (m 1 (p + K)))))] [1, 2, 0] dX10_go_161 rfl (by decide) rfl ?_
    refine j_iconst C 1 dX10_go_162 (by decide) ?_
    refine j_istore_n C [(0, .ref o), (1, .int (m 1 (p + K))), (2, .int (bI (isL (m 1 (p + K))))), (3, .int 1)] [1, 2, 3, 0] dX10_go_163 rfl (by decide) rfl ?_
    refine j_aload_n C 0 dX10_go_164 rfl rfl ?_
    refine j_lconst C 0 dX10_go_165 (by decide) ?_
    refine mp_word C hin (by decide +kernel) dX10_go_166 ?_
    refine j_aload_n C 0 dX10_go_169 rfl rfl ?_
    refine j_iconst C 0 dX10_go_170 (by decide) ?_
    refine mp_number C hin (by decide +kernel) dX10_go_171 ?_
    exact loop _ 0 (by omega) (Nat.lt_succ_self _) (by rw [hN, Nat.zero_add]; rfl)
  have t52 : p + K ≤ sz → jJ X l d A 5 0 0 (mW o q d (sL m p K) w) [(0, .ref o)] 52 [] := by
    intro hKs
    refine j_aload_n C 0 dX10_go_52 rfl rfl ?_
    refine j_aload_n C 0 dX10_go_53 rfl rfl ?_
    refine mg_to C hin (by decide +kernel) dX10_go_54 ?_
    refine j_st (st2 := [.int (nI (p + K)), .ref o]) (congrArg (fun z => Value.int z :: _) (sL_9 ht K)) ?_
    refine mp_from C hin (by decide +kernel) dX10_go_57 ?_
    refine j_aload_n C 0 dX10_go_60 rfl rfl ?_
    refine mg_size C hin (by decide +kernel) dX10_go_61 ?_
    refine j_st (st2 := [.int (nI sz)]) (congrArg (fun z => Value.int z :: _) (show sL m p K 8 0 = nI sz by rw [sL_r m p (by decide)]; exact hz)) ?_
    refine j_bipush C 120 dX10_go_64 (by decide) ?_
    refine j_icmp_le C 90 dX10_go_66 (by decide) (fun c66 => ?_) (fun c66 => ?_)
    · have c66 := (nI_leI (a := sz) (b := 120) (by omega) (by omega)).mp c66
      refine j_aload_n C 0 dX10_go_90 rfl rfl ?_
      refine mg_to C hin (by decide +kernel) dX10_go_91 ?_
      refine j_st (st2 := [.int (nI (p + K))]) (congrArg (fun z => Value.int z :: _) (sL_9 ht K)) ?_
      refine j_aload_n C 0 dX10_go_94 rfl rfl ?_
      refine mg_size C hin (by decide +kernel) dX10_go_95 ?_
      refine j_st (st2 := [.int (nI sz), .int (nI (p + K))]) (congrArg (fun z => Value.int z :: _) (show sL m p K 8 0 = nI sz by rw [sL_r m p (by decide)]; exact hz)) ?_
      refine j_icmp_lt C 107 dX10_go_98 (by decide) (fun c98 => ?_) (fun c98 => ?_)
      · have c98 := (nI_ltI (a := p + K) (b := sz) (by omega) (by omega)).mp c98
        refine j_aload_n C 0 dX10_go_107 rfl rfl ?_
        refine mg_tape C hin (by decide +kernel) dX10_go_108 ?_
        refine j_aload_n C 0 dX10_go_111 rfl rfl ?_
        refine mg_to C hin (by decide +kernel) dX10_go_112 ?_
        refine j_st (st2 := [.int (nI (p + K)), .ref (q 1)]) (congrArg (fun z => Value.int z :: _) (sL_9 ht K)) ?_
        refine ml_tape C (p + K) rfl (by omega) dX10_go_115 ?_
        refine j_st (st2 := [.int (m 1 (p + K))]) (congrArg (fun z => Value.int z :: _) (congrFun (sL_r m p (by decide) K) (p + K))) ?_
        refine j_istore_n C [(0, .ref o), (1, .int (m 1 (p + K)))] [1, 0] dX10_go_116 rfl (by decide) rfl ?_
        refine j_iload_n C 1 dX10_go_117 rfl rfl ?_
        refine j_callS_i C 1 (cm_isLetter l d _ (m 1 (p + K))) gX10_go_X10_isLetter rfl rfl rfl (by decide +kernel) ⟨(Nat.le_of_ble_eq_true rfl), (Nat.le_of_ble_eq_true rfl)⟩ ⟨(Nat.le_of_ble_eq_true rfl), (Nat.le_of_ble_eq_true rfl)⟩ rfl rfl (Nat.le_of_ble_eq_true rfl) dX10_go_118 (fun r118 u118 h118 => ?_)
        obtain ⟨rfl, rfl⟩ := h118
        refine j_if_ne C 157 dX10_go_121 (by decide) (fun c121 => ?_) (fun c121 => ?_)
        · have c121 := bI_n0.mp c121
          exact t157 (by omega) (by omega) (fun h => h.1 c121)
        · have c121 := bI_0.mp c121
          refine j_iload_n C 1 dX10_go_124 rfl rfl ?_
          refine j_callS_i C 1 (cm_isDigit l d _ (m 1 (p + K))) gX10_go_X10_isDigit rfl rfl rfl (by decide +kernel) ⟨(Nat.le_of_ble_eq_true rfl), (Nat.le_of_ble_eq_true rfl)⟩ ⟨(Nat.le_of_ble_eq_true rfl), (Nat.le_of_ble_eq_true rfl)⟩ rfl rfl (Nat.le_of_ble_eq_true rfl) dX10_go_125 (fun r125 u125 h125 => ?_)
          obtain ⟨rfl, rfl⟩ := h125
          refine j_if_ne C 157 dX10_go_128 (by decide) (fun c128 => ?_) (fun c128 => ?_)
          · have c128 := bI_n0.mp c128
            exact t157 (by omega) (by omega) (fun h => h.2 c128)
          · have c128 := bI_0.mp c128
            refine j_aload_n C 0 dX10_go_131 rfl rfl ?_
            refine j_iload_n C 1 dX10_go_132 rfl rfl ?_
            refine j_bipush C 59 dX10_go_133 (by decide) ?_
            refine j_icmp_ne C 142 dX10_go_135 (by decide) (fun c135 => ?_) (fun c135 => ?_)
            · refine j_iconst C 1 dX10_go_142 (by decide) ?_
              refine mp_kind C hin (by decide +kernel) dX10_go_143 ?_
              refine j_aload_n C 0 dX10_go_146 rfl rfl ?_
              refine j_dup C dX10_go_147 rfl ?_
              refine mg_to C hin (by decide +kernel) dX10_go_148 ?_
              refine j_st (st2 := [.int (nI (p + K)), .ref o]) (congrArg (fun z => Value.int z :: _) (sL_9 ht K)) ?_
              refine j_iconst C 1 dX10_go_151 (by decide) ?_
              refine j_iaddN C (p + K) 1 dX10_go_152 ?_
              refine mp_to C hin (by decide +kernel) dX10_go_153 ?_
              exact j_vret C hQ dX10_go_156 (by rw [sGo]; simp only [← hK]; rw [if_neg (by omega), if_neg (by omega), if_pos ⟨c121, c128⟩, if_neg c135])
            · refine j_iconst C 4 dX10_go_138 (by decide) ?_
              refine j_goto C 143 dX10_go_139 (by decide) ?_
              refine mp_kind C hin (by decide +kernel) dX10_go_143 ?_
              refine j_aload_n C 0 dX10_go_146 rfl rfl ?_
              refine j_dup C dX10_go_147 rfl ?_
              refine mg_to C hin (by decide +kernel) dX10_go_148 ?_
              refine j_st (st2 := [.int (nI (p + K)), .ref o]) (congrArg (fun z => Value.int z :: _) (sL_9 ht K)) ?_
              refine j_iconst C 1 dX10_go_151 (by decide) ?_
              refine j_iaddN C (p + K) 1 dX10_go_152 ?_
              refine mp_to C hin (by decide +kernel) dX10_go_153 ?_
              exact j_vret C hQ dX10_go_156 (by rw [sGo]; simp only [← hK]; rw [if_neg (by omega), if_neg (by omega), if_pos ⟨c121, c128⟩, if_pos c135])
      · have c98 : ¬ ((p + K) < sz) := fun h => c98 ((nI_ltI (a := p + K) (b := sz) (by omega) (by omega)).mpr h)
        refine j_aload_n C 0 dX10_go_101 rfl rfl ?_
        refine j_iconst C 0 dX10_go_102 (by decide) ?_
        refine mp_kind C hin (by decide +kernel) dX10_go_103 ?_
        exact j_vret C hQ dX10_go_106 (by rw [sGo]; simp only [← hK]; rw [if_neg (by omega), if_pos (by omega)])
    · have c66 : ¬ (sz ≤ 120) := fun h => c66 ((nI_leI (a := sz) (b := 120) (by omega) (by omega)).mpr h)
      refine j_aload_n C 0 dX10_go_69 rfl rfl ?_
      refine mg_from C hin (by decide +kernel) dX10_go_70 ?_
      refine j_st (st2 := [.int (nI (p + K))]) rfl ?_
      refine j_bipush C 120 dX10_go_73 (by decide) ?_
      refine j_icmp_lt C 90 dX10_go_75 (by decide) (fun c75 => ?_) (fun c75 => ?_)
      · have c75 := (nI_ltI (a := p + K) (b := 120) (by omega) (by omega)).mp c75
        refine j_aload_n C 0 dX10_go_90 rfl rfl ?_
        refine mg_to C hin (by decide +kernel) dX10_go_91 ?_
        refine j_st (st2 := [.int (nI (p + K))]) (congrArg (fun z => Value.int z :: _) (sL_9 ht K)) ?_
        refine j_aload_n C 0 dX10_go_94 rfl rfl ?_
        refine mg_size C hin (by decide +kernel) dX10_go_95 ?_
        refine j_st (st2 := [.int (nI sz), .int (nI (p + K))]) (congrArg (fun z => Value.int z :: _) (show sL m p K 8 0 = nI sz by rw [sL_r m p (by decide)]; exact hz)) ?_
        refine j_icmp_lt C 107 dX10_go_98 (by decide) (fun c98 => ?_) (fun c98 => ?_)
        · have c98 := (nI_ltI (a := p + K) (b := sz) (by omega) (by omega)).mp c98
          refine j_aload_n C 0 dX10_go_107 rfl rfl ?_
          refine mg_tape C hin (by decide +kernel) dX10_go_108 ?_
          refine j_aload_n C 0 dX10_go_111 rfl rfl ?_
          refine mg_to C hin (by decide +kernel) dX10_go_112 ?_
          refine j_st (st2 := [.int (nI (p + K)), .ref (q 1)]) (congrArg (fun z => Value.int z :: _) (sL_9 ht K)) ?_
          refine ml_tape C (p + K) rfl (by omega) dX10_go_115 ?_
          refine j_st (st2 := [.int (m 1 (p + K))]) (congrArg (fun z => Value.int z :: _) (congrFun (sL_r m p (by decide) K) (p + K))) ?_
          refine j_istore_n C [(0, .ref o), (1, .int (m 1 (p + K)))] [1, 0] dX10_go_116 rfl (by decide) rfl ?_
          refine j_iload_n C 1 dX10_go_117 rfl rfl ?_
          refine j_callS_i C 1 (cm_isLetter l d _ (m 1 (p + K))) gX10_go_X10_isLetter rfl rfl rfl (by decide +kernel) ⟨(Nat.le_of_ble_eq_true rfl), (Nat.le_of_ble_eq_true rfl)⟩ ⟨(Nat.le_of_ble_eq_true rfl), (Nat.le_of_ble_eq_true rfl)⟩ rfl rfl (Nat.le_of_ble_eq_true rfl) dX10_go_118 (fun r118 u118 h118 => ?_)
          obtain ⟨rfl, rfl⟩ := h118
          refine j_if_ne C 157 dX10_go_121 (by decide) (fun c121 => ?_) (fun c121 => ?_)
          · have c121 := bI_n0.mp c121
            exact t157 (by omega) (by omega) (fun h => h.1 c121)
          · have c121 := bI_0.mp c121
            refine j_iload_n C 1 dX10_go_124 rfl rfl ?_
            refine j_callS_i C 1 (cm_isDigit l d _ (m 1 (p + K))) gX10_go_X10_isDigit rfl rfl rfl (by decide +kernel) ⟨(Nat.le_of_ble_eq_true rfl), (Nat.le_of_ble_eq_true rfl)⟩ ⟨(Nat.le_of_ble_eq_true rfl), (Nat.le_of_ble_eq_true rfl)⟩ rfl rfl (Nat.le_of_ble_eq_true rfl) dX10_go_125 (fun r125 u125 h125 => ?_)
            obtain ⟨rfl, rfl⟩ := h125
            refine j_if_ne C 157 dX10_go_128 (by decide) (fun c128 => ?_) (fun c128 => ?_)
            · have c128 := bI_n0.mp c128
              exact t157 (by omega) (by omega) (fun h => h.2 c128)
            · have c128 := bI_0.mp c128
              refine j_aload_n C 0 dX10_go_131 rfl rfl ?_
              refine j_iload_n C 1 dX10_go_132 rfl rfl ?_
              refine j_bipush C 59 dX10_go_133 (by decide) ?_
              refine j_icmp_ne C 142 dX10_go_135 (by decide) (fun c135 => ?_) (fun c135 => ?_)
              · refine j_iconst C 1 dX10_go_142 (by decide) ?_
                refine mp_kind C hin (by decide +kernel) dX10_go_143 ?_
                refine j_aload_n C 0 dX10_go_146 rfl rfl ?_
                refine j_dup C dX10_go_147 rfl ?_
                refine mg_to C hin (by decide +kernel) dX10_go_148 ?_
                refine j_st (st2 := [.int (nI (p + K)), .ref o]) (congrArg (fun z => Value.int z :: _) (sL_9 ht K)) ?_
                refine j_iconst C 1 dX10_go_151 (by decide) ?_
                refine j_iaddN C (p + K) 1 dX10_go_152 ?_
                refine mp_to C hin (by decide +kernel) dX10_go_153 ?_
                exact j_vret C hQ dX10_go_156 (by rw [sGo]; simp only [← hK]; rw [if_neg (by omega), if_neg (by omega), if_pos ⟨c121, c128⟩, if_neg c135])
              · refine j_iconst C 4 dX10_go_138 (by decide) ?_
                refine j_goto C 143 dX10_go_139 (by decide) ?_
                refine mp_kind C hin (by decide +kernel) dX10_go_143 ?_
                refine j_aload_n C 0 dX10_go_146 rfl rfl ?_
                refine j_dup C dX10_go_147 rfl ?_
                refine mg_to C hin (by decide +kernel) dX10_go_148 ?_
                refine j_st (st2 := [.int (nI (p + K)), .ref o]) (congrArg (fun z => Value.int z :: _) (sL_9 ht K)) ?_
                refine j_iconst C 1 dX10_go_151 (by decide) ?_
                refine j_iaddN C (p + K) 1 dX10_go_152 ?_
                refine mp_to C hin (by decide +kernel) dX10_go_153 ?_
                exact j_vret C hQ dX10_go_156 (by rw [sGo]; simp only [← hK]; rw [if_neg (by omega), if_neg (by omega), if_pos ⟨c121, c128⟩, if_pos c135])
        · have c98 : ¬ ((p + K) < sz) := fun h => c98 ((nI_ltI (a := p + K) (b := sz) (by omega) (by omega)).mpr h)
          refine j_aload_n C 0 dX10_go_101 rfl rfl ?_
          refine j_iconst C 0 dX10_go_102 (by decide) ?_
          refine mp_kind C hin (by decide +kernel) dX10_go_103 ?_
          exact j_vret C hQ dX10_go_106 (by rw [sGo]; simp only [← hK]; rw [if_neg (by omega), if_pos (by omega)])
      · have c75 : ¬ ((p + K) < 120) := fun h => c75 ((nI_ltI (a := p + K) (b := 120) (by omega) (by omega)).mpr h)
        refine j_aload_n C 0 dX10_go_78 rfl rfl ?_
        refine j_bipush C 120 dX10_go_79 (by decide) ?_
        refine mp_from C hin (by decide +kernel) dX10_go_81 ?_
        refine j_aload_n C 0 dX10_go_84 rfl rfl ?_
        refine j_iconst C 1 dX10_go_85 (by decide) ?_
        refine mp_kind C hin (by decide +kernel) dX10_go_86 ?_
        exact j_vret C hQ dX10_go_89 (by rw [sGo]; simp only [← hK]; rw [if_pos ⟨by omega, by omega⟩])
  have loop : ∀ fz k : Nat, p + k ≤ sz → sz - (p + k) < fz → k + skc (m 1) sz (141 - k) (p + k) = K → jJ X l d A 5 0 0 (mW o q d (sL m p k) w) [(0, .ref o)] 0 [] := by
    intro fz
    induction fz with
    | zero => intro k _ h; exact absurd h (Nat.not_lt_zero _)
    | succ fz ih =>
      intro k hi hn hr
      refine j_aload_n C 0 dX10_go_0 rfl rfl ?_
      refine mg_to C hin (by decide +kernel) dX10_go_1 ?_
      refine j_st (st2 := [.int (nI (p + k))]) (congrArg (fun z => Value.int z :: _) (sL_9 ht k)) ?_
      refine j_aload_n C 0 dX10_go_4 rfl rfl ?_
      refine mg_size C hin (by decide +kernel) dX10_go_5 ?_
      refine j_st (st2 := [.int (nI sz), .int (nI (p + k))]) (congrArg (fun z => Value.int z :: _) (show sL m p k 8 0 = nI sz by rw [sL_r m p (by decide)]; exact hz)) ?_
      refine j_icmp_ge C 52 dX10_go_8 (by decide) (fun c8 => ?_) (fun c8 => ?_)
      · have c8 := (nI_leI (a := sz) (b := p + k) (by omega) (by omega)).mp c8
        have hk0 : k = K := by
          obtain ⟨f2, hf2⟩ : ∃ f2, 141 - k = f2 + 1 := ⟨140 - k, by omega⟩
          rw [hf2, skc, if_neg (fun h => by omega)] at hr
          exact hr
        subst hk0
        exact t52 (by omega)
      · have c8 : ¬ (sz ≤ (p + k)) := fun h => c8 ((nI_leI (a := sz) (b := p + k) (by omega) (by omega)).mpr h)
        refine j_aload_n C 0 dX10_go_11 rfl rfl ?_
        refine mg_tape C hin (by decide +kernel) dX10_go_12 ?_
        refine j_aload_n C 0 dX10_go_15 rfl rfl ?_
        refine mg_to C hin (by decide +kernel) dX10_go_16 ?_
        refine j_st (st2 := [.int (nI (p + k)), .ref (q 1)]) (congrArg (fun z => Value.int z :: _) (sL_9 ht k)) ?_
        refine ml_tape C (p + k) rfl (by omega) dX10_go_19 ?_
        refine j_st (st2 := [.int (m 1 (p + k))]) (congrArg (fun z => Value.int z :: _) (congrFun (sL_r m p (by decide) k) (p + k))) ?_
        refine j_bipush C 32 dX10_go_20 (by decide) ?_
        refine j_icmp_eq C 39 dX10_go_22 (by decide) (fun c22 => ?_) (fun c22 => ?_)
        · refine j_aload_n C 0 dX10_go_39 rfl rfl ?_
          refine j_dup C dX10_go_40 rfl ?_
          refine mg_to C hin (by decide +kernel) dX10_go_41 ?_
          refine j_st (st2 := [.int (nI (p + k)), .ref o]) (congrArg (fun z => Value.int z :: _) (sL_9 ht k)) ?_
          refine j_iconst C 1 dX10_go_44 (by decide) ?_
          refine j_iaddN C (p + k) 1 dX10_go_45 ?_
          refine mp_to C hin (by decide +kernel) dX10_go_46 ?_
          refine j_goto C 0 dX10_go_49 (by decide) ?_
          exact ih (k + 1) (by omega) (by omega) (by rw [← hr]; obtain ⟨f2, hf2⟩ : ∃ f2, 141 - k = f2 + 1 := ⟨140 - k, by omega⟩; rw [hf2, skc, if_pos ⟨by omega, Or.inl c22⟩, show 141 - (k + 1) = f2 by omega, Nat.add_assoc p k 1]; omega)
        · refine j_aload_n C 0 dX10_go_25 rfl rfl ?_
          refine mg_tape C hin (by decide +kernel) dX10_go_26 ?_
          refine j_aload_n C 0 dX10_go_29 rfl rfl ?_
          refine mg_to C hin (by decide +kernel) dX10_go_30 ?_
          refine j_st (st2 := [.int (nI (p + k)), .ref (q 1)]) (congrArg (fun z => Value.int z :: _) (sL_9 ht k)) ?_
          refine ml_tape C (p + k) rfl (by omega) dX10_go_33 ?_
          refine j_st (st2 := [.int (m 1 (p + k))]) (congrArg (fun z => Value.int z :: _) (congrFun (sL_r m p (by decide) k) (p + k))) ?_
          refine j_bipush C 10 dX10_go_34 (by decide) ?_
          refine j_icmp_ne C 52 dX10_go_36 (by decide) (fun c36 => ?_) (fun c36 => ?_)
          · have hk0 : k = K := by
              obtain ⟨f2, hf2⟩ : ∃ f2, 141 - k = f2 + 1 := ⟨140 - k, by omega⟩
              rw [hf2, skc, if_neg (fun h => h.2.elim c22 c36)] at hr
              exact hr
            subst hk0
            exact t52 (by omega)
          · refine j_aload_n C 0 dX10_go_39 rfl rfl ?_
            refine j_dup C dX10_go_40 rfl ?_
            refine mg_to C hin (by decide +kernel) dX10_go_41 ?_
            refine j_st (st2 := [.int (nI (p + k)), .ref o]) (congrArg (fun z => Value.int z :: _) (sL_9 ht k)) ?_
            refine j_iconst C 1 dX10_go_44 (by decide) ?_
            refine j_iaddN C (p + k) 1 dX10_go_45 ?_
            refine mp_to C hin (by decide +kernel) dX10_go_46 ?_
            refine j_goto C 0 dX10_go_49 (by decide) ?_
            exact ih (k + 1) (by omega) (by omega) (by rw [← hr]; obtain ⟨f2, hf2⟩ : ∃ f2, 141 - k = f2 + 1 := ⟨140 - k, by omega⟩; rw [hf2, skc, if_pos ⟨by omega, Or.inr c36⟩, show 141 - (k + 1) = f2 by omega, Nat.add_assoc p k 1]; omega)
  exact loop _ 0 (by omega) (Nat.lt_succ_self _) (by rw [hK, Nat.zero_add]; rfl)

abbrev spl (a b c : Int32) : Int64 := 27 * (27 * (a.toInt64 - 96) + b.toInt64 - 96) + c.toInt64 - 96

set_option maxHeartbeats 4000000 in
set_option maxRecDepth 100000 in
theorem cm_spelt (l : Launch) (d : jD) (ws : va_W) (a b c : Int32) : jMl noE d l yX10_spelt wsX10_spelt ({ frames := 0, cells := 0, slots := 0, locals := 0 } : Room) 0 0 [.int a, .int b, .int c] ws (fun r u => r = spl a b c ∧ u = ws) := by
  refine jMl.mk noE_k (by decide) rfl (Nat.le_of_ble_eq_true rfl) (fun X A C hQ => ?_)
  refine j_lvq (lv2 := [(0, .int a), (1, .int b), (2, .int c)]) rfl ?_
  refine j_ldc2 C (27) (by decide +kernel) dX10_spelt_0 ?_
  refine j_ldc2 C (27) (by decide +kernel) dX10_spelt_3 ?_
  refine j_iload_n C 0 dX10_spelt_6 rfl rfl ?_
  refine j_i2l C dX10_spelt_7 ?_
  refine j_ldc2 C (96) (by decide +kernel) dX10_spelt_8 ?_
  refine j_lsub C dX10_spelt_11 ?_
  refine j_lmul C dX10_spelt_12 ?_
  refine j_iload_n C 1 dX10_spelt_13 rfl rfl ?_
  refine j_i2l C dX10_spelt_14 ?_
  refine j_ladd C dX10_spelt_15 ?_
  refine j_ldc2 C (96) (by decide +kernel) dX10_spelt_16 ?_
  refine j_lsub C dX10_spelt_19 ?_
  refine j_lmul C dX10_spelt_20 ?_
  refine j_iload_n C 2 dX10_spelt_21 rfl rfl ?_
  refine j_i2l C dX10_spelt_22 ?_
  refine j_ladd C dX10_spelt_23 ?_
  refine j_ldc2 C (96) (by decide +kernel) dX10_spelt_24 ?_
  refine j_lsub C dX10_spelt_27 ?_
  exact j_lret C hQ dX10_spelt_28 (⟨rfl, rfl⟩)

abbrev isK (m : Nat → Nat → Int32) (w k : Int64) : Prop := m 11 0 = 2 ∧ w = k
theorem lcmpE {x y : Int64} : lg_cmp x y = 0 ↔ x = y := by
  unfold lg_cmp
  by_cases h1 : x > y
  · rw [if_pos h1]
    exact ⟨fun h => absurd h (by decide), fun h => by rw [h] at h1; exact absurd h1 Int64.lt_irrefl⟩
  · rw [if_neg h1]
    by_cases h2 : x = y
    · rw [if_pos h2]; exact ⟨fun _ => h2, fun _ => rfl⟩
    · rw [if_neg h2]; exact ⟨fun h => absurd h (by decide), fun h => absurd h h2⟩

set_option maxHeartbeats 4000000 in
set_option maxRecDepth 100000 in
theorem cm_isKey (l : Launch) (d : jD) (o : Nat) (q : Nat → Nat) (m : Nat → Nat → Int32) (w : Int64) (k : Int64) : jMi noE d l yX10_isKey wsX10_isKey ({ frames := 0, cells := 0, slots := 0, locals := 0 } : Room) 0 0 [.ref o, .long k] (mW o q d m w) (fun r u => r = bI (isK m w k) ∧ u = mW o q d m w) := by
  refine jMi.mk noE_k (by decide) rfl (Nat.le_of_ble_eq_true rfl) (fun X A C hQ => ?_)
  have hin : ∀ w ∈ u_ws RX10 TX10 37, w ∈ wsX10_isKey := fun w h => List.mem_cons_of_mem _ (List.mem_append_right _ h)
  refine j_lvq (lv2 := [(0, .ref o), (1, .long k)]) rfl ?_
  refine j_aload_n C 0 dX10_isKey_0 rfl rfl ?_
  refine mg_kind C hin (by decide +kernel) dX10_isKey_1 ?_
  refine j_iconst C 2 dX10_isKey_4 (by decide) ?_
  refine j_icmp_ne C 21 dX10_isKey_5 (by decide) (fun c5 => ?_) (fun c5 => ?_)
  · refine j_iconst C 0 dX10_isKey_21 (by decide) ?_
    exact j_zret C hQ rfl dX10_isKey_22 (⟨bI_f (fun h => c5 h.1), rfl⟩)
  · refine j_aload_n C 0 dX10_isKey_8 rfl rfl ?_
    refine mg_word C hin (by decide +kernel) dX10_isKey_9 ?_
    refine j_lload_n C 1 dX10_isKey_12 rfl rfl ?_
    refine j_lcmp C dX10_isKey_13 ?_
    refine j_if_ne C 21 dX10_isKey_14 (by decide) (fun c14 => ?_) (fun c14 => ?_)
    · refine j_iconst C 0 dX10_isKey_21 (by decide) ?_
      exact j_zret C hQ rfl dX10_isKey_22 (⟨bI_f (fun h => c14 (lcmpE.mpr h.2)), rfl⟩)
    · refine j_iconst C 1 dX10_isKey_17 (by decide) ?_
      refine j_goto C 22 dX10_isKey_18 (by decide) ?_
      exact j_zret C hQ rfl dX10_isKey_22 (⟨bI_t ⟨c5, lcmpE.mp c14⟩, rfl⟩)

def mRule (m : Nat → Nat → Int32) (w : Int64) : Int32 := if isK m w 9135691453 then 0 else if isK m w 158523 then 1 else if isK m w 2774 then 2 else if isK m w 361373 then 3 else if isK m w 119163 then 4 else if isK m w 6476969 then 5 else -1

theorem mRule_in (m : Nat → Nat → Int32) (w : Int64) : mRule m w = -1 ∨ ∃ j, j < 6 ∧ mRule m w = nI j := by
  unfold mRule
  repeat' split
  · exact Or.inr ⟨0, by decide, rfl⟩
  · exact Or.inr ⟨1, by decide, rfl⟩
  · exact Or.inr ⟨2, by decide, rfl⟩
  · exact Or.inr ⟨3, by decide, rfl⟩
  · exact Or.inr ⟨4, by decide, rfl⟩
  · exact Or.inr ⟨5, by decide, rfl⟩
  · exact Or.inl rfl

set_option maxHeartbeats 4000000 in
set_option maxRecDepth 100000 in
theorem cm_ruleAtHand (l : Launch) (d : jD) (o : Nat) (q : Nat → Nat) (m : Nat → Nat → Int32) (w : Int64) : jMi noE d l yX10_ruleAtHand wsX10_ruleAtHand ({ frames := 1, cells := 0, slots := 0, locals := 22 } : Room) 0 0 [.ref o] (mW o q d m w) (fun r u => r = mRule m w ∧ u = mW o q d m w) := by
  refine jMi.mk noE_k (by decide) rfl (Nat.le_of_ble_eq_true rfl) (fun X A C hQ => ?_)
  have hin : ∀ w ∈ u_ws RX10 TX10 37, w ∈ wsX10_ruleAtHand := fun w h => List.mem_cons_of_mem _ (List.mem_append_right _ h)
  refine j_lvq (lv2 := [(0, .ref o)]) rfl ?_
  refine j_aload_n C 0 dX10_ruleAtHand_0 rfl rfl ?_
  refine j_ldc2 C (27) (by decide +kernel) dX10_ruleAtHand_1 ?_
  refine j_ldc2 C (19683) (by decide +kernel) dX10_ruleAtHand_4 ?_
  refine j_bipush C 119 dX10_ruleAtHand_7 (by decide) ?_
  refine j_bipush C 111 dX10_ruleAtHand_9 (by decide) ?_
  refine j_bipush C 114 dX10_ruleAtHand_11 (by decide) ?_
  refine j_callS_l C 3 (cm_spelt l d _ 119 111 114) gX10_ruleAtHand_X10_spelt rfl rfl rfl (by decide +kernel) ⟨(Nat.le_of_ble_eq_true rfl), (Nat.le_of_ble_eq_true rfl)⟩ ⟨(Nat.le_of_ble_eq_true rfl), (Nat.le_of_ble_eq_true rfl)⟩ rfl rfl (Nat.le_of_ble_eq_true rfl) dX10_ruleAtHand_13 (fun r13 u13 h13 => ?_)
  obtain ⟨rfl, rfl⟩ := h13
  refine j_lmul C dX10_ruleAtHand_16 ?_
  refine j_bipush C 107 dX10_ruleAtHand_17 (by decide) ?_
  refine j_bipush C 101 dX10_ruleAtHand_19 (by decide) ?_
  refine j_bipush C 114 dX10_ruleAtHand_21 (by decide) ?_
  refine j_callS_l C 3 (cm_spelt l d _ 107 101 114) gX10_ruleAtHand_X10_spelt rfl rfl rfl (by decide +kernel) ⟨(Nat.le_of_ble_eq_true rfl), (Nat.le_of_ble_eq_true rfl)⟩ ⟨(Nat.le_of_ble_eq_true rfl), (Nat.le_of_ble_eq_true rfl)⟩ rfl rfl (Nat.le_of_ble_eq_true rfl) dX10_ruleAtHand_23 (fun r23 u23 h23 => ?_)
  obtain ⟨rfl, rfl⟩ := h23
  refine j_ladd C dX10_ruleAtHand_26 ?_
  refine j_lmul C dX10_ruleAtHand_27 ?_
  refine j_ldc2 C (19) (by decide +kernel) dX10_ruleAtHand_28 ?_
  refine j_ladd C dX10_ruleAtHand_31 ?_
  refine j_st (st2 := [.long 9135691453, .ref o]) (congrArg (fun z => Value.long z :: _) (show ((27) * (((19683) * (spl 119 111 114)) + (spl 107 101 114))) + (19) = 9135691453 by decide +kernel)) ?_
  refine j_callV_i C 1 0 (cm_isKey l d o q m w 9135691453) rfl rfl gX10_ruleAtHand_X10_isKey rfl rfl rfl (by decide +kernel) ⟨(Nat.le_of_ble_eq_true rfl), (Nat.le_of_ble_eq_true rfl)⟩ ⟨(Nat.le_of_ble_eq_true rfl), (Nat.le_of_ble_eq_true rfl)⟩ rfl rfl (Nat.le_of_ble_eq_true rfl) dX10_ruleAtHand_32 (fun r32 u32 h32 => ?_)
  obtain ⟨rfl, rfl⟩ := h32
  refine j_if_eq C 40 dX10_ruleAtHand_35 (by decide) (fun c35 => ?_) (fun c35 => ?_)
  · have c35 := bI_0.mp c35
    refine j_aload_n C 0 dX10_ruleAtHand_40 rfl rfl ?_
    refine j_ldc2 C (27) (by decide +kernel) dX10_ruleAtHand_41 ?_
    refine j_bipush C 104 dX10_ruleAtHand_44 (by decide) ?_
    refine j_bipush C 97 dX10_ruleAtHand_46 (by decide) ?_
    refine j_bipush C 108 dX10_ruleAtHand_48 (by decide) ?_
    refine j_callS_l C 3 (cm_spelt l d _ 104 97 108) gX10_ruleAtHand_X10_spelt rfl rfl rfl (by decide +kernel) ⟨(Nat.le_of_ble_eq_true rfl), (Nat.le_of_ble_eq_true rfl)⟩ ⟨(Nat.le_of_ble_eq_true rfl), (Nat.le_of_ble_eq_true rfl)⟩ rfl rfl (Nat.le_of_ble_eq_true rfl) dX10_ruleAtHand_50 (fun r50 u50 h50 => ?_)
    obtain ⟨rfl, rfl⟩ := h50
    refine j_lmul C dX10_ruleAtHand_53 ?_
    refine j_ldc2 C (6) (by decide +kernel) dX10_ruleAtHand_54 ?_
    refine j_ladd C dX10_ruleAtHand_57 ?_
    refine j_st (st2 := [.long 158523, .ref o]) (congrArg (fun z => Value.long z :: _) (show ((27) * (spl 104 97 108)) + (6) = 158523 by decide +kernel)) ?_
    refine j_callV_i C 1 0 (cm_isKey l d o q m w 158523) rfl rfl gX10_ruleAtHand_X10_isKey rfl rfl rfl (by decide +kernel) ⟨(Nat.le_of_ble_eq_true rfl), (Nat.le_of_ble_eq_true rfl)⟩ ⟨(Nat.le_of_ble_eq_true rfl), (Nat.le_of_ble_eq_true rfl)⟩ rfl rfl (Nat.le_of_ble_eq_true rfl) dX10_ruleAtHand_58 (fun r58 u58 h58 => ?_)
    obtain ⟨rfl, rfl⟩ := h58
    refine j_if_eq C 66 dX10_ruleAtHand_61 (by decide) (fun c61 => ?_) (fun c61 => ?_)
    · have c61 := bI_0.mp c61
      refine j_aload_n C 0 dX10_ruleAtHand_66 rfl rfl ?_
      refine j_bipush C 99 dX10_ruleAtHand_67 (by decide) ?_
      refine j_bipush C 117 dX10_ruleAtHand_69 (by decide) ?_
      refine j_bipush C 116 dX10_ruleAtHand_71 (by decide) ?_
      refine j_callS_l C 3 (cm_spelt l d _ 99 117 116) gX10_ruleAtHand_X10_spelt rfl rfl rfl (by decide +kernel) ⟨(Nat.le_of_ble_eq_true rfl), (Nat.le_of_ble_eq_true rfl)⟩ ⟨(Nat.le_of_ble_eq_true rfl), (Nat.le_of_ble_eq_true rfl)⟩ rfl rfl (Nat.le_of_ble_eq_true rfl) dX10_ruleAtHand_73 (fun r73 u73 h73 => ?_)
      obtain ⟨rfl, rfl⟩ := h73
      refine j_st (st2 := [.long 2774, .ref o]) (congrArg (fun z => Value.long z :: _) (show spl 99 117 116 = 2774 by decide +kernel)) ?_
      refine j_callV_i C 1 0 (cm_isKey l d o q m w 2774) rfl rfl gX10_ruleAtHand_X10_isKey rfl rfl rfl (by decide +kernel) ⟨(Nat.le_of_ble_eq_true rfl), (Nat.le_of_ble_eq_true rfl)⟩ ⟨(Nat.le_of_ble_eq_true rfl), (Nat.le_of_ble_eq_true rfl)⟩ rfl rfl (Nat.le_of_ble_eq_true rfl) dX10_ruleAtHand_76 (fun r76 u76 h76 => ?_)
      obtain ⟨rfl, rfl⟩ := h76
      refine j_if_eq C 84 dX10_ruleAtHand_79 (by decide) (fun c79 => ?_) (fun c79 => ?_)
      · have c79 := bI_0.mp c79
        refine j_aload_n C 0 dX10_ruleAtHand_84 rfl rfl ?_
        refine j_ldc2 C (27) (by decide +kernel) dX10_ruleAtHand_85 ?_
        refine j_bipush C 114 dX10_ruleAtHand_88 (by decide) ?_
        refine j_bipush C 105 dX10_ruleAtHand_90 (by decide) ?_
        refine j_bipush C 115 dX10_ruleAtHand_92 (by decide) ?_
        refine j_callS_l C 3 (cm_spelt l d _ 114 105 115) gX10_ruleAtHand_X10_spelt rfl rfl rfl (by decide +kernel) ⟨(Nat.le_of_ble_eq_true rfl), (Nat.le_of_ble_eq_true rfl)⟩ ⟨(Nat.le_of_ble_eq_true rfl), (Nat.le_of_ble_eq_true rfl)⟩ rfl rfl (Nat.le_of_ble_eq_true rfl) dX10_ruleAtHand_94 (fun r94 u94 h94 => ?_)
        obtain ⟨rfl, rfl⟩ := h94
        refine j_lmul C dX10_ruleAtHand_97 ?_
        refine j_ldc2 C (5) (by decide +kernel) dX10_ruleAtHand_98 ?_
        refine j_ladd C dX10_ruleAtHand_101 ?_
        refine j_st (st2 := [.long 361373, .ref o]) (congrArg (fun z => Value.long z :: _) (show ((27) * (spl 114 105 115)) + (5) = 361373 by decide +kernel)) ?_
        refine j_callV_i C 1 0 (cm_isKey l d o q m w 361373) rfl rfl gX10_ruleAtHand_X10_isKey rfl rfl rfl (by decide +kernel) ⟨(Nat.le_of_ble_eq_true rfl), (Nat.le_of_ble_eq_true rfl)⟩ ⟨(Nat.le_of_ble_eq_true rfl), (Nat.le_of_ble_eq_true rfl)⟩ rfl rfl (Nat.le_of_ble_eq_true rfl) dX10_ruleAtHand_102 (fun r102 u102 h102 => ?_)
        obtain ⟨rfl, rfl⟩ := h102
        refine j_if_eq C 110 dX10_ruleAtHand_105 (by decide) (fun c105 => ?_) (fun c105 => ?_)
        · have c105 := bI_0.mp c105
          refine j_aload_n C 0 dX10_ruleAtHand_110 rfl rfl ?_
          refine j_ldc2 C (27) (by decide +kernel) dX10_ruleAtHand_111 ?_
          refine j_bipush C 102 dX10_ruleAtHand_114 (by decide) ?_
          refine j_bipush C 97 dX10_ruleAtHand_116 (by decide) ?_
          refine j_bipush C 108 dX10_ruleAtHand_118 (by decide) ?_
          refine j_callS_l C 3 (cm_spelt l d _ 102 97 108) gX10_ruleAtHand_X10_spelt rfl rfl rfl (by decide +kernel) ⟨(Nat.le_of_ble_eq_true rfl), (Nat.le_of_ble_eq_true rfl)⟩ ⟨(Nat.le_of_ble_eq_true rfl), (Nat.le_of_ble_eq_true rfl)⟩ rfl rfl (Nat.le_of_ble_eq_true rfl) dX10_ruleAtHand_120 (fun r120 u120 h120 => ?_)
          obtain ⟨rfl, rfl⟩ := h120
          refine j_lmul C dX10_ruleAtHand_123 ?_
          refine j_ldc2 C (12) (by decide +kernel) dX10_ruleAtHand_124 ?_
          refine j_ladd C dX10_ruleAtHand_127 ?_
          refine j_st (st2 := [.long 119163, .ref o]) (congrArg (fun z => Value.long z :: _) (show ((27) * (spl 102 97 108)) + (12) = 119163 by decide +kernel)) ?_
          refine j_callV_i C 1 0 (cm_isKey l d o q m w 119163) rfl rfl gX10_ruleAtHand_X10_isKey rfl rfl rfl (by decide +kernel) ⟨(Nat.le_of_ble_eq_true rfl), (Nat.le_of_ble_eq_true rfl)⟩ ⟨(Nat.le_of_ble_eq_true rfl), (Nat.le_of_ble_eq_true rfl)⟩ rfl rfl (Nat.le_of_ble_eq_true rfl) dX10_ruleAtHand_128 (fun r128 u128 h128 => ?_)
          obtain ⟨rfl, rfl⟩ := h128
          refine j_if_eq C 136 dX10_ruleAtHand_131 (by decide) (fun c131 => ?_) (fun c131 => ?_)
          · have c131 := bI_0.mp c131
            refine j_aload_n C 0 dX10_ruleAtHand_136 rfl rfl ?_
            refine j_ldc2 C (27) (by decide +kernel) dX10_ruleAtHand_137 ?_
            refine j_ldc2 C (27) (by decide +kernel) dX10_ruleAtHand_140 ?_
            refine j_bipush C 108 dX10_ruleAtHand_143 (by decide) ?_
            refine j_bipush C 101 dX10_ruleAtHand_145 (by decide) ?_
            refine j_bipush C 97 dX10_ruleAtHand_147 (by decide) ?_
            refine j_callS_l C 3 (cm_spelt l d _ 108 101 97) gX10_ruleAtHand_X10_spelt rfl rfl rfl (by decide +kernel) ⟨(Nat.le_of_ble_eq_true rfl), (Nat.le_of_ble_eq_true rfl)⟩ ⟨(Nat.le_of_ble_eq_true rfl), (Nat.le_of_ble_eq_true rfl)⟩ rfl rfl (Nat.le_of_ble_eq_true rfl) dX10_ruleAtHand_149 (fun r149 u149 h149 => ?_)
            obtain ⟨rfl, rfl⟩ := h149
            refine j_lmul C dX10_ruleAtHand_152 ?_
            refine j_ldc2 C (19) (by decide +kernel) dX10_ruleAtHand_153 ?_
            refine j_ladd C dX10_ruleAtHand_156 ?_
            refine j_lmul C dX10_ruleAtHand_157 ?_
            refine j_ldc2 C (20) (by decide +kernel) dX10_ruleAtHand_158 ?_
            refine j_ladd C dX10_ruleAtHand_161 ?_
            refine j_st (st2 := [.long 6476969, .ref o]) (congrArg (fun z => Value.long z :: _) (show ((27) * (((27) * (spl 108 101 97)) + (19))) + (20) = 6476969 by decide +kernel)) ?_
            refine j_callV_i C 1 0 (cm_isKey l d o q m w 6476969) rfl rfl gX10_ruleAtHand_X10_isKey rfl rfl rfl (by decide +kernel) ⟨(Nat.le_of_ble_eq_true rfl), (Nat.le_of_ble_eq_true rfl)⟩ ⟨(Nat.le_of_ble_eq_true rfl), (Nat.le_of_ble_eq_true rfl)⟩ rfl rfl (Nat.le_of_ble_eq_true rfl) dX10_ruleAtHand_162 (fun r162 u162 h162 => ?_)
            obtain ⟨rfl, rfl⟩ := h162
            refine j_if_eq C 172 dX10_ruleAtHand_165 (by decide) (fun c165 => ?_) (fun c165 => ?_)
            · have c165 := bI_0.mp c165
              refine j_iconst C (-1) dX10_ruleAtHand_172 (by decide) ?_
              exact j_iret C hQ dX10_ruleAtHand_173 (⟨by rw [mRule, if_neg c35, if_neg c61, if_neg c79, if_neg c105, if_neg c131, if_neg c165], rfl⟩)
            · have c165 := bI_n0.mp c165
              refine j_iconst C 5 dX10_ruleAtHand_168 (by decide) ?_
              refine j_goto C 173 dX10_ruleAtHand_169 (by decide) ?_
              exact j_iret C hQ dX10_ruleAtHand_173 (⟨by rw [mRule, if_neg c35, if_neg c61, if_neg c79, if_neg c105, if_neg c131, if_pos c165], rfl⟩)
          · have c131 := bI_n0.mp c131
            refine j_iconst C 4 dX10_ruleAtHand_134 (by decide) ?_
            exact j_iret C hQ dX10_ruleAtHand_135 (⟨by rw [mRule, if_neg c35, if_neg c61, if_neg c79, if_neg c105, if_pos c131], rfl⟩)
        · have c105 := bI_n0.mp c105
          refine j_iconst C 3 dX10_ruleAtHand_108 (by decide) ?_
          exact j_iret C hQ dX10_ruleAtHand_109 (⟨by rw [mRule, if_neg c35, if_neg c61, if_neg c79, if_pos c105], rfl⟩)
      · have c79 := bI_n0.mp c79
        refine j_iconst C 2 dX10_ruleAtHand_82 (by decide) ?_
        exact j_iret C hQ dX10_ruleAtHand_83 (⟨by rw [mRule, if_neg c35, if_neg c61, if_pos c79], rfl⟩)
    · have c61 := bI_n0.mp c61
      refine j_iconst C 1 dX10_ruleAtHand_64 (by decide) ?_
      exact j_iret C hQ dX10_ruleAtHand_65 (⟨by rw [mRule, if_neg c35, if_pos c61], rfl⟩)
  · have c35 := bI_n0.mp c35
    refine j_iconst C 0 dX10_ruleAtHand_38 (by decide) ?_
    exact j_iret C hQ dX10_ruleAtHand_39 (⟨by rw [mRule, if_pos c35], rfl⟩)

def sBad (m : Nat → Nat → Int32) (k : Int32) : Nat → Nat → Int32 := mu (mu m 13 0 (if m 11 0 = 1 then 1 else k)) 14 0 (m 10 0)

set_option maxHeartbeats 4000000 in
set_option maxRecDepth 100000 in
theorem cm_bad (l : Launch) (d : jD) (o : Nat) (q : Nat → Nat) (m : Nat → Nat → Int32) (w : Int64) (k : Int32) : jMi noE d l yX10_bad wsX10_bad ({ frames := 0, cells := 0, slots := 0, locals := 0 } : Room) 0 0 [.ref o, .int k] (mW o q d m w) (fun r u => r = 0 ∧ u = mW o q d (sBad m k) w) := by
  refine jMi.mk noE_k (by decide) rfl (Nat.le_of_ble_eq_true rfl) (fun X A C hQ => ?_)
  have hin : ∀ w ∈ u_ws RX10 TX10 37, w ∈ wsX10_bad := fun w h => List.mem_cons_of_mem _ (List.mem_append_right _ h)
  refine j_lvq (lv2 := [(0, .ref o), (1, .int k)]) rfl ?_
  refine j_aload_n C 0 dX10_bad_0 rfl rfl ?_
  refine j_aload_n C 0 dX10_bad_1 rfl rfl ?_
  refine mg_kind C hin (by decide +kernel) dX10_bad_2 ?_
  refine j_iconst C 1 dX10_bad_5 (by decide) ?_
  refine j_icmp_ne C 13 dX10_bad_6 (by decide) (fun c6 => ?_) (fun c6 => ?_)
  · refine j_iload_n C 1 dX10_bad_13 rfl rfl ?_
    refine mp_fault C hin (by decide +kernel) dX10_bad_14 ?_
    refine j_aload_n C 0 dX10_bad_17 rfl rfl ?_
    refine j_aload_n C 0 dX10_bad_18 rfl rfl ?_
    refine mg_from C hin (by decide +kernel) dX10_bad_19 ?_
    refine j_st (st2 := [.int (m 10 0), .ref o]) rfl ?_
    refine mp_place C hin (by decide +kernel) dX10_bad_22 ?_
    refine j_iconst C 0 dX10_bad_25 (by decide) ?_
    exact j_zret C hQ rfl dX10_bad_26 (⟨rfl, by rw [sBad, if_neg c6]⟩)
  · refine j_iconst C 1 dX10_bad_9 (by decide) ?_
    refine j_goto C 14 dX10_bad_10 (by decide) ?_
    refine mp_fault C hin (by decide +kernel) dX10_bad_14 ?_
    refine j_aload_n C 0 dX10_bad_17 rfl rfl ?_
    refine j_aload_n C 0 dX10_bad_18 rfl rfl ?_
    refine mg_from C hin (by decide +kernel) dX10_bad_19 ?_
    refine j_st (st2 := [.int (m 10 0), .ref o]) rfl ?_
    refine mp_place C hin (by decide +kernel) dX10_bad_22 ?_
    refine j_iconst C 0 dX10_bad_25 (by decide) ?_
    exact j_zret C hQ rfl dX10_bad_26 (⟨rfl, by rw [sBad, if_pos c6]⟩)


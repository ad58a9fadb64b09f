section SIM
variable {T : Nat → Int32} {sz : Nat} {c c' c2 : Nat → Nat → Nat → Int32} {m m' m2 : Nat → Nat → Int32} {w : Int64} {op o' : Option Nat}
def mRow (a : Nat) : Prop := a ≠ 3 ∧ a ≠ 7 ∧ a ≠ 9 ∧ a ≠ 10 ∧ a ≠ 11 ∧ a ≠ 12 ∧ a ≠ 13 ∧ a ≠ 14 ∧ a ≠ 15
def R4 (c : Nat → Nat → Nat → Int32) (m : Nat → Nat → Int32) : Prop := ∀ j, j < 6 → c 4 0 j = m 3 j ∧ loR j ≤ m 3 j ∧ m 3 j ≤ hiR j
def FOut (c : Nat → Nat → Nat → Int32) (m : Nat → Nat → Int32) (oc : Int32 × Option Nat × (Nat → Nat → Nat → Int32)) (om : Int32 × (Nat → Nat → Int32) × Int64) : Prop := oc.1 = om.1 ∧ oc.2.2 3 0 5 = om.2.1 13 0 ∧ R4 oc.2.2 om.2.1 ∧ (∀ a, a ≠ 3 → a ≠ 4 → a ≠ 5 → oc.2.2 a = c a) ∧ ∀ a, mRow a → om.2.1 a = m a
def zE (sz q : Nat) (op : Option Nat) (c : Nat → Nat → Nat → Int32) : Int32 × Option Nat × (Nat → Nat → Nat → Int32) := zFin (zz sz q op c).1 (zFt sz (zz sz q op c).2)
theorem FOut.mono {oc : Int32 × Option Nat × (Nat → Nat → Nat → Int32)} {om : Int32 × (Nat → Nat → Int32) × Int64} (h : FOut c' m' oc om) (hc : ∀ a, a ≠ 3 → a ≠ 5 → c' a = c a) (hm : ∀ a, mRow a → m' a = m a) : FOut c m oc om :=
  ⟨h.1, h.2.1, h.2.2.1, fun a h1 h2 h3 => (h.2.2.2.1 a h1 h2 h3).trans (hc a h1 h3), fun a ha => (h.2.2.2.2 a ha).trans (hm a ha)⟩
theorem cFt_r {k : Int32} {s a : Nat} (h : a ≠ 3) : cFt c k s a = c a := by
  unfold cFt
  rw [cu_rw h, cu_rw h]
theorem cFt_6 {k : Int32} {s : Nat} : cFt c k s 3 0 6 = nI s := by
  unfold cFt
  rw [cu_at, if_pos ⟨rfl, rfl, rfl⟩]
theorem cAt_r {q : Nat} (h : c' 2 = c 2) : cAt c' sz q = cAt c sz q := by
  unfold cAt
  rw [h]
theorem zE_bad {q s : Nat} {k : Int32} (hz : zz sz q op c = (o', cFt c2 k s)) (hk : ¬ k = 0) : zE sz q op c = (-1 - nI s, o', cFt c2 k s) := by
  unfold zE
  rw [hz]
  dsimp only
  have h5 : ¬ cFt c2 k s 3 0 5 = 0 := by rw [cFt_5]; exact hk
  unfold zFt
  rw [if_neg (fun z => h5 z.1)]
  unfold zFin
  rw [if_neg h5, cFt_6]
theorem zE_end {q : Nat} (hz : zz sz q op c = (op, c)) (h0 : c 3 0 5 = 0) (h : ¬ c 3 0 3 = 1 ∨ 120 < sz) : zE sz q op c = (-1 - nI (stp sz), op, cFt c 1 (stp sz)) := by
  unfold zE
  rw [hz]
  dsimp only
  unfold zFt
  rw [if_pos ⟨h0, h⟩]
  unfold zFin
  rw [if_neg (by rw [cFt_5]; decide), cFt_6]
theorem FO_bad {s : Nat} {k k2 : Int32} (h4 : R4 c m) (hc : ∀ a, a ≠ 3 → a ≠ 5 → c2 a = c a) (hm : ∀ a, a ≠ 7 → goRow a → a ≠ 15 → m2 a = m a) (hk : (if m2 11 0 = 1 then 1 else k2) = k) (hp : m2 10 0 = nI s) : FOut c m (-1 - nI s, o', cFt c2 k s) (-1 - sBad m2 k2 14 0, sBad m2 k2, w) := by
  have r14 : sBad m2 k2 14 0 = nI s := by
    unfold sBad
    rw [mu_at, if_pos ⟨rfl, rfl⟩, hp]
  have r13 : sBad m2 k2 13 0 = k := by
    unfold sBad
    rw [mu_at, if_neg (by omega), mu_at, if_pos ⟨rfl, rfl⟩, hk]
  refine ⟨?_, ?_, ?_, fun a h1 h2 h3 => ?_, fun a ha => ?_⟩
  · show -1 - nI s = -1 - sBad m2 k2 14 0
    rw [r14]
  · show cFt c2 k s 3 0 5 = sBad m2 k2 13 0
    rw [cFt_5, r13]
  · intro j hj
    show cFt c2 k s 4 0 j = sBad m2 k2 3 j ∧ loR j ≤ sBad m2 k2 3 j ∧ sBad m2 k2 3 j ≤ hiR j
    rw [cFt_r (by decide), hc 4 (by decide) (by decide), sBad_r m2 k2 (by decide) (by decide), hm 3 (by decide) ⟨by decide, by decide, by decide, by decide⟩ (by decide)]
    exact h4 j hj
  · show cFt c2 k s a = c a
    rw [cFt_r h1, hc a h1 h3]
  · show sBad m2 k2 a = m a
    obtain ⟨q1, q2, q3, q4, q5, q6, q7, q8, q9⟩ := ha
    rw [sBad_r m2 k2 q7 q8, hm a q2 ⟨q3, q4, q5, q6⟩ q9]
theorem bit_set : ∀ k, k < 64 → ∀ i, i < 6 → (nI k ||| 1 <<< (nI i &&& 31) = nI (k ||| 1 <<< i) ∧ (k ||| 1 <<< i) < 64) ∧ ∀ j, j < 6 → ((nI (k ||| 1 <<< i) >>> (nI j &&& 31) &&& 1 = 1) ↔ (i = j ∨ nI k >>> (nI j &&& 31) &&& 1 = 1)) := by decide +kernel
def TR (c5 : Nat → Int32) (b : Int32) (m7 : Nat → Int32) (i : Nat) : Prop := (c5 i = -1 ∧ ¬ (b >>> (nI i &&& 31) &&& 1 = 1) ∧ m7 i = unR i) ∨ (¬ c5 i = -1 ∧ (b >>> (nI i &&& 31) &&& 1 = 1) ∧ m7 i = c5 i ∧ loR i ≤ c5 i ∧ c5 i ≤ hiR i)
def SR (c : Nat → Nat → Nat → Int32) (m : Nat → Nat → Int32) (n : Nat) : Prop := c 3 0 2 = nI n ∧ ∃ k, k < 64 ∧ m 15 0 = nI k ∧ ∀ i, i < 6 → TR (c 5 0) (m 15 0) (m 7) i
theorem rK2_all (hs : sz ≤ 140) {s : Nat} (h : s < sz) (hk : rK T sz s = 2) : ∀ j, j < rlen T sz 141 s → s + j < sz ∧ isL (T (s + j)) := by
  unfold rK at hk
  by_cases hw : ¬ isL (T s) ∧ ¬ isDg (T s)
  · rw [if_pos hw] at hk
    split at hk <;> exact absurd hk (by decide)
  · rw [if_neg hw, kd_2 bI_01] at hk
    obtain ⟨q1, q2⟩ := hk
    rw [gd_iff, q1] at q2
    intro j hj
    refine ⟨isLD_lt (rlen_all hs j s hj), ?_⟩
    have := q2 j hj
    by_cases y : isL (T (s + j))
    · exact y
    · rw [← bI_f y] at this
      exact absurd this (by decide)
theorem cPf_at (c : Nat → Nat → Nat → Int32) : ∀ k, k ≤ 6 → ∀ a i j, cPf c k a i j = if a = 4 ∧ i = 0 ∧ j < k then (if c 5 0 j = -1 then unR j else c 5 0 j) else c a i j
  | 0, _, a, i, j => by rw [cPf, if_neg (by omega)]
  | k + 1, hk, a, i, j => by
    have ih := cPf_at c k (by omega)
    have h5 : cPf c k 5 0 k = c 5 0 k := by rw [ih, if_neg (by omega)]
    rw [cPf, cu_at, h5, ih]
    by_cases e : a = 4 ∧ i = 0 ∧ j = k
    · rw [if_pos e, if_pos (c := a = 4 ∧ i = 0 ∧ j < k + 1) (by omega), e.2.2]
    · rw [if_neg e]
      have e1 : (a = 4 ∧ i = 0 ∧ j < k + 1) ↔ (a = 4 ∧ i = 0 ∧ j < k) := by omega
      simp only [e1]
theorem mF7_at (m : Nat → Nat → Int32) : ∀ k a j, mF7 m k a j = if a = 3 ∧ j < k then m 7 j else m a j
  | 0, a, j => by rw [mF7, if_neg (by omega)]
  | k + 1, a, j => by
    have h7 : mF7 m k 7 k = m 7 k := by rw [mF7_at m k 7 k, if_neg (by omega)]
    rw [mF7, mu_at, h7, mF7_at m k a j]
    by_cases e : a = 3 ∧ j = k
    · rw [if_pos e, if_pos (c := a = 3 ∧ j < k + 1) (by omega), e.2]
    · rw [if_neg e]
      have e1 : (a = 3 ∧ j < k + 1) ↔ (a = 3 ∧ j < k) := by omega
      simp only [e1]
theorem un_b : ∀ j, j < 6 → loR j ≤ unR j ∧ unR j ≤ hiR j ∧ ¬ loR j ≤ -1 := by decide
end SIM

/-! CUT BACK: both ways come to the same -/
theorem nI_mul (a b : Nat) : nI a * nI b = nI (a * b) := (Int32.ofNat_mul a b).symm
theorem nI_div {a b : Nat} (ha : a < 2 ^ 31) (hb : b < 2 ^ 31) : nI a / nI b = nI (a / b) := (Int32.ofNat_div ha hb).symm
theorem nI_sub {a b : Nat} (h : b ≤ a) : nI a - nI b = nI (a - b) := by
  have h1 : nI (a - b) + nI b = nI a := by rw [nI_add, Nat.sub_add_cancel h]
  rw [← h1]
  exact Int32.add_sub_cancel _ _
theorem nI_rem {a b : Nat} (ha : a < 2 ^ 31) (hb : b < 2 ^ 31) : nI a - nI a / nI b * nI b = nI (a % b) := by
  rw [nI_div ha hb, nI_mul, nI_sub (Nat.div_mul_le_self a b)]
  congr 1
  have := Nat.div_add_mod a b
  rw [Nat.mul_comm] at this
  omega
def sumN (f : Nat → Nat) : Nat → Nat
  | 0 => 0
  | k + 1 => sumN f k + f k
theorem sumN_ext {f g : Nat → Nat} : ∀ {k : Nat}, (∀ i, i < k → f i = g i) → sumN f k = sumN g k
  | 0, _ => rfl
  | k + 1, h => by rw [sumN, sumN, sumN_ext (fun i hi => h i (by omega)), h k (by omega)]
theorem sumN_le {f g : Nat → Nat} : ∀ {k : Nat}, (∀ i, i < k → f i ≤ g i) → sumN f k ≤ sumN g k
  | 0, _ => Nat.le_refl _
  | k + 1, h => by
    have h1 := sumN_le (fun i hi => h i (by omega) : ∀ i, i < k → f i ≤ g i)
    have h2 := h k (by omega)
    rw [sumN, sumN]
    omega
theorem sumN_bd {f : Nat → Nat} {B : Nat} : ∀ {k : Nat}, (∀ i, i < k → f i ≤ B) → sumN f k ≤ k * B
  | 0, _ => by simp [sumN]
  | k + 1, h => by
    have h1 := sumN_bd (fun i hi => h i (by omega) : ∀ i, i < k → f i ≤ B)
    have h2 := h k (by omega)
    rw [sumN, Nat.add_mul]
    omega
theorem sumN_add {f g : Nat → Nat} : ∀ k, sumN (fun i => f i + g i) k = sumN f k + sumN g k
  | 0 => rfl
  | k + 1 => by rw [sumN, sumN, sumN, sumN_add k]; omega
theorem sumN_mul {f : Nat → Nat} {c : Nat} : ∀ k, sumN (fun i => f i * c) k = sumN f k * c
  | 0 => by simp [sumN]
  | k + 1 => by rw [sumN, sumN, sumN_mul k, Nat.add_mul]
theorem sumN_put {f g : Nat → Nat} {j v : Nat} : ∀ {k : Nat}, j < k → (∀ i, i < k → i ≠ j → g i = f i) → g j = f j + v → sumN g k = sumN f k + v
  | k + 1, hj, h, hv => by
    rw [sumN, sumN]
    by_cases e : j = k
    · subst e
      rw [sumN_ext (f := g) (g := f) (fun i hi => h i (by omega) (by omega)), hv]
      omega
    · rw [sumN_put (f := f) (g := g) (j := j) (v := v) (k := k) (by omega) (fun i hi hne => h i (by omega) hne) hv, h k (by omega) (fun q => e q.symm)]
      omega
theorem sumZ_nI {f : Nat → Int32} {g : Nat → Nat} : ∀ {k : Nat}, (∀ i, i < k → f i = nI (g i) ∧ g i < 2 ^ 31) → sumZ (fun i => (f i).toInt) k = (sumN g k : Nat)
  | 0, _ => rfl
  | k + 1, h => by
    rw [sumZ, sumN, sumZ_nI (fun i hi => h i (by omega)), (h k (by omega)).1, nI_toInt (h k (by omega)).2]
    omega
theorem sumA_nI {f : Nat → Int32} {g : Nat → Nat} : ∀ {k : Nat}, (∀ i, i < k → f i = nI (g i)) → sumA f k = nI (sumN g k)
  | 0, _ => rfl
  | k + 1, h => by rw [sumA, sumN, sumA_nI (fun i hi => h i (by omega)), h k (by omega), nI_add]
theorem mP1_at (m : Nat → Nat → Int32) : ∀ (k a b : Nat), mP1 m k a b = if a = 36 ∧ b < k then m 35 b else m a b
  | 0, a, b => by rw [mP1, if_neg (by omega)]
  | k + 1, a, b => by
    have h35 : mP1 m k 35 k = m 35 k := by rw [mP1_at m k 35 k, if_neg (by omega)]
    rw [mP1, mu_at, h35, mP1_at m k a b]
    by_cases h : a = 36
    · by_cases e : b = k
      · rw [if_pos ⟨h, e⟩, if_pos ⟨h, by omega⟩, e]
      · rw [if_neg (fun q => e q.2)]
        by_cases l : b < k
        · rw [if_pos ⟨h, l⟩, if_pos ⟨h, by omega⟩]
        · rw [if_neg (fun q => l q.2), if_neg (by omega)]
    · rw [if_neg (fun q => h q.1), if_neg (fun q => h q.1), if_neg (fun q => h q.1)]
theorem mP2_at (m : Nat → Nat → Int32) (n al : Int32) : ∀ (k a b : Nat), mP2 m n al k a b = if a = 36 ∧ b < k then m 35 b * n / al else m a b
  | 0, a, b => by rw [mP2, if_neg (by omega)]
  | k + 1, a, b => by
    have h35 : mP2 m n al k 35 k = m 35 k := by rw [mP2_at m n al k 35 k, if_neg (by omega)]
    rw [mP2, mu_at, h35, mP2_at m n al k a b]
    by_cases h : a = 36
    · by_cases e : b = k
      · rw [if_pos ⟨h, e⟩, if_pos ⟨h, by omega⟩, e]
      · rw [if_neg (fun q => e q.2)]
        by_cases l : b < k
        · rw [if_pos ⟨h, l⟩, if_pos ⟨h, by omega⟩]
        · rw [if_neg (fun q => l q.2), if_neg (by omega)]
    · rw [if_neg (fun q => h q.1), if_neg (fun q => h q.1), if_neg (fun q => h q.1)]
theorem mSumW_nI {m : Nat → Nat → Int32} {W : Nat → Nat} : ∀ {k : Nat}, (∀ i, i < k → m 35 i = nI (W i)) → mSumW m k = nI (sumN W k)
  | 0, _ => rfl
  | k + 1, h => by rw [mSumW, sumN, mSumW_nI (fun i hi => h i (by omega)), mP1_at, if_neg (by omega), h k (by omega), nI_add]
theorem gB_max (f : Nat → Int32) : ∀ k, gB f k ≤ k ∧ ∀ i, i ≤ k → f i ≤ f (gB f k)
  | 0 => ⟨Nat.le_refl _, fun i hi => by
      have : i = 0 := by omega
      rw [this]
      exact Int32.le_refl _⟩
  | k + 1 => by
    obtain ⟨h1, h2⟩ := gB_max f k
    rw [gB]
    by_cases h : f (k + 1) ≤ f (gB f k)
    · rw [if_pos h]
      refine ⟨by omega, fun i hi => ?_⟩
      by_cases e : i = k + 1
      · rw [e]; exact h
      · exact h2 i (by omega)
    · rw [if_neg h]
      refine ⟨Nat.le_refl _, fun i hi => ?_⟩
      by_cases e : i = k + 1
      · rw [e]; exact Int32.le_refl _
      · have h3 := h2 i (by omega)
        rw [T_le] at h h3 ⊢
        omega
section CUT
variable {W : Nat → Nat} {N S : Nat} {U : Nat → Bool}
abbrev uN (U : Nat → Bool) (b : Nat) : Nat := if U b = true then 1 else 0
/-- the greatest rest: one and the same on both sides -/
theorem best_eq {s : Nat → Nat → Int32} {f : Nat → Int32} {n al : Int32} {r : Nat → Nat} (hr : ∀ b, b < 28 → r b < 2 ^ 31) (hf : ∀ b, b < 28 → f b = if U b = true then -1 else nI (r b)) (hs : ∀ b, b < 28 → (s 36 b = s 35 b * n / al ↔ ¬ U b = true)) (hm : ∀ b, b < 28 → mRem s n al b = nI (r b)) : ∀ k, k < 28 → (f (gB f k) = -1 ∧ mBest s n al (k + 1) = -1) ∨ (U (gB f k) = false ∧ mBest s n al (k + 1) = nI (gB f k))
  | 0, _ => by
    rw [mBest, mBest]
    show (f 0 = -1 ∧ _) ∨ (U 0 = false ∧ _)
    cases hU : U 0 with
    | true =>
      refine Or.inl ⟨by rw [hf 0 (by decide), hU]; rfl, if_neg (fun q => (hs 0 (by decide)).mp q.1 hU)⟩
    | false =>
      exact Or.inr ⟨rfl, if_pos ⟨(hs 0 (by decide)).mpr (by rw [hU]; decide), Or.inl rfl⟩⟩
  | k + 1, hk => by
    have ih := best_eq hr hf hs hm k (by omega)
    obtain ⟨hg, -⟩ := gB_max f k
    rw [gB, mBest]
    cases hU : U (k + 1) with
    | true =>
      have hf1 : f (k + 1) = -1 := by rw [hf (k + 1) hk, hU]; rfl
      have hle : f (k + 1) ≤ f (gB f k) := by
        rw [hf1, hf (gB f k) (by omega)]
        split
        · exact Int32.le_refl _
        · rw [T_le, nI_toInt (hr _ (by omega))]
          have : (-1 : Int32).toInt = -1 := rfl
          omega
      rw [if_pos hle, if_neg (fun q => (hs (k + 1) hk).mp q.1 hU)]
      exact ih
    | false =>
      have hf1 : f (k + 1) = nI (r (k + 1)) := by rw [hf (k + 1) hk, hU]; rfl
      have hs1 := (hs (k + 1) hk).mpr (by rw [hU]; decide)
      have t1 : (-1 : Int32).toInt = -1 := rfl
      rcases ih with ⟨i1, i2⟩ | ⟨i1, i2⟩
      · have hgt : ¬ f (k + 1) ≤ f (gB f k) := by
          rw [hf1, i1, T_le, nI_toInt (hr _ hk)]
          omega
        rw [if_neg hgt, if_pos ⟨hs1, Or.inl i2⟩]
        exact Or.inr ⟨hU, rfl⟩
      · have hfg : f (gB f k) = nI (r (gB f k)) := by rw [hf _ (by omega), i1]; rfl
        have hne : ¬ mBest s n al (k + 1) = -1 := by
          rw [i2]
          intro q
          have q2 := congrArg Int32.toInt q
          rw [nI_toInt (by omega)] at q2
          omega
        have e : mRem s n al (k + 1) ≤ mRem s n al (tn (mBest s n al (k + 1))) ↔ f (k + 1) ≤ f (gB f k) := by
          rw [i2, tn_nI (by omega), hm _ hk, hm _ (by omega), hf1, hfg]
        by_cases hc : f (k + 1) ≤ f (gB f k)
        · rw [if_pos hc, if_neg (fun q => q.2.elim hne (fun z => z (e.mpr hc)))]
          exact Or.inr ⟨i1, i2⟩
        · rw [if_neg hc, if_pos ⟨hs1, Or.inr (fun z => hc (e.mp z))⟩]
          exact Or.inr ⟨hU, rfl⟩
theorem cC1_at (c : Nat → Nat → Nat → Int32) (mo al : Int32) : ∀ (k a i j : Nat), cC1 c mo al k a i j = if a = 11 ∧ i = 0 ∧ j < k then (if al ≤ 0 then 0 else c 10 0 j * mo / al) else if a = 12 ∧ i = 0 ∧ j < k then (if al ≤ 0 then 0 else c 10 0 j * mo - c 10 0 j * mo / al * al) else c a i j
  | 0, a, i, j => by rw [cC1, if_neg (by omega), if_neg (by omega)]
  | k + 1, a, i, j => by
    have h10 : cC1 c mo al k 10 0 k = c 10 0 k := by rw [cC1_at c mo al k 10 0 k, if_neg (by omega), if_neg (by omega)]
    rw [cC1, cu_at, cu_at, h10, cC1_at c mo al k a i j]
    by_cases h : a = 11 ∧ i = 0
    · obtain ⟨rfl, rfl⟩ := h
      rw [if_neg (by omega)]
      by_cases e : j = k
      · subst e
        rw [if_pos ⟨rfl, rfl, rfl⟩, if_pos (c := 11 = 11 ∧ 0 = 0 ∧ j < j + 1) ⟨rfl, rfl, by omega⟩]
      · rw [if_neg (fun q => e q.2.2)]
        by_cases l : j < k
        · rw [if_pos ⟨rfl, rfl, l⟩, if_pos (c := 11 = 11 ∧ 0 = 0 ∧ j < k + 1) ⟨rfl, rfl, by omega⟩]
        · rw [if_neg (fun q => l q.2.2), if_neg (by omega), if_neg (by omega), if_neg (by omega)]
    · rw [if_neg (fun q : a = 11 ∧ i = 0 ∧ j = k => h ⟨q.1, q.2.1⟩), if_neg (fun q : a = 11 ∧ i = 0 ∧ j < k => h ⟨q.1, q.2.1⟩), if_neg (fun q : a = 11 ∧ i = 0 ∧ j < k + 1 => h ⟨q.1, q.2.1⟩)]
      by_cases g : a = 12 ∧ i = 0
      · obtain ⟨rfl, rfl⟩ := g
        by_cases e : j = k
        · subst e
          rw [if_pos ⟨rfl, rfl, rfl⟩, if_pos (c := 12 = 12 ∧ 0 = 0 ∧ j < j + 1) ⟨rfl, rfl, by omega⟩]
        · rw [if_neg (fun q => e q.2.2)]
          by_cases l : j < k
          · rw [if_pos ⟨rfl, rfl, l⟩, if_pos (c := 12 = 12 ∧ 0 = 0 ∧ j < k + 1) ⟨rfl, rfl, by omega⟩]
          · rw [if_neg (fun q => l q.2.2), if_neg (by omega)]
      · rw [if_neg (fun q => g ⟨q.1, q.2.1⟩), if_neg (fun q => g ⟨q.1, q.2.1⟩), if_neg (fun q => g ⟨q.1, q.2.1⟩)]
/-- floors and rests -/
theorem cut_n (hW : ∀ b, b < 28 → W b ≤ 1000) (hN : N ≤ 1000) (hS : S = sumN W 28) (hlt : N < S) : (∀ b, b < 28 → W b * N / S ≤ W b ∧ W b * N % S < S ∧ W b * N ≤ 1000000 ∧ (0 < W b * N % S → W b * N / S + 1 ≤ W b)) ∧ sumN (fun b => W b * N / S) 28 ≤ N ∧ (N - sumN (fun b => W b * N / S) 28) * S = sumN (fun b => W b * N % S) 28 ∧ S ≤ 28000 := by
  have hS2 : S ≤ 28 * 1000 := by rw [hS]; exact sumN_bd hW
  have h1 : sumN (fun b => W b * N / S) 28 * S + sumN (fun b => W b * N % S) 28 = S * N := by
    rw [← sumN_mul, ← sumN_add, hS, ← sumN_mul, ← hS]
    refine sumN_ext (fun b hb => ?_)
    have := Nat.div_add_mod (W b * N) S
    rw [Nat.mul_comm] at this
    exact this
  have h2 : sumN (fun b => W b * N / S) 28 ≤ N := by
    refine Nat.le_of_mul_le_mul_right (c := S) ?_ (by omega)
    rw [Nat.mul_comm N S]
    omega
  refine ⟨fun b hb => ?_, h2, ?_, by omega⟩
  · have hw := hW b hb
    have h3 : W b * N / S ≤ W b := by
      refine Nat.div_le_of_le_mul ?_
      rw [Nat.mul_comm S (W b)]
      exact Nat.mul_le_mul_left _ (by omega)
    refine ⟨h3, Nat.mod_lt _ (by omega), Nat.le_trans (Nat.mul_le_mul hw hN) (by decide), fun hpos => ?_⟩
    have hw0 : 0 < W b := by
      rcases Nat.eq_zero_or_pos (W b) with q | q
      · rw [q, Nat.zero_mul, Nat.zero_mod] at hpos
        omega
      · exact q
    refine Nat.succ_le_of_lt ((Nat.div_lt_iff_lt_mul (by omega)).mpr ?_)
    exact Nat.mul_lt_mul_of_pos_left hlt hw0
  · rw [Nat.sub_mul, Nat.mul_comm N S]
    omega
/-- where fewer have been taken than are to be, one with a rest is left -/
theorem cut_left (hlt : N < S) {rm : Nat → Nat} (hrm : ∀ b, b < 28 → rm b < S) {t R : Nat} (hR : R * S = sumN rm 28) (hc : sumN (uN U) 28 = t) (ht : t < R) : ∃ b, b < 28 ∧ U b = false ∧ 0 < rm b := by
  refine Classical.byContradiction (fun hno => ?_)
  have h1 : ∀ b, b < 28 → rm b ≤ uN U b * (S - 1) := by
    intro b hb
    cases hU : U b with
    | true =>
      have := hrm b hb
      simp [uN, hU]
      omega
    | false =>
      have : ¬ 0 < rm b := fun q => hno ⟨b, hb, hU, q⟩
      omega
  have h2 := sumN_le h1
  rw [sumN_mul, hc, ← hR] at h2
  have h3 : t * (S - 1) ≤ (R - 1) * (S - 1) := Nat.mul_le_mul_right _ (by omega)
  have h4 : (R - 1) * (S - 1) < R * S := by
    have a1 : (R - 1) * (S - 1) ≤ (R - 1) * S := Nat.mul_le_mul_left _ (by omega)
    have a2 : (R - 1) * S < R * S := Nat.mul_lt_mul_of_pos_right (by omega) (by omega)
    omega
  omega
end CUT

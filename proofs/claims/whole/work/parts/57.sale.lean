/-! the loops of a sale, told place by place -/
section SALE
variable {n : Nat → Nat} {c : Nat → Nat → Nat → Int32} {m : Nat → Nat → Int32}
theorem mWk_at (m : Nat → Nat → Int32) (x nP : Nat) : ∀ (k a b : Nat), mWk m x nP k a b = if a = 35 ∧ b < k then (if b < nP ∧ m 23 b = nI x then m 27 (10 * b + x) else 0) else m a b
  | 0, a, b => by rw [mWk, if_neg (by omega)]
  | k + 1, a, b => by
    have h1 : mWk m x nP k 23 k = m 23 k := by rw [mWk_at m x nP k 23 k, if_neg (by omega)]
    have h2 : mWk m x nP k 27 (10 * k + x) = m 27 (10 * k + x) := by rw [mWk_at m x nP k 27 _, if_neg (by omega)]
    rw [mWk, mu_at, h1, h2, mWk_at m x nP k a b]
    by_cases h : a = 35 ∧ b = k
    · rw [if_pos h, if_pos (c := a = 35 ∧ b < k + 1) ⟨h.1, by omega⟩, h.2]
    · rw [if_neg h]
      by_cases g : a = 35 ∧ b < k
      · rw [if_pos g, if_pos (c := a = 35 ∧ b < k + 1) ⟨g.1, by omega⟩]
      · rw [if_neg g, if_neg (c := a = 35 ∧ b < k + 1) (by omega)]
theorem mWl_at (m : Nat → Nat → Int32) (x : Nat) : ∀ (k a b : Nat), mWl m x k a b = if a = 35 ∧ b < k then m 27 (10 * b + x) else m a b
  | 0, a, b => by rw [mWl, if_neg (by omega)]
  | k + 1, a, b => by
    have h2 : mWl m x k 27 (10 * k + x) = m 27 (10 * k + x) := by rw [mWl_at m x k 27 _, if_neg (by omega)]
    rw [mWl, mu_at, h2, mWl_at m x k a b]
    by_cases h : a = 35 ∧ b = k
    · rw [if_pos h, if_pos (c := a = 35 ∧ b < k + 1) ⟨h.1, by omega⟩, h.2]
    · rw [if_neg h]
      by_cases g : a = 35 ∧ b < k
      · rw [if_pos g, if_pos (c := a = 35 ∧ b < k + 1) ⟨g.1, by omega⟩]
      · rw [if_neg g, if_neg (c := a = 35 ∧ b < k + 1) (by omega)]
theorem cWW_at (n : Nat → Nat) (c : Nat → Nat → Nat → Int32) (x : Nat) : ∀ (k a i j : Nat), cWW n c x k a i j = if a = 10 ∧ i = 0 ∧ j < k then (if j < n 1 ∧ c 18 j 1 = nI x then c 14 x j else 0) else c a i j
  | 0, a, i, j => by rw [cWW, if_neg (by omega)]
  | k + 1, a, i, j => by
    have h1 : cWW n c x k 18 k 1 = c 18 k 1 := by rw [cWW_at n c x k 18 k 1, if_neg (by omega)]
    have h2 : cWW n c x k 14 x k = c 14 x k := by rw [cWW_at n c x k 14 x k, if_neg (by omega)]
    rw [cWW, cu_at, h1, h2, cWW_at n c x k a i j]
    by_cases h : a = 10 ∧ i = 0 ∧ j = k
    · rw [if_pos h, if_pos (c := a = 10 ∧ i = 0 ∧ j < k + 1) ⟨h.1, h.2.1, by omega⟩, h.2.2]
    · rw [if_neg h]
      by_cases g : a = 10 ∧ i = 0 ∧ j < k
      · rw [if_pos g, if_pos (c := a = 10 ∧ i = 0 ∧ j < k + 1) ⟨g.1, g.2.1, by omega⟩]
      · rw [if_neg g, if_neg (c := a = 10 ∧ i = 0 ∧ j < k + 1) (by omega)]
theorem zA1_at (c : Nat → Nat → Nat → Int32) (x a i j : Nat) : zA1 c x a i j = if a = 10 ∧ i = 0 ∧ j < 28 then c 14 x j else c a i j := by
  unfold zA1 cRow va_cpy
  by_cases h : a = 10
  · subst h
    by_cases e : i = 0
    · subst e
      simp
    · simp [e]
  · simp [h]
theorem mSells_at (m : Nat → Nat → Int32) (x : Nat) (hx : x < 10) (p : Int32) : ∀ (k a j : Nat), mSells m x p k a j = if a = 28 ∧ j % 10 = x ∧ j / 10 < k then m 28 j + m 36 (j / 10) else if a = 27 ∧ j % 10 = x ∧ j / 10 < k then m 27 j - m 36 (j / 10) else if a = 22 ∧ j < k then m 22 j - m 36 j * p else m a j
  | 0, a, j => by rw [mSells, if_neg (by omega), if_neg (by omega), if_neg (by omega)]
  | k + 1, a, j => by
    have ih := mSells_at m x hx p k
    have h36 : mSells m x p k 36 k = m 36 k := by rw [ih, if_neg (by omega), if_neg (by omega), if_neg (by omega)]
    have h28 : mSells m x p k 28 (10 * k + x) = m 28 (10 * k + x) := by rw [ih, if_neg (by omega), if_neg (by omega), if_neg (by omega)]
    have h27 : mSells m x p k 27 (10 * k + x) = m 27 (10 * k + x) := by rw [ih, if_neg (by omega), if_neg (by omega), if_neg (by omega)]
    have h22 : mSells m x p k 22 k = m 22 k := by rw [ih, if_neg (by omega), if_neg (by omega), if_neg (by omega)]
    rw [mSells, mu_at, mu_at, mu_at, h36, h28, h27, h22, ih a j]
    by_cases a28 : a = 28
    · subst a28
      rw [if_neg (by omega), if_neg (by omega)]
      by_cases e : j = 10 * k + x
      · rw [if_pos ⟨rfl, e⟩, if_pos (by omega), show j / 10 = k by omega, e]
      · rw [if_neg (by omega)]
        by_cases q : j % 10 = x ∧ j / 10 < k
        · rw [if_pos ⟨rfl, q⟩, if_pos (by omega)]
        · rw [if_neg (by omega), if_neg (by omega), if_neg (by omega), if_neg (by omega), if_neg (by omega), if_neg (by omega)]
    · by_cases a27 : a = 27
      · subst a27
        rw [if_neg (by omega)]
        by_cases e : j = 10 * k + x
        · rw [if_pos ⟨rfl, e⟩, if_neg (by omega), if_pos (by omega), show j / 10 = k by omega, e]
        · rw [if_neg (by omega), if_neg (by omega), if_neg (by omega)]
          by_cases q : j % 10 = x ∧ j / 10 < k
          · rw [if_pos ⟨rfl, q⟩, if_neg (by omega), if_pos (by omega)]
          · rw [if_neg (by omega), if_neg (by omega), if_neg (by omega), if_neg (by omega), if_neg (by omega)]
      · by_cases a22 : a = 22
        · subst a22
          by_cases e : j = k
          · rw [if_pos ⟨rfl, e⟩, if_neg (by omega), if_neg (by omega), if_pos (by omega), e]
          · rw [if_neg (by omega), if_neg (by omega), if_neg (by omega), if_neg (by omega), if_neg (by omega)]
            by_cases q : j < k
            · rw [if_pos ⟨rfl, q⟩, if_neg (by omega), if_neg (by omega), if_pos (by omega)]
            · rw [if_neg (by omega), if_neg (by omega), if_neg (by omega), if_neg (by omega)]
        · rw [if_neg (by omega), if_neg (by omega), if_neg (by omega), if_neg (by omega), if_neg (by omega), if_neg (by omega), if_neg (by omega), if_neg (by omega), if_neg (by omega)]
theorem mSold_nI {g : Nat → Nat} {x : Nat} (hx : x < 10) {p : Int32} (hg : ∀ b, b < 28 → m 36 b = nI (g b)) : ∀ k, k ≤ 28 → mSold m x p k = nI (sumN g k)
  | 0, _ => rfl
  | k + 1, hk => by
    rw [mSold, mSold_nI hx hg k (by omega), mSells_at m x hx p k 36 k, if_neg (by omega), if_neg (by omega), if_neg (by omega), hg k (by omega), nI_add]
    rfl
/-- what handing over writes -/
theorem cHO_at {g : Nat → Nat} {x : Nat} {p : Int32} (hg : ∀ b, b < 28 → c 11 0 b = nI (g b)) (h0 : ∀ b, b < 28 → ¬ kB n (nI b) → g b = 0) : ∀ k, k ≤ 28 → ∀ a i j, cHO n c x p k a i j = if a = 15 ∧ i = x ∧ j < k then c 15 x j + nI (g j) else if a = 14 ∧ i = x ∧ j < k then c 14 x j - nI (g j) else if a = 13 ∧ i = x ∧ j = 2 then c 13 x 2 - nI (sumN g k) else if a = 18 ∧ j = 0 ∧ i < 24 ∧ i < k then c 18 i 0 - nI (g i) * p else if a = 19 ∧ j = 0 ∧ 24 + i < k then c 19 i 0 - nI (g (24 + i)) * p else c a i j
  | 0, _, a, i, j => by
    rw [cHO, if_neg (by omega), if_neg (by omega)]
    by_cases e : a = 13 ∧ i = x ∧ j = 2
    · obtain ⟨rfl, rfl, rfl⟩ := e
      rw [if_pos ⟨rfl, rfl, rfl⟩]
      exact (Int32.sub_zero _).symm
    · rw [if_neg e, if_neg (by omega), if_neg (by omega)]
  | k + 1, hk, a, i, j => by
    have ih := cHO_at (p := p) (x := x) hg h0 k (by omega)
    have i0 : sumN g (k + 1) = sumN g k + g k := rfl
    rw [cHO]
    by_cases hb : kB n (nI k)
    · have h11 : cHO n c x p k 11 0 k = nI (g k) := by
        rw [ih, if_neg (by omega), if_neg (by omega), if_neg (by omega), if_neg (by omega), if_neg (by omega), hg k (by omega)]
      have h15 : cHO n c x p k 15 x k = c 15 x k := by
        rw [ih, if_neg (by omega), if_neg (by omega), if_neg (by omega), if_neg (by omega), if_neg (by omega)]
      have h14 : cHO n c x p k 14 x k = c 14 x k := by
        rw [ih, if_neg (by omega), if_neg (by omega), if_neg (by omega), if_neg (by omega), if_neg (by omega)]
      have h13 : cHO n c x p k 13 x 2 = c 13 x 2 - nI (sumN g k) := by
        rw [ih, if_neg (by omega), if_neg (by omega), if_pos ⟨rfl, rfl, rfl⟩]
      have hpt : cPts (cHO n c x p k) k = cPts c k := by
        unfold cPts
        by_cases q : k < 24
        · rw [if_pos q, if_pos q, ih, if_neg (by omega), if_neg (by omega), if_neg (by omega), if_neg (by omega), if_neg (by omega)]
        · rw [if_neg q, if_neg q, ih, if_neg (by omega), if_neg (by omega), if_neg (by omega), if_neg (by omega), if_neg (by omega)]
      rw [if_pos hb]
      unfold cHs cPay
      rw [h11, h15, h14, h13, hpt]
      have hsub : c 13 x 2 - nI (sumN g k) - nI (g k) = c 13 x 2 - nI (sumN g (k + 1)) := by
        rw [i0, ← nI_add, Int32.sub_sub]
      rw [hsub, cu_at, cu_at, cu_at]
      by_cases a13 : a = 13 ∧ i = x ∧ j = 2
      · obtain ⟨rfl, rfl, rfl⟩ := a13
        rw [if_pos ⟨rfl, rfl, rfl⟩, if_neg (by omega), if_neg (by omega), if_pos ⟨rfl, rfl, rfl⟩]
      · rw [if_neg a13]
        by_cases a14 : a = 14 ∧ i = x ∧ j = k
        · obtain ⟨rfl, rfl, rfl⟩ := a14
          rw [if_pos ⟨rfl, rfl, rfl⟩, if_neg (by omega), if_pos ⟨rfl, rfl, by omega⟩]
        · rw [if_neg a14]
          by_cases a15 : a = 15 ∧ i = x ∧ j = k
          · obtain ⟨rfl, rfl, rfl⟩ := a15
            rw [if_pos ⟨rfl, rfl, rfl⟩, if_pos ⟨rfl, rfl, by omega⟩]
          · rw [if_neg a15]
            by_cases q : k < 24
            · rw [if_pos q, cu_at, ih]
              have hp : cPts c k = c 18 k 0 := by unfold cPts; rw [if_pos q]
              rw [hp]
              by_cases a18 : a = 18 ∧ i = k ∧ j = 0
              · obtain ⟨rfl, rfl, rfl⟩ := a18
                rw [if_pos ⟨rfl, rfl, rfl⟩, if_neg (by omega), if_neg (by omega), if_neg (by omega), if_pos (by omega)]
              · rw [if_neg a18, if_neg (c := a = 13 ∧ i = x ∧ j = 2) a13, if_neg (c := a = 13 ∧ i = x ∧ j = 2) a13]
                have e1 : (a = 15 ∧ i = x ∧ j < k + 1) ↔ (a = 15 ∧ i = x ∧ j < k) := by omega
                have e2 : (a = 14 ∧ i = x ∧ j < k + 1) ↔ (a = 14 ∧ i = x ∧ j < k) := by omega
                have e3 : (a = 18 ∧ j = 0 ∧ i < 24 ∧ i < k + 1) ↔ (a = 18 ∧ j = 0 ∧ i < 24 ∧ i < k) := by omega
                have e4 : (a = 19 ∧ j = 0 ∧ 24 + i < k + 1) ↔ (a = 19 ∧ j = 0 ∧ 24 + i < k) := by omega
                simp only [e1, e2, e3, e4]
            · rw [if_neg q, cu_at, ih]
              have hp : cPts c k = c 19 (k - 24) 0 := by unfold cPts; rw [if_neg q]
              rw [hp]
              by_cases a19 : a = 19 ∧ i = k - 24 ∧ j = 0
              · obtain ⟨rfl, hi, rfl⟩ := a19
                have hk2 : 24 + i = k := by omega
                rw [if_pos ⟨rfl, hi, rfl⟩, if_neg (by omega), if_neg (by omega), if_neg (by omega), if_neg (by omega), if_pos (by omega), hk2, hi]
              · rw [if_neg a19, if_neg (c := a = 13 ∧ i = x ∧ j = 2) a13, if_neg (c := a = 13 ∧ i = x ∧ j = 2) a13]
                have e1 : (a = 15 ∧ i = x ∧ j < k + 1) ↔ (a = 15 ∧ i = x ∧ j < k) := by omega
                have e2 : (a = 14 ∧ i = x ∧ j < k + 1) ↔ (a = 14 ∧ i = x ∧ j < k) := by omega
                have e3 : (a = 18 ∧ j = 0 ∧ i < 24 ∧ i < k + 1) ↔ (a = 18 ∧ j = 0 ∧ i < 24 ∧ i < k) := by omega
                have e4 : (a = 19 ∧ j = 0 ∧ 24 + i < k + 1) ↔ (a = 19 ∧ j = 0 ∧ 24 + i < k) := by omega
                simp only [e1, e2, e3, e4]
    · have g0 := h0 k (by omega) hb
      rw [if_neg hb, ih, i0, g0, Nat.add_zero]
      have z : nI 0 = 0 := rfl
      by_cases a15 : a = 15 ∧ i = x ∧ j = k
      · obtain ⟨rfl, rfl, rfl⟩ := a15
        rw [if_neg (by omega), if_neg (by omega), if_neg (by omega), if_neg (by omega), if_neg (by omega), if_pos (by omega), g0, z, Int32.add_zero]
      · by_cases a14 : a = 14 ∧ i = x ∧ j = k
        · obtain ⟨rfl, rfl, rfl⟩ := a14
          rw [if_neg (by omega), if_neg (by omega), if_neg (by omega), if_neg (by omega), if_neg (by omega), if_neg (by omega), if_pos (by omega), g0, z, Int32.sub_zero]
        · by_cases a18 : a = 18 ∧ j = 0 ∧ i < 24 ∧ i = k
          · obtain ⟨rfl, rfl, hi, rfl⟩ := a18
            rw [if_neg (by omega), if_neg (by omega), if_neg (by omega), if_neg (by omega), if_neg (by omega), if_neg (by omega), if_neg (by omega), if_neg (by omega), if_pos (by omega), g0, z, Int32.zero_mul, Int32.sub_zero]
          · by_cases a19 : a = 19 ∧ j = 0 ∧ 24 + i = k
            · obtain ⟨rfl, rfl, hi⟩ := a19
              rw [if_neg (by omega), if_neg (by omega), if_neg (by omega), if_neg (by omega), if_neg (by omega), if_neg (by omega), if_neg (by omega), if_neg (by omega), if_neg (by omega), if_pos (by omega), hi, g0, z, Int32.zero_mul, Int32.sub_zero]
            · have e1 : (a = 15 ∧ i = x ∧ j < k + 1) ↔ (a = 15 ∧ i = x ∧ j < k) := by omega
              have e2 : (a = 14 ∧ i = x ∧ j < k + 1) ↔ (a = 14 ∧ i = x ∧ j < k) := by omega
              have e3 : (a = 18 ∧ j = 0 ∧ i < 24 ∧ i < k + 1) ↔ (a = 18 ∧ j = 0 ∧ i < 24 ∧ i < k) := by omega
              have e4 : (a = 19 ∧ j = 0 ∧ 24 + i < k + 1) ↔ (a = 19 ∧ j = 0 ∧ 24 + i < k) := by omega
              simp only [e1, e2, e3, e4, Nat.add_zero]
theorem cKp_at (c : Nat → Nat → Nat → Int32) (x r : Nat) : ∀ (k : Nat), k ≤ 28 → ∀ a i j, cKp c x r k a i j = if a = 14 ∧ i = x ∧ j < k then 0 else if a = 17 ∧ i = x ∧ r * 28 ≤ j ∧ j < r * 28 + k then c 15 x (j - r * 28) else c a i j
  | 0, _, a, i, j => by rw [cKp, if_neg (by omega), if_neg (by omega)]
  | k + 1, hk, a, i, j => by
    have ih := cKp_at c x r k (by omega)
    have h15 : cKp c x r k 15 x k = c 15 x k := by rw [ih, if_neg (by omega), if_neg (by omega)]
    rw [cKp, cu_at, cu_at, h15, ih]
    by_cases a17 : a = 17 ∧ i = x ∧ j = r * 28 + k
    · obtain ⟨rfl, rfl, rfl⟩ := a17
      rw [if_pos ⟨rfl, rfl, rfl⟩, if_neg (by omega), if_pos (by omega), Nat.add_sub_cancel_left]
    · rw [if_neg a17]
      by_cases a14 : a = 14 ∧ i = x ∧ j = k
      · rw [if_pos a14, if_pos (c := a = 14 ∧ i = x ∧ j < k + 1) (by omega)]
      · rw [if_neg a14]
        have e1 : (a = 14 ∧ i = x ∧ j < k + 1) ↔ (a = 14 ∧ i = x ∧ j < k) := by omega
        have e2 : (a = 17 ∧ i = x ∧ r * 28 ≤ j ∧ j < r * 28 + (k + 1)) ↔ (a = 17 ∧ i = x ∧ r * 28 ≤ j ∧ j < r * 28 + k) := by omega
        simp only [e1, e2]
end SALE

/-! a sale keeps the two worlds together -/
section CR
variable {n : Nat → Nat} {c c' : Nat → Nat → Nat → Int32} {m m' : Nat → Nat → Int32} {rd k x : Nat}
def iBnd (sh lf pr : Nat → Int32) (nW : Nat) : Prop := ∀ x, x < nW → 1 ≤ (sh x).toInt ∧ (sh x).toInt ≤ 1000 ∧ 0 ≤ (lf x).toInt ∧ 1 ≤ (pr x).toInt ∧ (pr x).toInt ≤ 9999
def iAsK (A : Nat → Int32) (nP nF k : Nat) : Prop := ∀ b, b < 28 → ∀ x, k ≤ x → x < 10 → 0 ≤ (A (10 * b + x)).toInt ∧ (A (10 * b + x)).toInt ≤ 1000 ∧ (¬ bdr nP nF b → A (10 * b + x) = 0)
def eMaK (cA : Nat → Nat → Int32) (A : Nat → Int32) (nW k : Nat) : Prop := ∀ x, k ≤ x → x < nW → ∀ b, b < 28 → cA x b = A (10 * b + x)
def CRel (n : Nat → Nat) (c : Nat → Nat → Nat → Int32) (m : Nat → Nat → Int32) (k : Nat) : Prop :=
  (eVal (c 4 0) (m 3) ∧ iRul (m 3) (m 4) (m 5) (m 6)) ∧ eWrk (c 13) (m 17) (m 18) (m 19) (m 21) (n 0) ∧ eMaK (c 14) (m 27) (n 0) k ∧ eMat (c 15) (m 28) (n 0) ∧ ePer (c 18) (m 22) (m 23) (n 1) ∧ eFnd (c 19) (m 22) (m 24) (m 25) (n 2) ∧ iBnd (m 17) (m 18) (m 19) (n 0) ∧ iAsK (m 27) (n 1) (n 2) k ∧ iHld (m 28) (m 17) (m 18) (n 0) ∧ iPts (m 22) (m 28) (n 1) (n 2)
/-- what the work x may write -/
def FrC (c c' : Nat → Nat → Nat → Int32) (x : Nat) : Prop := (∀ a, a < 10 ∨ a = 16 ∨ a = 17 ∨ a = 20 → c' a = c a) ∧ (∀ y, y ≠ x → c' 14 y = c 14 y)
def FrM (m m' : Nat → Nat → Int32) (x : Nat) : Prop := (∀ a, a ≠ 18 → a ≠ 19 → a ≠ 22 → a ≠ 27 → a ≠ 28 → a ≠ 35 → a ≠ 36 → m' a = m a) ∧ (∀ y, y ≠ x → m' 18 y = m 18 y ∧ m' 19 y = m 19 y) ∧ (∀ y, y < 10 → y ≠ x → ∀ b, b < 28 → m' 28 (10 * b + y) = m 28 (10 * b + y))
theorem FrC.trans {c2 : Nat → Nat → Nat → Int32} (h1 : FrC c c' x) (h2 : FrC c' c2 x) : FrC c c2 x :=
  ⟨fun a ha => (h2.1 a ha).trans (h1.1 a ha), fun y hy => (h2.2 y hy).trans (h1.2 y hy)⟩
theorem FrM.trans {m2 : Nat → Nat → Int32} (h1 : FrM m m' x) (h2 : FrM m' m2 x) : FrM m m2 x :=
  ⟨fun a q1 q2 q3 q4 q5 q6 q7 => (h2.1 a q1 q2 q3 q4 q5 q6 q7).trans (h1.1 a q1 q2 q3 q4 q5 q6 q7), fun y hy => ⟨(h2.2.1 y hy).1.trans (h1.2.1 y hy).1, (h2.2.1 y hy).2.trans (h1.2.1 y hy).2⟩, fun y hy hx b hb => (h2.2.2 y hy hx b hb).trans (h1.2.2 y hy hx b hb)⟩
theorem kB_bdr (hn : nOK n) {b : Nat} (hb : b < 28) : kB n (nI b) ↔ bdr (n 1) (n 2) b := by
  have h1 := hn.2.1
  have h2 := hn.2.2
  constructor
  · intro h
    obtain ⟨j, hj, he, hd⟩ := kB_nI hn h
    have e : b = j := (nI_eq (by omega) (by omega)).mp he
    rw [e]
    exact hd
  · intro h
    rcases h with h | h
    · exact Or.inl ⟨nI_pos' (by omega), nI_lt h (by omega)⟩
    · exact Or.inr ⟨(nI_leI (a := 24) (b := b) (by omega) (by omega)).mpr h.1, nI_lt h.2 (by omega)⟩
theorem sale {g : Nat → Nat} {p : Int32} (hn : nOK n) (h : CRel n c m x) (hx : x < n 0) (hp0 : 0 ≤ p.toInt) (hp1 : p.toInt ≤ 9999) (hgm : ∀ b, b < 28 → m 36 b = nI (g b)) (hgc : ∀ b, b < 28 → c 11 0 b = nI (g b)) (hga : ∀ b, b < 28 → (g b : Int) ≤ (m 27 (10 * b + x)).toInt) (hgs : (sumN g 28 : Int) ≤ (m 18 x).toInt) :
    CRel n (cHO n c x p 28) (sSells m x p) x ∧ FrC c (cHO n c x p 28) x ∧ FrM m (sSells m x p) x ∧ cHO n c x p 28 13 x 2 = c 13 x 2 - nI (sumN g 28) ∧ mSold m x p 28 = nI (sumN g 28) ∧ (∀ y, sSells m x p 19 y = m 19 y) ∧ (∀ j, j ≠ 2 → cHO n c x p 28 13 x j = c 13 x j) := by
  have hn0 := hn.1
  have hn1 := hn.2.1
  have hn2 := hn.2.2
  obtain ⟨⟨hv, hr⟩, hwk, ha, hh, hpe, hfu, hbd, hia, hih, hip⟩ := h
  have hA := fun b hb => hia b hb x (Nat.le_refl _) (by omega)
  have hg0 : ∀ b, b < 28 → ¬ kB n (nI b) → g b = 0 := fun b hb q => by
    have z := (hA b hb).2.2 (fun d => q ((kB_bdr hn hb).mpr d))
    have z2 := hga b hb
    rw [z] at z2
    have : (0 : Int32).toInt = 0 := rfl
    omega
  have hg1 : ∀ b, b < 28 → g b ≤ 1000 := fun b hb => by
    have := hga b hb
    have := (hA b hb).2.1
    omega
  have co := cHO_at (n := n) (c := c) (x := x) (p := p) hgc hg0 28 (Nat.le_refl _)
  have mo := mSells_at m x (by omega) p 28
  have so := mSold_nI (m := m) (x := x) (p := p) (by omega) hgm 28 (Nat.le_refl _)
  have hb0 := hbd x hx
  have tG : (nI (sumN g 28)).toInt = (sumN g 28 : Int) := nI_toInt (by have := T_b (m 18 x); omega)
  have tg : ∀ b, b < 28 → (nI (g b)).toInt = (g b : Int) := fun b hb => nI_toInt (by have := hg1 b hb; omega)
  -- the second world, place by place
  have q18 : sSells m x p 18 x = m 18 x - nI (sumN g 28) := by
    unfold sSells
    rw [mu_at, if_pos ⟨rfl, rfl⟩, so, mo, if_neg (by omega), if_neg (by omega), if_neg (by omega)]
  have q18' : ∀ y, y ≠ x → sSells m x p 18 y = m 18 y := fun y hy => by
    unfold sSells
    rw [mu_at, if_neg (fun q => hy q.2), mo, if_neg (by omega), if_neg (by omega), if_neg (by omega)]
  have qr : ∀ a, a ≠ 18 → a ≠ 22 → a ≠ 27 → a ≠ 28 → sSells m x p a = m a := fun a h1 h2 h3 h4 => by
    funext j
    unfold sSells
    rw [mu_at, if_neg (fun q => h1 q.1), mo, if_neg (fun q => h4 q.1), if_neg (fun q => h3 q.1), if_neg (fun q => h2 q.1)]
  have q28 : ∀ b, b < 28 → sSells m x p 28 (10 * b + x) = m 28 (10 * b + x) + nI (g b) := fun b hb => by
    unfold sSells
    rw [mu_at, if_neg (by omega), mo, if_pos (by omega), show (10 * b + x) / 10 = b by omega, hgm b hb]
  have q28' : ∀ y b, y ≠ x → y < 10 → sSells m x p 28 (10 * b + y) = m 28 (10 * b + y) := fun y b hy hy2 => by
    unfold sSells
    rw [mu_at, if_neg (by omega), mo, if_neg (by omega), if_neg (by omega), if_neg (by omega)]
  have q27 : ∀ b, b < 28 → sSells m x p 27 (10 * b + x) = m 27 (10 * b + x) - nI (g b) := fun b hb => by
    unfold sSells
    rw [mu_at, if_neg (by omega), mo, if_neg (by omega), if_pos (by omega), show (10 * b + x) / 10 = b by omega, hgm b hb]
  have q27' : ∀ y b, y ≠ x → y < 10 → sSells m x p 27 (10 * b + y) = m 27 (10 * b + y) := fun y b hy hy2 => by
    unfold sSells
    rw [mu_at, if_neg (by omega), mo, if_neg (by omega), if_neg (by omega), if_neg (by omega)]
  have q22 : ∀ b, b < 28 → sSells m x p 22 b = m 22 b - nI (g b) * p := fun b hb => by
    unfold sSells
    rw [mu_at, if_neg (by omega), mo, if_neg (by omega), if_neg (by omega), if_pos ⟨rfl, hb⟩, hgm b hb]
  -- the first
  have cr : ∀ a, a ≠ 13 → a ≠ 14 → a ≠ 15 → a ≠ 18 → a ≠ 19 → cHO n c x p 28 a = c a := fun a h1 h2 h3 h4 h5 => by
    funext i j
    rw [co, if_neg (fun q => h3 q.1), if_neg (fun q => h2 q.1), if_neg (fun q => h1 q.1), if_neg (fun q => h4 q.1), if_neg (fun q => h5 q.1)]
  have c13 : cHO n c x p 28 13 x 2 = c 13 x 2 - nI (sumN g 28) := by
    rw [co, if_neg (by omega), if_neg (by omega), if_pos ⟨rfl, rfl, rfl⟩]
  have c13' : ∀ y j, (y ≠ x ∨ j ≠ 2) → cHO n c x p 28 13 y j = c 13 y j := fun y j hy => by
    rw [co, if_neg (by omega), if_neg (by omega), if_neg (by omega), if_neg (by omega), if_neg (by omega)]
  have c15 : ∀ b, b < 28 → cHO n c x p 28 15 x b = c 15 x b + nI (g b) := fun b hb => by
    rw [co, if_pos ⟨rfl, rfl, hb⟩]
  have c15' : ∀ y b, y ≠ x → cHO n c x p 28 15 y b = c 15 y b := fun y b hy => by
    rw [co, if_neg (by omega), if_neg (by omega), if_neg (by omega), if_neg (by omega), if_neg (by omega)]
  have c14 : ∀ b, b < 28 → cHO n c x p 28 14 x b = c 14 x b - nI (g b) := fun b hb => by
    rw [co, if_neg (by omega), if_pos ⟨rfl, rfl, hb⟩]
  have c14' : ∀ y b, y ≠ x → cHO n c x p 28 14 y b = c 14 y b := fun y b hy => by
    rw [co, if_neg (by omega), if_neg (by omega), if_neg (by omega), if_neg (by omega), if_neg (by omega)]
  have c18 : ∀ i, i < 24 → cHO n c x p 28 18 i 0 = c 18 i 0 - nI (g i) * p := fun i hi => by
    rw [co, if_neg (by omega), if_neg (by omega), if_neg (by omega), if_pos ⟨rfl, rfl, hi, by omega⟩]
  have c18' : ∀ i j, j ≠ 0 → cHO n c x p 28 18 i j = c 18 i j := fun i j hj => by
    rw [co, if_neg (by omega), if_neg (by omega), if_neg (by omega), if_neg (by omega), if_neg (by omega)]
  have c19 : ∀ i, i < 4 → cHO n c x p 28 19 i 0 = c 19 i 0 - nI (g (24 + i)) * p := fun i hi => by
    rw [co, if_neg (by omega), if_neg (by omega), if_neg (by omega), if_neg (by omega), if_pos ⟨rfl, rfl, by omega⟩]
  have c19' : ∀ i j, j ≠ 0 → cHO n c x p 28 19 i j = c 19 i j := fun i j hj => by
    rw [co, if_neg (by omega), if_neg (by omega), if_neg (by omega), if_neg (by omega), if_neg (by omega)]
  have tH : ∀ b, b < 28 → (sSells m x p 28 (10 * b + x)).toInt = (m 28 (10 * b + x)).toInt + (g b : Int) := fun b hb => by
    have h1 := hih.2 x hx
    have h2 := sumZ_get (f := fun b => (m 28 (10 * b + x)).toInt) (k := 28) hb (fun i hi => (hih.1 i hi x (by omega)).1)
    have h3 : (m 28 (10 * b + x)).toInt ≤ sumZ (fun b => (m 28 (10 * b + x)).toInt) 28 := h2
    have h4 := (hih.1 b hb x (by omega)).1
    have h5 := hg1 b hb
    rw [q28 b hb, T_add (by rw [tg b hb]; omega) (by rw [tg b hb]; omega), tg b hb]
  have tA : ∀ b, b < 28 → (sSells m x p 27 (10 * b + x)).toInt = (m 27 (10 * b + x)).toInt - (g b : Int) := fun b hb => by
    have h1 := hA b hb
    have h2 := hga b hb
    rw [q27 b hb, T_sub (by rw [tg b hb]; omega) (by rw [tg b hb]; omega), tg b hb]
  have tL : (sSells m x p 18 x).toInt = (m 18 x).toInt - (sumN g 28 : Int) := by
    have h1 := T_b (m 18 x)
    rw [q18, T_sub (by rw [tG]; omega) (by rw [tG]; omega), tG]
  have tS : ∀ b, b < 28 → sumZ (fun y => (sSells m x p 28 (10 * b + y)).toInt) 10 = sumZ (fun y => (m 28 (10 * b + y)).toInt) 10 + (g b : Int) := fun b hb =>
    sumZ_put (j := x) (by omega) (fun y hy hne => by show (sSells m x p 28 (10 * b + y)).toInt = _; rw [q28' y b hne hy]) (tH b hb)
  refine ⟨⟨⟨?_, ?_⟩, ?_, ?_, ?_, ?_, ?_, ?_, ?_, ?_, ?_⟩, ⟨fun a ha => cr a (by omega) (by omega) (by omega) (by omega) (by omega), fun y hy => funext fun b => c14' y b hy⟩, ⟨fun a h1 h2 h3 h4 h5 h6 h7 => qr a h1 h3 h4 h5, fun y hy => ⟨q18' y hy, by rw [qr 19 (by decide) (by decide) (by decide) (by decide)]⟩, fun y hy hne b hb => q28' y b hne hy⟩, c13, so, fun y => by rw [qr 19 (by decide) (by decide) (by decide) (by decide)], fun j hj => c13' x j (Or.inr hj)⟩
  · rw [cr 4 (by decide) (by decide) (by decide) (by decide) (by decide), qr 3 (by decide) (by decide) (by decide) (by decide)]
    exact hv
  · rw [qr 3 (by decide) (by decide) (by decide) (by decide), qr 4 (by decide) (by decide) (by decide) (by decide), qr 5 (by decide) (by decide) (by decide) (by decide), qr 6 (by decide) (by decide) (by decide) (by decide)]
    exact hr
  · intro y hy
    have q := hwk y hy
    rw [qr 17 (by decide) (by decide) (by decide) (by decide), qr 19 (by decide) (by decide) (by decide) (by decide), qr 21 (by decide) (by decide) (by decide) (by decide), c13' y 0 (Or.inr (by decide)), c13' y 1 (Or.inr (by decide)), c13' y 3 (Or.inr (by decide))]
    refine ⟨q.1, q.2.1, ?_, q.2.2.2⟩
    by_cases e : y = x
    · rw [e, c13, q18, (hwk x hx).2.2.1]
    · rw [c13' y 2 (Or.inl e), q18' y e]
      exact q.2.2.1
  · intro y h1 h2 b hb
    by_cases e : y = x
    · rw [e, c14 b hb, q27 b hb, ha x (Nat.le_refl _) hx b hb]
    · rw [c14' y b e, q27' y b e (by omega)]
      exact ha y h1 h2 b hb
  · intro y hy b hb
    by_cases e : y = x
    · rw [e, c15 b hb, q28 b hb, hh x hx b hb]
    · rw [c15' y b e, q28' y b e (by omega)]
      exact hh y hy b hb
  · intro i hi
    rw [c18 i (by omega), c18' i 1 (by decide), q22 i (by omega), qr 23 (by decide) (by decide) (by decide) (by decide), (hpe i hi).1]
    exact ⟨rfl, (hpe i hi).2⟩
  · intro i hi
    rw [c19 i (by omega), c19' i 1 (by decide), c19' i 3 (by decide), q22 (24 + i) (by omega), qr 24 (by decide) (by decide) (by decide) (by decide), qr 25 (by decide) (by decide) (by decide) (by decide), (hfu i hi).1]
    exact ⟨rfl, (hfu i hi).2⟩
  · intro y hy
    have q := hbd y hy
    rw [qr 17 (by decide) (by decide) (by decide) (by decide), qr 19 (by decide) (by decide) (by decide) (by decide)]
    refine ⟨q.1, q.2.1, ?_, q.2.2.2⟩
    by_cases e : y = x
    · rw [e, tL]
      omega
    · rw [q18' y e]
      exact q.2.2.1
  · intro b hb y h1 h2
    by_cases e : y = x
    · rw [e, tA b hb]
      have q := hA b hb
      have z := hga b hb
      refine ⟨by omega, by omega, fun d => ?_⟩
      have g0 : g b = 0 := hg0 b hb (fun z => d ((kB_bdr hn hb).mp z))
      rw [q27 b hb, g0, q.2.2 d]
      rfl
    · rw [q27' y b e h2]
      exact hia b hb y h1 h2
  · refine ⟨fun b hb y hy => ?_, fun y hy => ?_⟩
    · by_cases e : y = x
      · rw [e, tH b hb]
        have q := (hih.1 b hb x (by omega)).1
        exact ⟨by omega, fun z => by omega⟩
      · rw [q28' y b e hy]
        exact hih.1 b hb y hy
    · rw [qr 17 (by decide) (by decide) (by decide) (by decide)]
      by_cases e : y = x
      · rw [e, tL]
        have h1 := hih.2 x hx
        have h2 : sumZ (fun b => (sSells m x p 28 (10 * b + x)).toInt) 28 = sumZ (fun b => (m 28 (10 * b + x)).toInt) 28 + (sumN g 28 : Int) := by
          have : ∀ k, k ≤ 28 → sumZ (fun b => (sSells m x p 28 (10 * b + x)).toInt) k = sumZ (fun b => (m 28 (10 * b + x)).toInt) k + (sumN g k : Int) := by
            intro k
            induction k with
            | zero => intro _; rfl
            | succ k ih =>
              intro hk
              rw [sumZ, sumZ, sumN, ih (by omega), tH k (by omega)]
              omega
          exact this 28 (Nat.le_refl _)
        rw [h2]
        omega
      · rw [q18' y e]
        have h2 : sumZ (fun b => (sSells m x p 28 (10 * b + y)).toInt) 28 = sumZ (fun b => (m 28 (10 * b + y)).toInt) 28 := sumZ_ext (fun b hb => by rw [q28' y b e (by omega)])
        rw [h2]
        exact hih.2 y hy
  · intro b hb
    have q := hip b hb
    have hg2 := hg1 b hb
    have pm : (nI (g b) * p).toInt = (g b : Int) * p.toInt := by
      obtain ⟨z1, z2⟩ := mul_bd (A := 1000) (B := 9999) (Int.natCast_nonneg (g b)) (by omega : (g b : Int) ≤ 1000) hp0 hp1
      rw [T_mul (by rw [tg b hb]; omega) (by rw [tg b hb]; omega), tg b hb]
    obtain ⟨z1, z2⟩ := mul_bd (A := 1000) (B := 9999) (Int.natCast_nonneg (g b)) (by omega : (g b : Int) ≤ 1000) hp0 hp1
    have z3 : (g b : Int) * p.toInt ≤ (g b : Int) * 9999 := Int.mul_le_mul_of_nonneg_left hp1 (Int.natCast_nonneg (g b))
    have sl : sumZ (fun y => (m 28 (10 * b + y)).toInt) 10 ≤ 10 * 1000 := sumZ_le (fun y hy => by
      by_cases e : y < n 0
      · have h1 := hih.2 y e
        have h2 := sumZ_get (f := fun b => (m 28 (10 * b + y)).toInt) (k := 28) hb (fun i hi => (hih.1 i hi y hy).1)
        have h3 : (m 28 (10 * b + y)).toInt ≤ sumZ (fun b => (m 28 (10 * b + y)).toInt) 28 := h2
        have h4 := hbd y e
        show (m 28 (10 * b + y)).toInt ≤ 1000
        omega
      · show (m 28 (10 * b + y)).toInt ≤ 1000
        rw [(hih.1 b hb y hy).2 (by omega)]
        decide)
    have tP : (sSells m x p 22 b).toInt = (m 22 b).toInt - (g b : Int) * p.toInt := by
      rw [q22 b hb, T_sub (by rw [pm]; omega) (by rw [pm]; omega), pm]
    rw [tP, tS b hb]
    refine ⟨by omega, by omega, fun d => ?_⟩
    have g0 : g b = 0 := hg0 b hb (fun z => d ((kB_bdr hn hb).mp z))
    rw [q22 b hb, g0, q.2.2 d]
    show (0 : Int32) - 0 * p = 0
    rw [Int32.zero_mul]
    rfl
end CR

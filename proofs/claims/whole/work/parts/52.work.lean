/-! the calls that bring something new: work, person, fund; give and bid; the start -/
section W2
variable {n : Nat → Nat} {op op' : Option Nat} {c c' : Nat → Nat → Nat → Int32} {m m' : Nat → Nat → Int32} {w w' : Int64} {rd tp : Nat}
theorem nu_s (n : Nat → Nat) (k : Nat) : nu n k k = n k + 1 := by simp [nu]
theorem nu_o {n : Nat → Nat} {k j : Nat} (h : j ≠ k) : nu n k j = n j := by simp [nu, h]
theorem NW_r {N r : Nat} {x y : Int32} {k : Nat} (h : k < 13 ∨ 17 < k) : cNW c N r x y k = c k := by
  funext i j
  unfold cNW
  by_cases e : i = N
  · rw [if_pos e, if_neg (by omega), if_neg (by omega), if_neg (by omega), if_neg (by omega), if_neg (by omega)]
  · rw [if_neg e]
theorem NW_i {N r : Nat} {x y : Int32} {k i j : Nat} (h : i ≠ N) : cNW c N r x y k i j = c k i j := by
  unfold cNW
  rw [if_neg h]
theorem R_work {x y : Int32} (h : Rel n op c m w) (h9 : c 0 0 9 = nI rd) (hrd : rd ≤ 49) : (zWork n c rd x y).1 = (sWork m x y (n 0) rd).1 ∧ Rel (zWork n c rd x y).2.1 op (zWork n c rd x y).2.2 (sWork m x y (n 0) rd).2 w := by
  obtain ⟨hn, rd', tp, hI, hE, hJ⟩ := id h
  have hrd' : rd' ≤ 49 := hI.2.2.2.2.2.2.2.1
  have e9 : rd' = rd := by
    have := hE.1.2.1
    rw [h9, hI.2.2.2.2.2.2.1] at this
    exact ((nI_eq (by omega) (by omega)).mp this).symm
  subst e9
  have hn0 := hn.1
  unfold zWork sWork
  by_cases hc : n 0 < 10 ∧ (1 ≤ x ∧ x ≤ 1000) ∧ 1 ≤ y ∧ y ≤ 9999
  · rw [if_pos hc, if_pos (show okWork m x y (n 0) from ⟨by omega, hc.2.1, hc.2.2⟩)]
    refine ⟨rfl, ?_⟩
    show Rel (nu n 0) op (cNW c (n 0) rd' x y) (mu (mu (mu (mu (mu (mu (mu m 0 0 0) 17 (n 0) x) 18 (n 0) x) 19 (n 0) y) 21 (n 0) (nI rd')) 20 (50 * n 0 + rd') y) 30 0 (nI (n 0 + 1))) w
    generalize hm' : mu (mu (mu (mu (mu (mu (mu m 0 0 0) 17 (n 0) x) 18 (n 0) x) 19 (n 0) y) 21 (n 0) (nI rd')) 20 (50 * n 0 + rd') y) 30 0 (nI (n 0 + 1)) = m'
    have ev : ∀ a b, m' a b = if a = 30 ∧ b = 0 then nI (n 0 + 1) else if a = 20 ∧ b = 50 * n 0 + rd' then y else if a = 21 ∧ b = n 0 then nI rd' else if a = 19 ∧ b = n 0 then y else if a = 18 ∧ b = n 0 then x else if a = 17 ∧ b = n 0 then x else if a = 0 ∧ b = 0 then 0 else m a b := by
      intro a b
      rw [← hm']
      simp only [mu_at]
    have e : ∀ a, a ≠ 0 → a ≠ 17 → a ≠ 18 → a ≠ 19 → a ≠ 20 → a ≠ 21 → a ≠ 30 → m' a = m a := by
      intro a h0 h1 h2 h3 h4 h5 h6
      funext b
      rw [ev, if_neg (fun q => h6 q.1), if_neg (fun q => h4 q.1), if_neg (fun q => h5 q.1), if_neg (fun q => h3 q.1), if_neg (fun q => h2 q.1), if_neg (fun q => h1 q.1), if_neg (fun q => h0 q.1)]
    have e17 : ∀ j, j < n 0 → m' 17 j = m 17 j := fun j hj => by rw [ev]; simp; omega
    have e18 : ∀ j, j < n 0 → m' 18 j = m 18 j := fun j hj => by rw [ev]; simp; omega
    have e19 : ∀ j, j < n 0 → m' 19 j = m 19 j := fun j hj => by rw [ev]; simp; omega
    have e21 : ∀ j, j < n 0 → m' 21 j = m 21 j := fun j hj => by rw [ev]; simp; omega
    have f17 : m' 17 (n 0) = x := by rw [ev]; simp
    have f18 : m' 18 (n 0) = x := by rw [ev]; simp
    have f19 : m' 19 (n 0) = y := by rw [ev]; simp
    have f21 : m' 21 (n 0) = nI rd' := by rw [ev]; simp
    have f30 : m' 30 0 = nI (n 0 + 1) := by rw [ev]; simp
    have e20 : ∀ j r, j < n 0 → r ≤ rd' → m' 20 (50 * j + r) = m 20 (50 * j + r) := fun j r hj hr => by
      rw [ev]
      simp
      omega
    have f20 : m' 20 (50 * n 0 + rd') = y := by rw [ev]; simp
    have q0 : nu n 0 0 = n 0 + 1 := nu_s n 0
    have q1 : nu n 0 1 = n 1 := nu_o (by decide)
    have q2 : nu n 0 2 = n 2 := nu_o (by decide)
    obtain ⟨hJ1, hJ2, hJ3, hJ4, hJ5, hJ6, hJ7, hJ8⟩ := hJ
    obtain ⟨hx1, hx2⟩ := hc.2.1
    obtain ⟨hy1, hy2⟩ := hc.2.2
    rw [T_le] at hx1 hx2 hy1 hy2
    have t1 : (1 : Int32).toInt = 1 := rfl
    have t2 : (1000 : Int32).toInt = 1000 := rfl
    have t3 : (9999 : Int32).toInt = 9999 := rfl
    refine ⟨⟨by omega, by rw [q1]; exact hn.2.1, by rw [q2]; exact hn.2.2⟩, rd', tp, ?_, ?_, ?_⟩
    · unfold mI
      rw [q0, q1, q2, f30, e 31 (by decide) (by decide) (by decide) (by decide) (by decide) (by decide) (by decide), e 32 (by decide) (by decide) (by decide) (by decide) (by decide) (by decide) (by decide), e 33 (by decide) (by decide) (by decide) (by decide) (by decide) (by decide) (by decide), e 2 (by decide) (by decide) (by decide) (by decide) (by decide) (by decide) (by decide)]
      exact ⟨rfl, by omega, hI.2.2⟩
    · unfold RelE
      rw [q0, q1, q2, NW_r (k := 0) (by decide), NW_r (k := 1) (by decide), NW_r (k := 2) (by decide), NW_r (k := 3) (by decide), NW_r (k := 4) (by decide), NW_r (k := 18) (by decide), NW_r (k := 19) (by decide), NW_r (k := 20) (by decide)]
      rw [e 1 (by decide) (by decide) (by decide) (by decide) (by decide) (by decide) (by decide), e 2 (by decide) (by decide) (by decide) (by decide) (by decide) (by decide) (by decide), e 3 (by decide) (by decide) (by decide) (by decide) (by decide) (by decide) (by decide), e 13 (by decide) (by decide) (by decide) (by decide) (by decide) (by decide) (by decide), e 22 (by decide) (by decide) (by decide) (by decide) (by decide) (by decide) (by decide), e 23 (by decide) (by decide) (by decide) (by decide) (by decide) (by decide) (by decide), e 24 (by decide) (by decide) (by decide) (by decide) (by decide) (by decide) (by decide), e 25 (by decide) (by decide) (by decide) (by decide) (by decide) (by decide) (by decide), e 26 (by decide) (by decide) (by decide) (by decide) (by decide) (by decide) (by decide), e 27 (by decide) (by decide) (by decide) (by decide) (by decide) (by decide) (by decide), e 28 (by decide) (by decide) (by decide) (by decide) (by decide) (by decide) (by decide), e 29 (by decide) (by decide) (by decide) (by decide) (by decide) (by decide) (by decide), e 33 (by decide) (by decide) (by decide) (by decide) (by decide) (by decide) (by decide), e 34 (by decide) (by decide) (by decide) (by decide) (by decide) (by decide) (by decide)]
      obtain ⟨g1, g2, g3, g4, g5, g6, g7, g8, g9, g10, g11⟩ := hE
      refine ⟨g1, g2, g3, fun j hj => ?_, fun j hj b hb => ?_, fun j hj b hb => ?_, fun j hj r hr hs => ?_, fun j hj r hr b hb => ?_, g9, g10, g11⟩
      · by_cases hj2 : j = n 0
        · subst hj2
          rw [f17, f18, f19, f21]
          simp [cNW]
        · rw [NW_i hj2, NW_i hj2, NW_i hj2, NW_i hj2, e17 j (by omega), e18 j (by omega), e19 j (by omega), e21 j (by omega)]
          exact g4 j (by omega)
      · by_cases hj2 : j = n 0
        · subst hj2
          rw [((hJ3 b hb (n 0) (by omega)).2.2 (Or.inl (Nat.le_refl _)))]
          simp [cNW]
        · rw [NW_i hj2]
          exact g5 j (by omega) b hb
      · by_cases hj2 : j = n 0
        · subst hj2
          rw [((hJ4.1 b hb (n 0) (by omega)).2 (Nat.le_refl _))]
          simp [cNW]
        · rw [NW_i hj2]
          exact g6 j (by omega) b hb
      · by_cases hj2 : j = n 0
        · subst hj2
          rw [f21] at hs
          have hrr : r = rd' := by
            have := (nI_leI (by omega) (by omega)).mp hs
            omega
          subst hrr
          rw [f20]
          simp [cNW, upd]
        · rw [NW_i hj2, e20 j r (by omega) hr]
          rw [e21 j (by omega)] at hs
          exact g7 j (by omega) r hr hs
      · by_cases hj2 : j = n 0
        · subst hj2
          have z : cNW c (n 0) rd' x y 17 (n 0) (r * 28 + b) = 0 := by simp [cNW]
          rw [z]
          by_cases er : r = rd'
          · rw [if_pos er]
            exact ((hJ4.1 b hb (n 0) (by omega)).2 (Nat.le_refl _)).symm
          · rw [if_neg er]
            exact ((hJ5 r (by omega) b hb (n 0) (by omega)).2.2 (Nat.le_refl _)).symm
        · rw [NW_i hj2]
          exact g8 j (by omega) r hr b hb
    · unfold RelI
      rw [q0, q1, q2, e 3 (by decide) (by decide) (by decide) (by decide) (by decide) (by decide) (by decide), e 4 (by decide) (by decide) (by decide) (by decide) (by decide) (by decide) (by decide), e 5 (by decide) (by decide) (by decide) (by decide) (by decide) (by decide) (by decide), e 6 (by decide) (by decide) (by decide) (by decide) (by decide) (by decide) (by decide), e 22 (by decide) (by decide) (by decide) (by decide) (by decide) (by decide) (by decide), e 25 (by decide) (by decide) (by decide) (by decide) (by decide) (by decide) (by decide), e 26 (by decide) (by decide) (by decide) (by decide) (by decide) (by decide) (by decide), e 27 (by decide) (by decide) (by decide) (by decide) (by decide) (by decide) (by decide), e 28 (by decide) (by decide) (by decide) (by decide) (by decide) (by decide) (by decide), e 29 (by decide) (by decide) (by decide) (by decide) (by decide) (by decide) (by decide)]
      refine ⟨hJ1, fun j hj => ?_, fun b hb z hz => ?_, ⟨fun b hb z hz => ?_, fun z hz => ?_⟩, fun r hr b hb z hz => ?_, hJ6, hJ7, hJ8⟩
      · by_cases hj2 : j = n 0
        · subst hj2
          rw [f17, f18, f19, f21]
          exact ⟨by omega, by omega, by omega, by omega, by omega, ⟨rd', Nat.le_refl _, rfl⟩, fun _ => rfl⟩
        · rw [e17 j (by omega), e18 j (by omega), e19 j (by omega), e21 j (by omega)]
          exact hJ2 j (by omega)
      · have q := hJ3 b hb z hz
        exact ⟨q.1, q.2.1, fun s => q.2.2 (s.imp (fun s => by omega) id)⟩
      · have q := hJ4.1 b hb z hz
        exact ⟨q.1, fun s => q.2 (by omega)⟩
      · by_cases hj2 : z = n 0
        · subst hj2
          rw [f17, f18, sumZ_0 (fun b hb => by rw [(hJ4.1 b hb (n 0) (by omega)).2 (Nat.le_refl _)]; rfl)]
          omega
        · rw [e17 z (by omega), e18 z (by omega)]
          exact hJ4.2 z (by omega)
      · have q := hJ5 r hr b hb z hz
        exact ⟨q.1, q.2.1, fun s => q.2.2 (by omega)⟩
  · rw [if_neg hc, if_neg (fun q : okWork m x y (n 0) => hc ⟨by have := q.1; omega, q.2.1, q.2.2⟩)]
    exact ⟨rfl, R_thr h⟩
end W2

section W3
variable {n : Nat → Nat} {op op' : Option Nat} {c c' : Nat → Nat → Nat → Int32} {m m' : Nat → Nat → Int32} {w w' : Int64} {rd tp : Nat}
theorem bdr_P {nP nF b : Nat} (h : ¬ bdr (nP + 1) nF b) : ¬ bdr nP nF b := fun q => h (q.imp (fun z => by omega) id)
theorem bdr_F {nP nF b : Nat} (h : ¬ bdr nP (nF + 1) b) : ¬ bdr nP nF b := fun q => h (q.imp id (fun z => ⟨z.1, by omega⟩))
theorem NP_r {N : Nat} {x : Int32} {k : Nat} (h : k ≠ 18) : cNP c N x k = c k := by
  funext i j
  unfold cNP
  rw [if_neg (fun q => h q.2)]
theorem NF_r {N : Nat} {x : Int32} {k : Nat} (h : k ≠ 19) (h2 : k ≠ 20) : cNF c N x k = c k := by
  funext i j
  unfold cNF
  by_cases e : i = N
  · rw [if_pos e, if_neg h, if_neg h2]
  · rw [if_neg e]
theorem R_person {x : Int32} (h : Rel n op c m w) : (zPerson n c x).1 = (sPerson m x (n 1)).1 ∧ Rel (zPerson n c x).2.1 op (zPerson n c x).2.2 (sPerson m x (n 1)).2 w := by
  obtain ⟨hn, rd, tp, hI, hE, hJ⟩ := id h
  have hn1 := hn.2.1
  unfold zPerson sPerson
  by_cases hc : n 1 < 24 ∧ (x = -1 ∨ kW n x)
  · rw [if_pos hc, if_pos (show okPerson m x (n 1) from ⟨by omega, hc.2.imp id (kW_is hI).mp⟩)]
    refine ⟨rfl, ?_⟩
    show Rel (nu n 1) op (cNP c (n 1) x) (mu (mu (mu (mu m 0 0 0) 22 (n 1) 1000) 23 (n 1) x) 31 0 (nI (n 1 + 1))) w
    generalize hm' : mu (mu (mu (mu m 0 0 0) 22 (n 1) 1000) 23 (n 1) x) 31 0 (nI (n 1 + 1)) = m'
    have ev : ∀ a b, m' a b = if a = 31 ∧ b = 0 then nI (n 1 + 1) else if a = 23 ∧ b = n 1 then x else if a = 22 ∧ b = n 1 then 1000 else if a = 0 ∧ b = 0 then 0 else m a b := by
      intro a b
      rw [← hm']
      simp only [mu_at]
    have e : ∀ a, a ≠ 0 → a ≠ 22 → a ≠ 23 → a ≠ 31 → m' a = m a := by
      intro a h0 h1 h2 h3
      funext b
      rw [ev, if_neg (fun q => h3 q.1), if_neg (fun q => h2 q.1), if_neg (fun q => h1 q.1), if_neg (fun q => h0 q.1)]
    have e22 : ∀ j, j ≠ n 1 → m' 22 j = m 22 j := fun j hj => by rw [ev]; simp [hj]
    have e23 : ∀ j, j ≠ n 1 → m' 23 j = m 23 j := fun j hj => by rw [ev]; simp [hj]
    have f22 : m' 22 (n 1) = 1000 := by rw [ev]; simp
    have f23 : m' 23 (n 1) = x := by rw [ev]; simp
    have f31 : m' 31 0 = nI (n 1 + 1) := by rw [ev]; simp
    have q0 : nu n 1 0 = n 0 := nu_o (by decide)
    have q1 : nu n 1 1 = n 1 + 1 := nu_s n 1
    have q2 : nu n 1 2 = n 2 := nu_o (by decide)
    obtain ⟨hJ1, hJ2, hJ3, hJ4, hJ5, hJ6, hJ7, hJ8⟩ := hJ
    have t2 : (1000 : Int32).toInt = 1000 := rfl
    refine ⟨⟨by rw [q0]; exact hn.1, by omega, by rw [q2]; exact hn.2.2⟩, rd, tp, ?_, ?_, ?_⟩
    · unfold mI
      rw [q0, q1, q2, f31, e 30 (by decide) (by decide) (by decide) (by decide), e 32 (by decide) (by decide) (by decide) (by decide), e 33 (by decide) (by decide) (by decide) (by decide), e 2 (by decide) (by decide) (by decide) (by decide)]
      exact ⟨hI.1, hI.2.1, rfl, by omega, hI.2.2.2.2⟩
    · unfold RelE
      rw [q0, q1, q2, NP_r (k := 0) (by decide), NP_r (k := 1) (by decide), NP_r (k := 2) (by decide), NP_r (k := 3) (by decide), NP_r (k := 4) (by decide), NP_r (k := 13) (by decide), NP_r (k := 14) (by decide), NP_r (k := 15) (by decide), NP_r (k := 16) (by decide), NP_r (k := 17) (by decide), NP_r (k := 19) (by decide), NP_r (k := 20) (by decide)]
      rw [e 1 (by decide) (by decide) (by decide) (by decide), e 2 (by decide) (by decide) (by decide) (by decide), e 3 (by decide) (by decide) (by decide) (by decide), e 13 (by decide) (by decide) (by decide) (by decide), e 17 (by decide) (by decide) (by decide) (by decide), e 18 (by decide) (by decide) (by decide) (by decide), e 19 (by decide) (by decide) (by decide) (by decide), e 20 (by decide) (by decide) (by decide) (by decide), e 21 (by decide) (by decide) (by decide) (by decide), e 24 (by decide) (by decide) (by decide) (by decide), e 25 (by decide) (by decide) (by decide) (by decide), e 26 (by decide) (by decide) (by decide) (by decide), e 27 (by decide) (by decide) (by decide) (by decide), e 28 (by decide) (by decide) (by decide) (by decide), e 29 (by decide) (by decide) (by decide) (by decide), e 33 (by decide) (by decide) (by decide) (by decide), e 34 (by decide) (by decide) (by decide) (by decide)]
      obtain ⟨g1, g2, g3, g4, g5, g6, g7, g8, g9, g10, g11⟩ := hE
      refine ⟨g1, g2, g3, g4, g5, g6, g7, g8, fun p hp => ?_, fun f hf => ?_, g11⟩
      · by_cases hj2 : p = n 1
        · subst hj2
          rw [f22, f23]
          simp [cNP]
        · rw [e22 p hj2, e23 p hj2]
          have q : ∀ j, cNP c (n 1) x 18 p j = c 18 p j := fun j => by
            unfold cNP
            rw [if_neg (fun q => hj2 q.1)]
          rw [q, q]
          exact g9 p (by omega)
      · rw [e22 (24 + f) (by omega)]
        exact g10 f hf
    · unfold RelI
      rw [q0, q1, q2, e 3 (by decide) (by decide) (by decide) (by decide), e 4 (by decide) (by decide) (by decide) (by decide), e 5 (by decide) (by decide) (by decide) (by decide), e 6 (by decide) (by decide) (by decide) (by decide), e 17 (by decide) (by decide) (by decide) (by decide), e 18 (by decide) (by decide) (by decide) (by decide), e 19 (by decide) (by decide) (by decide) (by decide), e 21 (by decide) (by decide) (by decide) (by decide), e 25 (by decide) (by decide) (by decide) (by decide), e 26 (by decide) (by decide) (by decide) (by decide), e 27 (by decide) (by decide) (by decide) (by decide), e 28 (by decide) (by decide) (by decide) (by decide), e 29 (by decide) (by decide) (by decide) (by decide)]
      refine ⟨hJ1, hJ2, fun b hb z hz => ?_, hJ4, hJ5, fun b hb => ?_, ⟨fun p hp => ⟨fun f hf => ?_, (hJ7.1 p hp).2⟩, hJ7.2⟩, fun h0 => ⟨fun p hp => ?_, fun f hf => ?_⟩⟩
      · have q := hJ3 b hb z hz
        exact ⟨q.1, q.2.1, fun s => q.2.2 (s.imp id bdr_P)⟩
      · by_cases hj2 : b = n 1
        · subst hj2
          have q := sumZ_nn (f := fun z => (m 28 (10 * n 1 + z)).toInt) (k := 10) (fun z hz => (hJ4.1 (n 1) hb z hz).1)
          rw [f22, t2]
          exact ⟨by omega, by omega, fun q => absurd (Or.inl (Nat.lt_succ_self _)) q⟩
        · rw [e22 b hj2]
          exact ⟨(hJ6 b hb).1, (hJ6 b hb).2.1, fun q => (hJ6 b hb).2.2 (bdr_P q)⟩
      · have q := (hJ7.1 p hp).1 f hf
        exact ⟨q.1, fun s => q.2 (s.imp (fun s => by omega) id)⟩
      · by_cases hj2 : p = n 1
        · subst hj2
          rw [f22, t2, sumZ_0 (fun f hf => by rw [((hJ7.1 (n 1) hc.1).1 f hf).2 (Or.inl (Nat.le_refl _))]; rfl)]
          omega
        · rw [e22 p hj2]
          exact (hJ8 h0).1 p (by omega)
      · rw [e22 (24 + f) (by omega)]
        exact (hJ8 h0).2 f hf
  · rw [if_neg hc, if_neg (fun q : okPerson m x (n 1) => hc ⟨by have := q.1; omega, q.2.imp id (kW_is hI).mpr⟩)]
    exact ⟨rfl, R_thr h⟩
theorem R_fund {x : Int32} (h : Rel n op c m w) : (zFund n c x).1 = (sFund m x (n 2)).1 ∧ Rel (zFund n c x).2.1 op (zFund n c x).2.2 (sFund m x (n 2)).2 w := by
  obtain ⟨hn, rd, tp, hI, hE, hJ⟩ := id h
  have hn2 := hn.2.2
  have hn1 := hn.2.1
  unfold zFund sFund
  by_cases hc : n 2 < 4 ∧ 0 ≤ x ∧ x ≤ 500
  · rw [if_pos hc, if_pos (show okFund m x (n 2) from ⟨by omega, hc.2⟩)]
    refine ⟨rfl, ?_⟩
    show Rel (nu n 2) op (cNF c (n 2) x) (mu (mu (mu m 0 0 0) 24 (n 2) x) 32 0 (nI (n 2 + 1))) w
    generalize hm' : mu (mu (mu m 0 0 0) 24 (n 2) x) 32 0 (nI (n 2 + 1)) = m'
    have ev : ∀ a b, m' a b = if a = 32 ∧ b = 0 then nI (n 2 + 1) else if a = 24 ∧ b = n 2 then x else if a = 0 ∧ b = 0 then 0 else m a b := by
      intro a b
      rw [← hm']
      simp only [mu_at]
    have e : ∀ a, a ≠ 0 → a ≠ 24 → a ≠ 32 → m' a = m a := by
      intro a h0 h1 h2
      funext b
      rw [ev, if_neg (fun q => h2 q.1), if_neg (fun q => h1 q.1), if_neg (fun q => h0 q.1)]
    have e24 : ∀ j, j ≠ n 2 → m' 24 j = m 24 j := fun j hj => by rw [ev]; simp [hj]
    have f24 : m' 24 (n 2) = x := by rw [ev]; simp
    have f32 : m' 32 0 = nI (n 2 + 1) := by rw [ev]; simp
    have q0 : nu n 2 0 = n 0 := nu_o (by decide)
    have q1 : nu n 2 1 = n 1 := nu_o (by decide)
    have q2 : nu n 2 2 = n 2 + 1 := nu_s n 2
    obtain ⟨hJ1, hJ2, hJ3, hJ4, hJ5, hJ6, hJ7, hJ8⟩ := hJ
    have z22 : m 22 (24 + n 2) = 0 := (hJ6 (24 + n 2) (by omega)).2.2 (fun q => by rcases q with q | q <;> omega)
    have z26 : ∀ p, p < 24 → m 26 (4 * p + n 2) = 0 := fun p hp => ((hJ7.1 p hp).1 (n 2) hc.1).2 (Or.inr (Nat.le_refl _))
    have z25 : m 25 (n 2) = 0 := by
      apply T_ext
      rw [hJ7.2 (n 2) hc.1, sumZ_0 (fun p hp => by rw [z26 p hp]; rfl)]
      rfl
    refine ⟨⟨by rw [q0]; exact hn.1, by rw [q1]; exact hn.2.1, by omega⟩, rd, tp, ?_, ?_, ?_⟩
    · unfold mI
      rw [q0, q1, q2, f32, e 30 (by decide) (by decide) (by decide), e 31 (by decide) (by decide) (by decide), e 33 (by decide) (by decide) (by decide), e 2 (by decide) (by decide) (by decide)]
      exact ⟨hI.1, hI.2.1, hI.2.2.1, hI.2.2.2.1, rfl, by omega, hI.2.2.2.2.2.2⟩
    · unfold RelE
      rw [q0, q1, q2, NF_r (k := 0) (by decide) (by decide), NF_r (k := 1) (by decide) (by decide), NF_r (k := 2) (by decide) (by decide), NF_r (k := 3) (by decide) (by decide), NF_r (k := 4) (by decide) (by decide), NF_r (k := 13) (by decide) (by decide), NF_r (k := 14) (by decide) (by decide), NF_r (k := 15) (by decide) (by decide), NF_r (k := 16) (by decide) (by decide), NF_r (k := 17) (by decide) (by decide), NF_r (k := 18) (by decide) (by decide)]
      rw [e 1 (by decide) (by decide) (by decide), e 2 (by decide) (by decide) (by decide), e 3 (by decide) (by decide) (by decide), e 13 (by decide) (by decide) (by decide), e 17 (by decide) (by decide) (by decide), e 18 (by decide) (by decide) (by decide), e 19 (by decide) (by decide) (by decide), e 20 (by decide) (by decide) (by decide), e 21 (by decide) (by decide) (by decide), e 22 (by decide) (by decide) (by decide), e 23 (by decide) (by decide) (by decide), e 25 (by decide) (by decide) (by decide), e 26 (by decide) (by decide) (by decide), e 27 (by decide) (by decide) (by decide), e 28 (by decide) (by decide) (by decide), e 29 (by decide) (by decide) (by decide), e 33 (by decide) (by decide) (by decide), e 34 (by decide) (by decide) (by decide)]
      obtain ⟨g1, g2, g3, g4, g5, g6, g7, g8, g9, g10, g11⟩ := hE
      refine ⟨g1, g2, g3, g4, g5, g6, g7, g8, g9, fun f hf => ?_, fun f hf p hp => ?_⟩
      · by_cases hj2 : f = n 2
        · subst hj2
          rw [f24, z22, z25]
          simp [cNF]
        · rw [e24 f hj2]
          have q : ∀ j, cNF c (n 2) x 19 f j = c 19 f j := fun j => by
            unfold cNF
            rw [if_neg hj2]
          rw [q, q, q]
          exact g10 f (by omega)
      · by_cases hj2 : f = n 2
        · subst hj2
          rw [z26 p hp]
          simp [cNF]
        · have q : ∀ j, cNF c (n 2) x 20 f j = c 20 f j := fun j => by
            unfold cNF
            rw [if_neg hj2]
          rw [q]
          exact g11 f (by omega) p hp
    · unfold RelI
      rw [q0, q1, q2, e 3 (by decide) (by decide) (by decide), e 4 (by decide) (by decide) (by decide), e 5 (by decide) (by decide) (by decide), e 6 (by decide) (by decide) (by decide), e 17 (by decide) (by decide) (by decide), e 18 (by decide) (by decide) (by decide), e 19 (by decide) (by decide) (by decide), e 21 (by decide) (by decide) (by decide), e 22 (by decide) (by decide) (by decide), e 25 (by decide) (by decide) (by decide), e 26 (by decide) (by decide) (by decide), e 27 (by decide) (by decide) (by decide), e 28 (by decide) (by decide) (by decide), e 29 (by decide) (by decide) (by decide)]
      refine ⟨hJ1, hJ2, fun b hb z hz => ?_, hJ4, hJ5, fun b hb => ?_, ⟨fun p hp => ⟨fun f hf => ?_, (hJ7.1 p hp).2⟩, hJ7.2⟩, fun h0 => ⟨(hJ8 h0).1, fun f hf => ?_⟩⟩
      · have q := hJ3 b hb z hz
        exact ⟨q.1, q.2.1, fun s => q.2.2 (s.imp id bdr_F)⟩
      · exact ⟨(hJ6 b hb).1, (hJ6 b hb).2.1, fun q => (hJ6 b hb).2.2 (bdr_F q)⟩
      · have q := (hJ7.1 p hp).1 f hf
        exact ⟨q.1, fun s => q.2 (s.imp id (fun s => by omega))⟩
      · by_cases hj2 : f = n 2
        · subst hj2
          rw [z22, z25]
        · exact (hJ8 h0).2 f (by omega)
  · rw [if_neg hc, if_neg (fun q : okFund m x (n 2) => hc ⟨by have := q.1; omega, q.2⟩)]
    exact ⟨rfl, R_thr h⟩
theorem cost_eq (hE : RelE n c m rd tp) {b : Nat} (hb : b < 28) : ∀ k, k ≤ n 0 → cCost c b k = mCost m b k
  | 0, _ => rfl
  | k + 1, hk => by
    rw [cCost, mCost, cost_eq hE hb k (by omega), hE.2.2.2.2.1 k (by omega) b hb, (hE.2.2.2.1 k (by omega)).2.2.2]
theorem mul_bd {a b A B : Int} (h0 : 0 ≤ a) (h1 : a ≤ A) (h2 : 0 ≤ b) (h3 : b ≤ B) : 0 ≤ a * b ∧ a * b ≤ A * B :=
  ⟨Int.mul_nonneg h0 h2, Int.mul_le_mul h1 h3 h2 (Int.le_trans h0 h1)⟩
theorem cost_bd (hn : nOK n) (hJ : RelI n m rd tp) {b : Nat} (hb : b < 28) : ∀ k, k ≤ n 0 → 0 ≤ (mCost m b k).toInt ∧ (mCost m b k).toInt ≤ k * 9999000
  | 0, _ => by rw [mCost]; decide
  | k + 1, hk => by
    have h10 := hn.1
    obtain ⟨i1, i2⟩ := cost_bd hn hJ hb k (by omega)
    have q := hJ.2.2.1 b hb k (by omega)
    have r := hJ.2.1 k (by omega)
    obtain ⟨p1, p2⟩ := mul_bd (A := 1000) (B := 9999) q.1 q.2.1 (by omega : 0 ≤ (m 19 k).toInt) r.2.2.2.2.1
    have e1 := T_mul (x := m 27 (10 * b + k)) (y := m 19 k) (by omega) (by omega)
    rw [mCost]
    have e2 := T_add (x := mCost m b k) (y := m 27 (10 * b + k) * m 19 k) (by omega) (by omega)
    rw [e2, e1]
    omega
theorem R_bid {b x y : Int32} (h : Rel n op c m w) : (zBid n c b x y).1 = (sBid m b x y (n 0)).1 ∧ Rel n op (zBid n c b x y).2 (sBid m b x y (n 0)).2 w := by
  obtain ⟨hn, rd, tp, hI, hE, hJ⟩ := id h
  have hn0 := hn.1
  unfold zBid sBid
  by_cases hc : kB n b ∧ kW n x ∧ (0 ≤ y ∧ y ≤ 1000)
  · obtain ⟨jb, hjb, rfl, hbd⟩ := kB_nI hn hc.1
    obtain ⟨jx, hjx, rfl⟩ := kW_nI hn hc.2.1
    have hok : okBid m (nI jb) (nI jx) y := ⟨(kB_is hI).mp hc.1, (kW_is hI).mp hc.2.1, hc.2.2⟩
    have tb : tn (nI jb) = jb := tn_nI (by omega)
    have tx : tn (nI jx) = jx := tn_nI (by omega)
    have hcb : zCB n c jb jx y = cBid m jb jx y (n 0) := by
      unfold zCB cBid
      rw [cost_eq hE hjb (n 0) (Nat.le_refl _), hE.2.2.2.2.1 jx hjx jb hjb, (hE.2.2.2.1 jx hjx).2.2.2]
    have hpt : cPts c jb = m 22 jb := by
      unfold cPts
      rcases hbd with q | q
      · rw [if_pos (by have := hn.2.1; omega)]
        exact (hE.2.2.2.2.2.2.2.2.1 jb q).1
      · rw [if_neg (by omega), (hE.2.2.2.2.2.2.2.2.2.1 (jb - 24) (by omega)).1]
        congr 1
        omega
    rw [tb, tx, hcb, hpt]
    by_cases hle : cBid m jb jx y (n 0) ≤ m 22 jb
    · rw [if_pos ⟨hc, hle⟩, if_pos ⟨hok, hle⟩]
      refine ⟨rfl, ?_⟩
      show Rel n op (cu c 14 jx jb y) (mu (mu m 0 0 0) 27 (10 * jb + jx) y) w
      have h0 := R_thr (v := 0) h
      generalize mu m 0 0 0 = m0 at h0
      obtain ⟨-, rd, tp, hI, hE, hJ⟩ := h0
      have e : ∀ a, a ≠ 27 → mu m0 27 (10 * jb + jx) y a = m0 a := fun a ha => mu_row ha
      have f : ∀ a, a ≠ 14 → cu c 14 jx jb y a = c a := fun a ha => cu_rw ha
      refine ⟨hn, rd, tp, ?_, ?_, ?_⟩
      · unfold mI
        rw [e 30 (by decide), e 31 (by decide), e 32 (by decide), e 33 (by decide), e 2 (by decide)]
        exact hI
      · unfold RelE
        rw [e 1 (by decide), e 2 (by decide), e 3 (by decide), e 13 (by decide), e 17 (by decide), e 18 (by decide), e 19 (by decide), e 20 (by decide), e 21 (by decide), e 22 (by decide), e 23 (by decide), e 24 (by decide), e 25 (by decide), e 26 (by decide), e 28 (by decide), e 29 (by decide), e 33 (by decide), e 34 (by decide), f 0 (by decide), f 1 (by decide), f 2 (by decide), f 3 (by decide), f 4 (by decide), f 13 (by decide), f 15 (by decide), f 16 (by decide), f 17 (by decide), f 18 (by decide), f 19 (by decide), f 20 (by decide)]
        obtain ⟨g1, g2, g3, g4, g5, g6, g7, g8, g9, g10, g11⟩ := hE
        refine ⟨g1, g2, g3, g4, fun x hx z hz => ?_, g6, g7, g8, g9, g10, g11⟩
        rw [cu_at, mu_at]
        by_cases q : x = jx ∧ z = jb
        · rw [if_pos ⟨rfl, q.1, q.2⟩, if_pos ⟨rfl, by rw [q.1, q.2]⟩]
        · rw [if_neg (fun r => q r.2), if_neg (fun r => q (by have := r.2; omega))]
          exact g5 x hx z hz
      · unfold RelI
        rw [e 3 (by decide), e 4 (by decide), e 5 (by decide), e 6 (by decide), e 17 (by decide), e 18 (by decide), e 19 (by decide), e 21 (by decide), e 22 (by decide), e 25 (by decide), e 26 (by decide), e 28 (by decide), e 29 (by decide)]
        obtain ⟨hJ1, hJ2, hJ3, hJ4, hJ5, hJ6, hJ7, hJ8⟩ := hJ
        refine ⟨hJ1, hJ2, fun z hz x hx => ?_, hJ4, hJ5, hJ6, hJ7, hJ8⟩
        rw [mu_at]
        by_cases q : 10 * z + x = 10 * jb + jx
        · rw [if_pos ⟨rfl, q⟩]
          have q1 : z = jb := by omega
          have q2 : x = jx := by omega
          obtain ⟨y1, y2⟩ := hc.2.2
          rw [T_le] at y1 y2
          have t0 : (0 : Int32).toInt = 0 := rfl
          have t1 : (1000 : Int32).toInt = 1000 := rfl
          exact ⟨by omega, by omega, fun s => by
            rcases s with s | s
            · omega
            · exact absurd (q1 ▸ hbd) s⟩
        · rw [if_neg (fun r => q r.2)]
          exact hJ3 z hz x hx
    · rw [if_neg (fun q => hle q.2), if_neg (fun q => hle q.2)]
      exact ⟨rfl, R_thr h⟩
  · rw [if_neg (fun q => hc q.1), if_neg (fun q => hc ⟨(kB_is hI).mpr q.1.1, (kW_is hI).mpr q.1.2.1, q.1.2.2⟩)]
    exact ⟨rfl, R_thr h⟩
theorem R_init : Rel (fun _ => 0) none cInit mInit 0 := by
  have a0 : (0 : Int) ≤ (0 : Int32).toInt := by decide
  have a1 : (0 : Int32).toInt ≤ 1000 := by decide
  have a2 : (0 : Int32).toInt ≤ 24000 := by decide
  refine ⟨⟨Nat.zero_le _, Nat.zero_le _, Nat.zero_le _⟩, 0, 0, ?_, ?_, ?_⟩
  · exact ⟨rfl, by decide, rfl, by decide, rfl, by decide, rfl, by decide, rfl, by decide⟩
  · refine ⟨⟨rfl, rfl, rfl, rfl⟩, fun j _ => (show (0 : Int32) &&& 255 = 0 by decide), ?_, fun j h => absurd h (Nat.not_lt_zero _), fun j h => absurd h (Nat.not_lt_zero _), fun j h => absurd h (Nat.not_lt_zero _), fun j h => absurd h (Nat.not_lt_zero _), fun j h => absurd h (Nat.not_lt_zero _), fun j h => absurd h (Nat.not_lt_zero _), fun j h => absurd h (Nat.not_lt_zero _), fun j h => absurd h (Nat.not_lt_zero _)⟩
    show ∀ j, j < 6 → cInit 4 0 j = mInit 3 j
    decide
  · refine ⟨?_, fun j h => absurd h (Nat.not_lt_zero _), fun b hb x hx => ⟨a0, a1, fun _ => rfl⟩, ⟨fun b hb x hx => ⟨a0, fun _ => rfl⟩, fun j h => absurd h (Nat.not_lt_zero _)⟩, fun r h => absurd h (Nat.not_lt_zero _), fun b hb => ⟨a2, ?_, fun _ => rfl⟩, ⟨fun p hp => ⟨fun f hf => ⟨a0, fun _ => rfl⟩, ?_⟩, fun f hf => ?_⟩, fun _ => ⟨fun p h => absurd h (Nat.not_lt_zero _), fun p h => absurd h (Nat.not_lt_zero _)⟩⟩
    · show ∀ j, j < 6 → mInit 4 j = unR j ∧ mInit 5 j = loR j ∧ mInit 6 j = hiR j ∧ loR j ≤ mInit 3 j ∧ mInit 3 j ≤ hiR j
      decide
    · rw [sumZ_0 (f := fun x => (mInit 28 (10 * b + x)).toInt) (fun i _ => rfl)]
      show (0 : Int) ≤ (0 : Int32).toInt + 9999 * 0
      decide
    · rw [sumZ_0 (f := fun f => (mInit 26 (4 * p + f)).toInt) (fun i _ => rfl)]
      decide
    · rw [sumZ_0 (f := fun p => (mInit 26 (4 * p + f)).toInt) (fun i _ => rfl)]
      rfl
end W3

section W4
variable {n : Nat → Nat} {op op' : Option Nat} {c c' : Nat → Nat → Nat → Int32} {m m' : Nat → Nat → Int32} {w w' : Int64} {rd tp : Nat}
theorem pts_eq (hn : nOK n) (hE : RelE n c m rd tp) {b : Nat} (hbd : bdr (n 1) (n 2) b) : cPts c b = m 22 b := by
  unfold cPts
  rcases hbd with q | q
  · rw [if_pos (by have := hn.2.1; omega)]
    exact (hE.2.2.2.2.2.2.2.2.1 b q).1
  · rw [if_neg (by omega), (hE.2.2.2.2.2.2.2.2.2.1 (b - 24) (by omega)).1]
    congr 1
    omega
theorem heldS_eq (hE : RelE n c m rd tp) {b : Nat} (hb : b < 28) : ∀ k, k ≤ n 0 → cHeldS c b k = mHeldS m b k
  | 0, _ => rfl
  | k + 1, hk => by
    rw [cHeldS, mHeldS, heldS_eq hE hb k (by omega), hE.2.2.2.2.2.1 k (by omega) b hb]
theorem held_bd (hn : nOK n) (hJ : RelI n m rd tp) {b x : Nat} (hb : b < 28) (hx : x < n 0) : 0 ≤ (m 28 (10 * b + x)).toInt ∧ (m 28 (10 * b + x)).toInt ≤ 1000 := by
  have h10 := hn.1
  have q := hJ.2.2.2.1.2 x hx
  have r := hJ.2.1 x hx
  have s := sumZ_get (f := fun b => (m 28 (10 * b + x)).toInt) (k := 28) hb (fun i hi => (hJ.2.2.2.1.1 i hi x (by omega)).1)
  have t := (hJ.2.2.2.1.1 b hb x (by omega)).1
  refine ⟨t, ?_⟩
  have s2 : (m 28 (10 * b + x)).toInt ≤ sumZ (fun b => (m 28 (10 * b + x)).toInt) 28 := s
  omega
theorem worth_eq (hn : nOK n) (hE : RelE n c m rd tp) (hJ : RelI n m rd tp) {b : Nat} (hb : b < 28) : ∀ k, k ≤ n 0 → (cWorth c b k).toInt = sumZ (fun x => (m 28 (10 * b + x)).toInt * (m 19 x).toInt) k ∧ 0 ≤ (cWorth c b k).toInt ∧ (cWorth c b k).toInt ≤ k * 9999000 ∧ (mAll m b k).toInt = (m 22 b).toInt + sumZ (fun x => (m 28 (10 * b + x)).toInt * (m 19 x).toInt) k
  | 0, _ => by
    refine ⟨rfl, by rw [cWorth]; decide, by rw [cWorth]; decide, ?_⟩
    rw [mAll, Int32.toInt_toInt64, sumZ]
    omega
  | k + 1, hk => by
    have h10 := hn.1
    obtain ⟨i1, i2, i3, i4⟩ := worth_eq hn hE hJ hb k (by omega)
    have q := held_bd hn hJ hb (show k < n 0 by omega)
    have r := hJ.2.1 k (by omega)
    obtain ⟨p1, p2⟩ := mul_bd (A := 1000) (B := 9999) q.1 q.2 (by omega : 0 ≤ (m 19 k).toInt) r.2.2.2.2.1
    have pb := T_b (m 22 b)
    have e1 := T_mul (x := m 28 (10 * b + k)) (y := m 19 k) (by omega) (by omega)
    have hcw : cWorth c b (k + 1) = cWorth c b k + m 28 (10 * b + k) * m 19 k := by
      rw [cWorth, hE.2.2.2.2.2.1 k (by omega) b hb, (hE.2.2.2.1 k (by omega)).2.2.2]
    have e2 := T_add (x := cWorth c b k) (y := m 28 (10 * b + k) * m 19 k) (by omega) (by omega)
    have e3 : ((m 28 (10 * b + k)).toInt64 * (m 19 k).toInt64).toInt = (m 28 (10 * b + k)).toInt * (m 19 k).toInt := by
      have := L_mul (x := (m 28 (10 * b + k)).toInt64) (y := (m 19 k).toInt64) (by rw [Int32.toInt_toInt64, Int32.toInt_toInt64]; omega) (by rw [Int32.toInt_toInt64, Int32.toInt_toInt64]; omega)
      rw [this, Int32.toInt_toInt64, Int32.toInt_toInt64]
    have e4 := L_add (x := mAll m b k) (y := (m 28 (10 * b + k)).toInt64 * (m 19 k).toInt64) (by omega) (by omega)
    refine ⟨?_, ?_, ?_, ?_⟩
    · rw [hcw, e2, e1, sumZ, i1]
    · rw [hcw, e2, e1]
      omega
    · rw [hcw, e2, e1]
      omega
    · rw [mAll, e4, e3, sumZ, i4]
      omega
theorem kept_eq (hn : nOK n) (hE : RelE n c m rd tp) (hJ : RelI n m rd tp) {f : Nat} (hf : f < n 2) : zKept n c f (24 + f) ↔ mKept m (24 + f) (n 0) := by
  have h4 := hn.2.2
  have h10 := hn.1
  obtain ⟨i1, i2, i3, i4⟩ := worth_eq hn hE hJ (b := 24 + f) (by omega) (n 0) (Nat.le_refl _)
  have g := hE.2.2.2.2.2.2.2.2.2.1 f hf
  have p := hJ.2.2.2.2.2.1 (24 + f) (by omega)
  have s : sumZ (fun x => (m 28 (10 * (24 + f) + x)).toInt) 10 ≤ 10 * 1000 := sumZ_le (fun x hx => by
    by_cases q : x < n 0
    · exact (held_bd hn hJ (b := 24 + f) (by omega) q).2
    · rw [(hJ.2.2.2.1.1 (24 + f) (by omega) x hx).2 (by omega)]
      decide)
  have e : (cWorth c (24 + f) (n 0) + c 19 f 0).toInt64 = mAll m (24 + f) (n 0) := by
    apply L_ext
    rw [Int32.toInt_toInt64, i4, g.1, T_add (by omega) (by omega), i1]
    omega
  unfold zKept mKept
  rw [e, g.2.1, g.2.2, lg_cmp_lt, Nat.add_sub_cancel_left]
theorem R_purse {x y : Int32} (h : Rel n op c m w) : (okP n x y ↔ okPurse m x y) ∧ (okP n x y → zPurse n c x y = vPurse m x y (n 0)) := by
  obtain ⟨hn, rd, tp, hI, hE, hJ⟩ := id h
  refine ⟨and_congr (kB_is hI) Iff.rfl, fun hok => ?_⟩
  obtain ⟨jb, hjb, rfl, hbd⟩ := kB_nI hn hok.1
  unfold zPurse vPurse
  rw [tn_nI (by omega), pts_eq hn hE hbd, cost_eq hE hjb (n 0) (Nat.le_refl _), heldS_eq hE hjb (n 0) (Nat.le_refl _)]
  by_cases hf : kF n (nI jb)
  · have hf2 := (kF_is hI).mp hf
    obtain ⟨jf, hjf, he⟩ := kF_nI hn hf
    have h4 := hn.2.2
    have e : jb = 24 + jf := (nI_eq (by omega) (by omega)).mp he
    subst e
    have hk : zKept n c (24 + jf - 24) (24 + jf) ↔ mKept m (24 + jf) (n 0) := by
      have e24 : ∀ g, g = jf → (zKept n c g (24 + jf) ↔ mKept m (24 + jf) (n 0)) := fun g hg => by
        subst hg
        exact kept_eq hn hE hJ hjf
      exact e24 _ (by omega)
    have hb : bI (zKept n c (24 + jf - 24) (24 + jf)) = bI (mKept m (24 + jf) (n 0)) := by
      by_cases q : mKept m (24 + jf) (n 0)
      · rw [← bI_t q, ← bI_t (hk.mpr q)]
      · rw [← bI_f q, ← bI_f (fun r => q (hk.mp r))]
    rw [if_pos hf, if_pos hf, if_pos hf2, if_pos hf2, hb, (hE.2.2.2.2.2.2.2.2.2.1 (24 + jf - 24) (by omega)).2.2]
  · have hf2 : ¬ isF m (nI jb) := fun q => hf ((kF_is hI).mpr q)
    rw [if_neg hf, if_neg hf, if_neg hf2, if_neg hf2]
theorem R_give {b f x : Int32} (h : Rel n op c m w) : (zGive n c b f x).1 = (sGive m b f x (n 0)).1 ∧ Rel n op (zGive n c b f x).2 (sGive m b f x (n 0)).2 w := by
  obtain ⟨hn, rd, tp, hI, hE, hJ⟩ := id h
  have hn0 := hn.1
  have hn1 := hn.2.1
  have hn2 := hn.2.2
  have hrd : rd ≤ 49 := hI.2.2.2.2.2.2.2.1
  have h33 : m 33 0 = nI rd := hI.2.2.2.2.2.2.1
  unfold zGive sGive
  by_cases hpf : kP n b ∧ kF n f
  · obtain ⟨jb, hjb, rfl⟩ := kP_nI hn hpf.1
    obtain ⟨jf, hjf, rfl⟩ := kF_nI hn hpf.2
    have hP2 := (kP_is hI).mp hpf.1
    have hF2 := (kF_is hI).mp hpf.2
    have tb : tn (nI jb) = jb := tn_nI (by omega)
    have tf : tn (nI (24 + jf)) = 24 + jf := tn_nI (by omega)
    have g9 := (hE.2.2.2.2.2.2.2.2.1 jb hjb).1
    have g10 := hE.2.2.2.2.2.2.2.2.2.1 jf hjf
    have g11 := hE.2.2.2.2.2.2.2.2.2.2 jf hjf jb (by omega)
    have hcost := cost_eq hE (b := jb) (by omega) (n 0) (Nat.le_refl _)
    unfold okG okGive
    rw [tb, tf, g9, hcost, hE.1.2.1, Nat.add_sub_cancel_left]
    by_cases hc : m 33 0 = 0 ∧ 1 ≤ x ∧ x ≤ m 22 jb - mCost m jb (n 0)
    · have n33 : ¬ 0 < m 33 0 := by rw [hc.1]; decide
      have nx : ¬ x < 1 := i_nlt.mpr hc.2.1
      rw [if_pos ⟨hpf.1, hpf.2, hc⟩, if_pos ⟨hP2, hF2, n33, nx, hc.2.2⟩]
      refine ⟨by rw [g11], ?_⟩
      have r0 : rd = 0 := by
        have := hc.1
        rw [h33] at this
        exact (nI_eq (a := rd) (b := 0) (by omega) (by omega)).mp this
      show Rel n op (cu (cu (cu (cu c 18 jb 0 (m 22 jb - x)) 19 jf 0 (c 19 jf 0 + x)) 19 jf 3 (c 19 jf 3 + x)) 20 jf jb (c 20 jf jb + x)) (mu (mu (mu (mu (mu m 0 0 0) 22 jb (m 22 jb - x)) 22 (24 + jf) (mu (mu m 0 0 0) 22 jb (m 22 jb - x) 22 (24 + jf) + x)) 25 jf (m 25 jf + x)) 26 (4 * jb + jf) (m 26 (4 * jb + jf) + x)) w
      have v22 : mu (mu m 0 0 0) 22 jb (m 22 jb - x) 22 (24 + jf) = m 22 (24 + jf) := by
        rw [mu_at, if_neg (by omega), mu_at, if_neg (by omega)]
      rw [v22, g10.1, g10.2.2, g11]
      obtain ⟨cb1, cb2⟩ := cost_bd hn hJ (b := jb) (by omega) (n 0) (Nat.le_refl _)
      obtain ⟨hJ1, hJ2, hJ3, hJ4, hJ5, hJ6, hJ7, hJ8⟩ := id hJ
      obtain ⟨z1, z2⟩ := (hJ8 r0).1 jb hjb
      have z3 := (hJ8 r0).2 jf hjf
      have t1 : (1 : Int32).toInt = 1 := rfl
      have hx1 := hc.2.1
      have hx2 := hc.2.2
      rw [T_le] at hx1 hx2
      have gs : ∀ p, p < 24 → ∀ f, f < 4 → (m 26 (4 * p + f)).toInt ≤ 1000 := fun p hp f hf => by
        have a := sumZ_get (f := fun f => (m 26 (4 * p + f)).toInt) (k := 4) hf (fun i hi => ((hJ7.1 p hp).1 i hi).1)
        have a2 : (m 26 (4 * p + f)).toInt ≤ sumZ (fun f => (m 26 (4 * p + f)).toInt) 4 := a
        have := (hJ7.1 p hp).2
        omega
      have gn := sumZ_nn (f := fun f => (m 26 (4 * jb + f)).toInt) (k := 4) (fun i hi => ((hJ7.1 jb (by omega)).1 i hi).1)
      have sb := T_sub (x := m 22 jb) (y := mCost m jb (n 0)) (by omega) (by omega)
      have hxp : x.toInt ≤ (m 22 jb).toInt := by omega
      have s1 := T_sub (x := m 22 jb) (y := x) (by omega) (by omega)
      have gb := gs jb (by omega) jf (by omega)
      have gb0 := ((hJ7.1 jb (by omega)).1 jf (by omega)).1
      have s2 := T_add (x := m 26 (4 * jb + jf)) (y := x) (by omega) (by omega)
      have gvb : (m 25 jf).toInt ≤ 24 * 1000 := by
        rw [hJ7.2 jf (by omega)]
        exact sumZ_le (fun p hp => gs p hp jf (by omega))
      have gv0 : 0 ≤ (m 25 jf).toInt := by
        rw [hJ7.2 jf (by omega)]
        exact sumZ_nn (fun p hp => ((hJ7.1 p hp).1 jf (by omega)).1)
      have s3 := T_add (x := m 25 jf) (y := x) (by omega) (by omega)
      have hne : 24 + jf ≠ jb := by omega
      generalize hm' : mu (mu (mu (mu (mu m 0 0 0) 22 jb (m 22 jb - x)) 22 (24 + jf) (m 22 (24 + jf) + x)) 25 jf (m 25 jf + x)) 26 (4 * jb + jf) (m 26 (4 * jb + jf) + x) = m'
      have ev : ∀ a b, m' a b = if a = 26 ∧ b = 4 * jb + jf then m 26 (4 * jb + jf) + x else if a = 25 ∧ b = jf then m 25 jf + x else if a = 22 ∧ b = 24 + jf then m 22 (24 + jf) + x else if a = 22 ∧ b = jb then m 22 jb - x else if a = 0 ∧ b = 0 then 0 else m a b := by
        intro a b
        rw [← hm']
        simp only [mu_at]
      have e : ∀ a, a ≠ 0 → a ≠ 22 → a ≠ 25 → a ≠ 26 → m' a = m a := by
        intro a h0 h1 h2 h3
        funext b
        rw [ev, if_neg (fun q => h3 q.1), if_neg (fun q => h2 q.1), if_neg (fun q => h1 q.1), if_neg (fun q => h1 q.1), if_neg (fun q => h0 q.1)]
      have e22 : ∀ j, j ≠ jb → j ≠ 24 + jf → m' 22 j = m 22 j := fun j q1 q2 => by rw [ev]; simp [q1, q2]
      have f22 : m' 22 jb = m 22 jb - x := by rw [ev]; simp [hne.symm]
      have f22f : m' 22 (24 + jf) = m 22 (24 + jf) + x := by rw [ev]; simp
      have e25 : ∀ j, j ≠ jf → m' 25 j = m 25 j := fun j q => by rw [ev]; simp [q]
      have f25 : m' 25 jf = m 25 jf + x := by rw [ev]; simp
      have e26 : ∀ j, j ≠ 4 * jb + jf → m' 26 j = m 26 j := fun j q => by rw [ev]; simp [q]
      have f26 : m' 26 (4 * jb + jf) = m 26 (4 * jb + jf) + x := by rw [ev]; simp
      generalize hc' : cu (cu (cu (cu c 18 jb 0 (m 22 jb - x)) 19 jf 0 (m 22 (24 + jf) + x)) 19 jf 3 (m 25 jf + x)) 20 jf jb (m 26 (4 * jb + jf) + x) = c'
      have cv : ∀ a i j, c' a i j = if a = 20 ∧ i = jf ∧ j = jb then m 26 (4 * jb + jf) + x else if a = 19 ∧ i = jf ∧ j = 3 then m 25 jf + x else if a = 19 ∧ i = jf ∧ j = 0 then m 22 (24 + jf) + x else if a = 18 ∧ i = jb ∧ j = 0 then m 22 jb - x else c a i j := by
        intro a i j
        rw [← hc']
        simp only [cu_at]
      have ce : ∀ a, a ≠ 18 → a ≠ 19 → a ≠ 20 → c' a = c a := by
        intro a h1 h2 h3
        funext i j
        rw [cv, if_neg (fun q => h3 q.1), if_neg (fun q => h2 q.1), if_neg (fun q => h2 q.1), if_neg (fun q => h1 q.1)]
      refine ⟨hn, rd, tp, ?_, ?_, ?_⟩
      · unfold mI
        rw [e 30 (by decide) (by decide) (by decide) (by decide), e 31 (by decide) (by decide) (by decide) (by decide), e 32 (by decide) (by decide) (by decide) (by decide), e 33 (by decide) (by decide) (by decide) (by decide), e 2 (by decide) (by decide) (by decide) (by decide)]
        exact hI
      · unfold RelE
        rw [e 1 (by decide) (by decide) (by decide) (by decide), e 2 (by decide) (by decide) (by decide) (by decide), e 3 (by decide) (by decide) (by decide) (by decide), e 13 (by decide) (by decide) (by decide) (by decide), e 17 (by decide) (by decide) (by decide) (by decide), e 18 (by decide) (by decide) (by decide) (by decide), e 19 (by decide) (by decide) (by decide) (by decide), e 20 (by decide) (by decide) (by decide) (by decide), e 21 (by decide) (by decide) (by decide) (by decide), e 23 (by decide) (by decide) (by decide) (by decide), e 24 (by decide) (by decide) (by decide) (by decide), e 27 (by decide) (by decide) (by decide) (by decide), e 28 (by decide) (by decide) (by decide) (by decide), e 29 (by decide) (by decide) (by decide) (by decide), e 33 (by decide) (by decide) (by decide) (by decide), e 34 (by decide) (by decide) (by decide) (by decide), ce 0 (by decide) (by decide) (by decide), ce 1 (by decide) (by decide) (by decide), ce 2 (by decide) (by decide) (by decide), ce 3 (by decide) (by decide) (by decide), ce 4 (by decide) (by decide) (by decide), ce 13 (by decide) (by decide) (by decide), ce 14 (by decide) (by decide) (by decide), ce 15 (by decide) (by decide) (by decide), ce 16 (by decide) (by decide) (by decide), ce 17 (by decide) (by decide) (by decide)]
        obtain ⟨g1, g2, g3, g4, g5, g6, g7, g8, g9, g10, g11⟩ := hE
        refine ⟨g1, g2, g3, g4, g5, g6, g7, g8, fun p hp => ?_, fun f hf => ?_, fun f hf p hp => ?_⟩
        · have q := g9 p hp
          by_cases hj : p = jb
          · subst hj
            rw [f22, cv, cv]
            simp
            exact q.2
          · rw [e22 p hj (by omega), cv, cv]
            simp [hj]
            exact q
        · have q := g10 f hf
          by_cases hj : f = jf
          · subst hj
            rw [f22f, f25, cv, cv, cv]
            simp
            exact q.2.1
          · rw [e22 (24 + f) (by omega) (by omega), e25 f hj, cv, cv, cv]
            simp [hj]
            exact q
        · have q := g11 f hf p hp
          by_cases hj : f = jf ∧ p = jb
          · obtain ⟨rfl, rfl⟩ := hj
            rw [f26, cv]
            simp
          · rw [e26 (4 * p + f) (by omega), cv]
            simp [hj]
            exact q
      · have sG : ∀ p, p < 24 → sumZ (fun f => (m' 26 (4 * p + f)).toInt) 4 = sumZ (fun f => (m 26 (4 * p + f)).toInt) 4 + (if p = jb then x.toInt else 0) := by
          intro p hp
          by_cases q : p = jb
          · subst q
            rw [if_pos rfl]
            refine sumZ_put (j := jf) (by omega) (fun i hi hne => ?_) ?_
            · show (m' 26 (4 * p + i)).toInt = _
              rw [e26 _ (by omega)]
            · show (m' 26 (4 * p + jf)).toInt = _
              rw [f26, s2]
          · rw [if_neg q, Int.add_zero]
            exact sumZ_ext (fun i hi => by rw [e26 _ (by omega)])
        have sG2 : ∀ f, f < 4 → sumZ (fun p => (m' 26 (4 * p + f)).toInt) 24 = sumZ (fun p => (m 26 (4 * p + f)).toInt) 24 + (if f = jf then x.toInt else 0) := by
          intro f hf
          by_cases q : f = jf
          · subst q
            rw [if_pos rfl]
            refine sumZ_put (j := jb) (by omega) (fun i hi hne => ?_) ?_
            · show (m' 26 (4 * i + f)).toInt = _
              rw [e26 _ (by omega)]
            · show (m' 26 (4 * jb + f)).toInt = _
              rw [f26, s2]
          · rw [if_neg q, Int.add_zero]
            exact sumZ_ext (fun i hi => by rw [e26 _ (by omega)])
        have nG : ∀ p, p < 24 → ∀ f, f < 4 → 0 ≤ (m' 26 (4 * p + f)).toInt := fun p hp f hf => by
          by_cases q : p = jb ∧ f = jf
          · obtain ⟨rfl, rfl⟩ := q
            rw [f26, s2]
            omega
          · rw [e26 _ (by omega)]
            exact ((hJ7.1 p hp).1 f hf).1
        have lG : ∀ p, p < 24 → sumZ (fun f => (m' 26 (4 * p + f)).toInt) 4 ≤ 1000 := fun p hp => by
          rw [sG p hp]
          by_cases q : p = jb
          · subst q
            rw [if_pos rfl]
            omega
          · rw [if_neg q]
            have := (hJ7.1 p hp).2
            omega
        have gB : (m' 25 jf).toInt ≤ 24 * 1000 := by
          rw [f25, s3, hJ7.2 jf (by omega)]
          have q := sG2 jf (by omega)
          rw [if_pos rfl] at q
          rw [← q]
          refine sumZ_le (fun p hp => ?_)
          have a := sumZ_get (f := fun f => (m' 26 (4 * p + f)).toInt) (k := 4) (j := jf) (by omega) (fun i hi => nG p hp i hi)
          exact Int.le_trans a (lG p hp)
        unfold RelI
        rw [e 3 (by decide) (by decide) (by decide) (by decide), e 4 (by decide) (by decide) (by decide) (by decide), e 5 (by decide) (by decide) (by decide) (by decide), e 6 (by decide) (by decide) (by decide) (by decide), e 17 (by decide) (by decide) (by decide) (by decide), e 18 (by decide) (by decide) (by decide) (by decide), e 19 (by decide) (by decide) (by decide) (by decide), e 21 (by decide) (by decide) (by decide) (by decide), e 27 (by decide) (by decide) (by decide) (by decide), e 28 (by decide) (by decide) (by decide) (by decide), e 29 (by decide) (by decide) (by decide) (by decide)]
        refine ⟨hJ1, hJ2, hJ3, hJ4, hJ5, fun b hb => ?_, ⟨fun p hp => ⟨fun f hf => ⟨nG p hp f hf, fun s => ?_⟩, lG p hp⟩, fun f hf => ?_⟩, fun _ => ⟨fun p hp => ?_, fun f hf => ?_⟩⟩
        · have q := hJ6 b hb
          have sn := sumZ_nn (f := fun z => (m 28 (10 * b + z)).toInt) (k := 10) (fun z hz => (hJ4.1 b hb z hz).1)
          by_cases q1 : b = jb
          · subst q1
            rw [f22, s1]
            exact ⟨by omega, by omega, fun s => absurd (Or.inl hjb) s⟩
          · by_cases q2 : b = 24 + jf
            · subst q2
              have gb2 := gB
              rw [f25, s3] at gb2
              rw [f22f, z3, s3]
              exact ⟨by omega, by omega, fun s => absurd (Or.inr ⟨by omega, by omega⟩) s⟩
            · rw [e22 b q1 q2]
              exact q
        · rw [e26 _ (by rcases s with s | s <;> omega)]
          exact ((hJ7.1 p hp).1 f hf).2 s
        · rw [sG2 f hf]
          by_cases q : f = jf
          · subst q
            rw [f25, s3, hJ7.2 f hf, if_pos rfl]
          · rw [e25 f q, hJ7.2 f hf, if_neg q, Int.add_zero]
        · rw [sG p (by omega)]
          by_cases q : p = jb
          · subst q
            rw [f22, s1, if_pos rfl]
            omega
          · rw [e22 p q (by omega), if_neg q, Int.add_zero]
            exact (hJ8 r0).1 p hp
        · by_cases q : f = jf
          · subst q
            rw [f22f, f25, z3]
          · rw [e22 (24 + f) (by omega) (by omega), e25 f q]
            exact (hJ8 r0).2 f hf
    · rw [if_neg (fun q => hc ⟨q.2.2.1, q.2.2.2.1, q.2.2.2.2⟩), if_neg (fun q => hc ⟨?_, ?_, q.2.2.2.2⟩)]
      · exact ⟨rfl, R_thr h⟩
      · have := q.2.2.1
        rw [h33] at this ⊢
        by_cases z : rd = 0
        · rw [z]; rfl
        · exact absurd (nI_lt (a := 0) (by omega) (by omega)) this
      · exact i_nlt.mp q.2.2.2.1
  · rw [if_neg (fun q => hpf ⟨q.1, q.2.1⟩), if_neg (fun q => hpf ⟨(kP_is hI).mpr q.1, (kF_is hI).mpr q.2.1⟩)]
    exact ⟨rfl, R_thr h⟩
end W4

section CLOSE
variable {n : Nat → Nat} {op : Option Nat} {c c' : Nat → Nat → Nat → Int32} {m m' : Nat → Nat → Int32} {w : Int64} {rd k x : Nat}
theorem mC2_congr {nP : Nat} {R1 R2 S1 S2 : Nat → Nat} : ∀ {k : Nat}, (∀ j, j < k → R1 j = S1 j ∧ R2 j = S2 j) → mC2 m nP R1 R2 k = mC2 m nP S1 S2 k
  | 0, _ => rfl
  | k + 1, h => by rw [mC2, mC2, mC2_congr (fun j hj => h j (by omega)), (h k (by omega)).1, (h k (by omega)).2]
theorem vC2_congr {nP : Nat} {R1 R2 S1 S2 : Nat → Nat} : ∀ {k : Nat}, (∀ j, j < k → R1 j = S1 j ∧ R2 j = S2 j) → vC2 m nP R1 R2 k = vC2 m nP S1 S2 k
  | 0, _ => rfl
  | k + 1, h => by rw [vC2, vC2, vC2_congr (fun j hj => h j (by omega)), mC2_congr (fun j hj => h j (by omega)), (h k (by omega)).1, (h k (by omega)).2]
theorem zC_congr {O Q : Nat → Nat → Nat} : ∀ {k : Nat}, (∀ j, j < k → O j = Q j) → zC n c rd O k = zC n c rd Q k
  | 0, _ => rfl
  | k + 1, h => by rw [zC, zC, zC_congr (fun j hj => h j (by omega)), h k (by omega)]
theorem vC_congr {O Q : Nat → Nat → Nat} : ∀ {k : Nat}, (∀ j, j < k → O j = Q j) → vC n c rd O k = vC n c rd Q k
  | 0, _ => rfl
  | k + 1, h => by rw [vC, vC, vC_congr (fun j hj => h j (by omega)), zC_congr (fun j hj => h j (by omega)), h k (by omega)]
def LpI (n : Nat → Nat) (c : Nat → Nat → Nat → Int32) (m : Nat → Nat → Int32) (rd k : Nat) (C : Nat → Nat → Nat → Int32) (M : Nat → Nat → Int32) : Prop :=
  CRel n C M k ∧ (∀ a, a < 10 ∨ a = 20 → C a = c a) ∧ (∀ y, k ≤ y → C 16 y = c 16 y ∧ C 17 y = c 17 y) ∧ (∀ y, y < k → (∀ b, b < 28 → C 14 y b = 0) ∧ C 16 y (rd + 1) = M 19 y ∧ (∀ r, r ≠ rd + 1 → C 16 y r = c 16 y r) ∧ (∀ b, b < 28 → C 17 y ((rd + 1) * 28 + b) = M 28 (10 * b + y)) ∧ ∀ j, j < (rd + 1) * 28 → C 17 y j = c 17 y j) ∧ (∀ a, a ≠ 18 → a ≠ 19 → a ≠ 22 → a ≠ 27 → a ≠ 28 → a ≠ 35 → a ≠ 36 → M a = m a) ∧ (∀ y, k ≤ y → M 18 y = m 18 y)
theorem close_lp (hn : nOK n) (h : CRel n c m 0) (hrd : rd < 49) (h33 : m 33 0 = nI rd) (hls : rd = 0 → ∀ y, y < n 0 → m 18 y = m 17 y) : ∀ k, k ≤ n 0 → ∃ (R1 R2 : Nat → Nat) (O : Nat → Nat → Nat), (∀ j, j < k → 0 < mC2 m (n 1) R1 R2 j 18 j → okSW (mC2 m (n 1) R1 R2 j) j (n 1) (R1 j) (R2 j)) ∧ (∀ j, j < k → okER n (zC n c rd O j) j rd (O j 0) (O j 1) (O j 2) (O j 3)) ∧ vC n c rd O k = vC2 m (n 1) R1 R2 k ∧ LpI n c m rd k (zC n c rd O k) (mC2 m (n 1) R1 R2 k) := by
  have hn0 := hn.1
  intro k
  induction k with
  | zero =>
    intro _
    refine ⟨fun _ => 0, fun _ => 0, fun _ _ => 0, fun j hj => by omega, fun j hj => by omega, rfl, h, fun a _ => rfl, fun y _ => ⟨rfl, rfl⟩, fun y hy => by omega, fun a _ _ _ _ _ _ _ => rfl, fun y _ => rfl⟩
  | succ k ih =>
    intro hk
    obtain ⟨R1, R2, O, a1, a2, a3, b1, b2, b3, b4, b5, b6⟩ := ih (by omega)
    have m33 : mC2 m (n 1) R1 R2 k 33 0 = nI rd := by rw [b5 33 (by decide) (by decide) (by decide) (by decide) (by decide) (by decide) (by decide)]; exact h33
    have hl2 : rd = 0 → mC2 m (n 1) R1 R2 k 18 k = mC2 m (n 1) R1 R2 k 17 k := fun q => by
      rw [b6 k (Nat.le_refl _), b5 17 (by decide) (by decide) (by decide) (by decide) (by decide) (by decide) (by decide)]
      exact hls q k (by omega)
    obtain ⟨r1, r2, o1, o2, o3, o4, G, d1, d2, d3, d4, d5, d6, d7, d8, d9⟩ := st_er hn b1 (by omega) hrd m33 hl2
    generalize hC : zC n c rd O k = C at *
    generalize hM : mC2 m (n 1) R1 R2 k = M at *
    -- the new choices
    have e1 : ∀ j, j < k → R1 j = (fun j => if j = k then r1 else R1 j) j ∧ R2 j = (fun j => if j = k then r2 else R2 j) j := fun j hj => by
      have : j ≠ k := by omega
      simp [this]
    have e2 : ∀ j, j < k → O j = (fun j => if j = k then (fun i => if i = 0 then o1 else if i = 1 then o2 else if i = 2 then o3 else o4) else O j) j := fun j hj => by
      have : j ≠ k := by omega
      simp [this]
    have f1 : ∀ j, j ≤ k → mC2 m (n 1) (fun j => if j = k then r1 else R1 j) (fun j => if j = k then r2 else R2 j) j = mC2 m (n 1) R1 R2 j := fun j hj => (mC2_congr (fun i hi => e1 i (by omega))).symm
    have f2 : ∀ j, j ≤ k → zC n c rd (fun j => if j = k then (fun i => if i = 0 then o1 else if i = 1 then o2 else if i = 2 then o3 else o4) else O j) j = zC n c rd O j := fun j hj => (zC_congr (fun i hi => e2 i (by omega))).symm
    have f3 : vC2 m (n 1) (fun j => if j = k then r1 else R1 j) (fun j => if j = k then r2 else R2 j) k = vC2 m (n 1) R1 R2 k := (vC2_congr e1).symm
    have f4 : vC n c rd (fun j => if j = k then (fun i => if i = 0 then o1 else if i = 1 then o2 else if i = 2 then o3 else o4) else O j) k = vC n c rd O k := (vC_congr e2).symm
    have g1 : mC2 m (n 1) (fun j => if j = k then r1 else R1 j) (fun j => if j = k then r2 else R2 j) (k + 1) = if 0 < M 18 k then (sSW M k (n 1) r1 r2).2 else M := by
      rw [mC2, f1 k (Nat.le_refl _), hM]
      simp
    have g2 : zC n c rd (fun j => if j = k then (fun i => if i = 0 then o1 else if i = 1 then o2 else if i = 2 then o3 else o4) else O j) (k + 1) = zER n C k rd o1 o2 o3 o4 := by
      rw [zC, f2 k (Nat.le_refl _), hC]
      simp
    refine ⟨fun j => if j = k then r1 else R1 j, fun j => if j = k then r2 else R2 j, fun j => if j = k then (fun i => if i = 0 then o1 else if i = 1 then o2 else if i = 2 then o3 else o4) else O j, fun j hj => ?_, fun j hj => ?_, ?_, ?_⟩
    · by_cases e : j = k
      · subst e
        rw [f1 j (Nat.le_refl _), hM]
        simpa using d1
      · rw [f1 j (by omega)]
        have := a1 j (by omega)
        simpa [e] using this
    · by_cases e : j = k
      · subst e
        rw [f2 j (Nat.le_refl _), hC]
        simpa using d2
      · rw [f2 j (by omega)]
        have := a2 j (by omega)
        simpa [e] using this
    · rw [vC, vC2, f4, f3, f2 k (Nat.le_refl _), f1 k (Nat.le_refl _), hC, hM, a3]
      by_cases hp : 0 < M 18 k
      · rw [if_pos hp]
        have q := d7 hp
        simp only [if_true, if_pos rfl]
        have v := d6
        simp at v ⊢
        rw [q, v]
      · rw [if_neg hp]
        have q := d8 hp
        have v := d6
        rw [q] at v
        simp at v ⊢
        rw [v]
        rfl
    · rw [g1, g2]
      have kp : ∀ a i j, zER n C k rd o1 o2 o3 o4 a i j = if a = 16 ∧ i = k ∧ j = rd + 1 then zER1 n C k rd o1 o2 o3 o4 13 k 3 else if a = 14 ∧ i = k ∧ j < 28 then 0 else if a = 17 ∧ i = k ∧ (rd + 1) * 28 ≤ j ∧ j < (rd + 1) * 28 + 28 then zER1 n C k rd o1 o2 o3 o4 15 k (j - (rd + 1) * 28) else zER1 n C k rd o1 o2 o3 o4 a i j := fun a i j => cKeep_at _ k (rd + 1) a i j
      generalize hM' : (if 0 < M 18 k then (sSW M k (n 1) r1 r2).2 else M) = M' at *
      generalize hC1 : zER1 n C k rd o1 o2 o3 o4 = C1 at *
      refine ⟨d3, fun a ha => ?_, fun y hy => ⟨?_, ?_⟩, fun y hy => ?_, fun a q1 q2 q3 q4 q5 q6 q7 => (d5.1 a q1 q2 q3 q4 q5 q6 q7).trans (b5 a q1 q2 q3 q4 q5 q6 q7), fun y hy => ?_⟩
      · funext i j
        rw [kp, if_neg (by omega), if_neg (by omega), if_neg (by omega), d4.1 a (by omega), b2 a ha]
      · funext j
        rw [kp, if_neg (by omega), if_neg (by omega), if_neg (by omega), d4.1 16 (by decide), (b3 y (by omega)).1]
      · funext j
        rw [kp, if_neg (by omega), if_neg (by omega), if_neg (by omega), d4.1 17 (by decide), (b3 y (by omega)).2]
      · by_cases e : y = k
        · subst e
          refine ⟨fun b hb => ?_, ?_, fun r hr => ?_, fun b hb => ?_, fun j hj => ?_⟩
          · rw [kp, if_neg (by omega), if_pos ⟨rfl, rfl, hb⟩]
          · rw [kp, if_pos ⟨rfl, rfl, rfl⟩]
            exact (d9.2.1 y (by omega)).2.2.2
          · rw [kp, if_neg (by omega), if_neg (by omega), if_neg (by omega), d4.1 16 (by decide), (b3 y (Nat.le_refl _)).1]
          · rw [kp, if_neg (by omega), if_neg (by omega), if_pos ⟨rfl, rfl, by omega, by omega⟩, Nat.add_sub_cancel_left]
            exact d9.2.2.2.1 y (by omega) b hb
          · rw [kp, if_neg (by omega), if_neg (by omega), if_neg (by omega), d4.1 17 (by decide), (b3 y (Nat.le_refl _)).2]
        · obtain ⟨p1, p2, p3, p4, p5⟩ := b4 y (by omega)
          refine ⟨fun b hb => ?_, ?_, fun r hr => ?_, fun b hb => ?_, fun j hj => ?_⟩
          · rw [kp, if_neg (by omega), if_neg (by omega), if_neg (by omega), d4.2 y e]
            exact p1 b hb
          · rw [kp, if_neg (by omega), if_neg (by omega), if_neg (by omega), d4.1 16 (by decide), (d5.2.1 y e).2]
            exact p2
          · rw [kp, if_neg (by omega), if_neg (by omega), if_neg (by omega), d4.1 16 (by decide)]
            exact p3 r hr
          · rw [kp, if_neg (by omega), if_neg (by omega), if_neg (by omega), d4.1 17 (by decide), d5.2.2 y (by omega) e b hb]
            exact p4 b hb
          · rw [kp, if_neg (by omega), if_neg (by omega), if_neg (by omega), d4.1 17 (by decide)]
            exact p5 j hj
      · rw [(d5.2.1 y (by omega)).1]
        exact b6 y (by omega)
theorem mC1_at (m : Nat → Nat → Int32) (rd : Nat) : ∀ (k a j : Nat), mC1 m rd k a j = if a = 29 ∧ 280 * rd ≤ j ∧ j < 280 * rd + k then m 28 (j - 280 * rd) else m a j
  | 0, a, j => by rw [mC1, if_neg (by omega)]
  | k + 1, a, j => by
    have h28 : mC1 m rd k 28 k = m 28 k := by rw [mC1_at m rd k 28 k, if_neg (by omega)]
    rw [mC1, mu_at, h28, mC1_at m rd k a j]
    by_cases e : a = 29 ∧ j = 280 * rd + k
    · rw [if_pos e, if_pos (c := a = 29 ∧ 280 * rd ≤ j ∧ j < 280 * rd + (k + 1)) (by omega), e.2, Nat.add_sub_cancel_left]
    · rw [if_neg e]
      have e1 : (a = 29 ∧ 280 * rd ≤ j ∧ j < 280 * rd + (k + 1)) ↔ (a = 29 ∧ 280 * rd ≤ j ∧ j < 280 * rd + k) := by omega
      simp only [e1]
theorem mC3_at (m : Nat → Nat → Int32) : ∀ (k a j : Nat), mC3 m k a j = if a = 27 ∧ j < k then 0 else m a j
  | 0, a, j => by rw [mC3, if_neg (by omega)]
  | k + 1, a, j => by
    rw [mC3, mu_at, mC3_at m k a j]
    by_cases e : a = 27 ∧ j = k
    · rw [if_pos e, if_pos (c := a = 27 ∧ j < k + 1) (by omega)]
    · rw [if_neg e]
      have e1 : (a = 27 ∧ j < k + 1) ↔ (a = 27 ∧ j < k) := by omega
      simp only [e1]
theorem mC4_at (m : Nat → Nat → Int32) {r : Nat} (hr : r < 50) : ∀ (k a j : Nat), mC4 m r k a j = if a = 20 ∧ j % 50 = r ∧ j / 50 < k then m 19 (j / 50) else m a j
  | 0, a, j => by rw [mC4, if_neg (by omega)]
  | k + 1, a, j => by
    have h19 : mC4 m r k 19 k = m 19 k := by rw [mC4_at m hr k 19 k, if_neg (by omega)]
    rw [mC4, mu_at, h19, mC4_at m hr k a j]
    by_cases e : a = 20 ∧ j = 50 * k + r
    · rw [if_pos e, if_pos (c := a = 20 ∧ j % 50 = r ∧ j / 50 < k + 1) (by omega), show j / 50 = k by omega]
    · rw [if_neg e]
      have e1 : (a = 20 ∧ j % 50 = r ∧ j / 50 < k + 1) ↔ (a = 20 ∧ j % 50 = r ∧ j / 50 < k) := by omega
      simp only [e1]
theorem R_close (h : Rel n op c m w) (h9 : c 0 0 9 = nI rd) (hrd : rd ≤ 49) : ∃ O R1 R2, (rd < 49 → okC n c rd O) ∧ (¬ rd = 49 → okClose m (n 0) (n 1) rd R1 R2) ∧ (zClose n c rd O).1 = (sClose m (n 0) (n 1) rd R1 R2).1 ∧ Rel n op (zClose n c rd O).2 (sClose m (n 0) (n 1) rd R1 R2).2 w := by
  obtain ⟨hn, rd', tp, hI, hE, hJ⟩ := id h
  have e9 : rd' = rd := by
    have := hE.1.2.1
    rw [h9, hI.2.2.2.2.2.2.1] at this
    exact ((nI_eq (by have := hI.2.2.2.2.2.2.2.1; omega) (by omega)).mp this.symm)
  subst e9
  have hn0 := hn.1
  by_cases h49 : rd' = 49
  · refine ⟨fun _ _ => 0, fun _ => 0, fun _ => 0, fun q => by omega, fun q => absurd h49 q, ?_, ?_⟩
    · unfold zClose sClose
      rw [if_neg (by omega), if_pos h49]
    · unfold zClose sClose
      rw [if_neg (by omega), if_pos h49]
      exact R_thr h
  · have hlt : rd' < 49 := by omega
    obtain ⟨g1, g2, g3, g4, g5, g6, g7, g8, g9, g10, g11⟩ := id hE
    obtain ⟨j1, j2, j3, j4, j5, j6, j7, j8⟩ := id hJ
    have e1 : ∀ a, a ≠ 0 → a ≠ 29 → cl1 m rd' a = m a := fun a h0 h29 => by
      funext j
      unfold cl1
      rw [mC1_at, if_neg (fun q => h29 q.1), mu_row h0]
    have e29 : ∀ j, cl1 m rd' 29 j = if 280 * rd' ≤ j ∧ j < 280 * rd' + 280 then m 28 (j - 280 * rd') else m 29 j := fun j => by
      unfold cl1
      rw [mC1_at, mu_row (by decide), mu_row (by decide)]
      by_cases q : 280 * rd' ≤ j ∧ j < 280 * rd' + 280
      · rw [if_pos ⟨rfl, q⟩, if_pos q]
      · rw [if_neg (fun z => q z.2), if_neg q]
    have hcr : CRel n c (cl1 m rd') 0 := by
      unfold CRel
      rw [e1 3 (by decide) (by decide), e1 4 (by decide) (by decide), e1 5 (by decide) (by decide), e1 6 (by decide) (by decide), e1 17 (by decide) (by decide), e1 18 (by decide) (by decide), e1 19 (by decide) (by decide), e1 21 (by decide) (by decide), e1 22 (by decide) (by decide), e1 23 (by decide) (by decide), e1 24 (by decide) (by decide), e1 25 (by decide) (by decide), e1 27 (by decide) (by decide), e1 28 (by decide) (by decide)]
      exact ⟨⟨g3, j1⟩, g4, fun x _ hx b hb => g5 x hx b hb, g6, g9, g10, fun x hx => ⟨(j2 x hx).1, (j2 x hx).2.1, (j2 x hx).2.2.1, (j2 x hx).2.2.2.1, (j2 x hx).2.2.2.2.1⟩, fun b hb x _ hx => ⟨(j3 b hb x hx).1, (j3 b hb x hx).2.1, fun d => (j3 b hb x hx).2.2 (Or.inr d)⟩, j4, j6⟩
    obtain ⟨R1, R2, O, a1, a2, a3, b1, b2, b3, b4, b5, b6⟩ := close_lp hn hcr hlt (by rw [e1 33 (by decide) (by decide)]; exact hI.2.2.2.2.2.2.1) (fun q y hy => by rw [e1 18 (by decide) (by decide), e1 17 (by decide) (by decide)]; exact (j2 y hy).2.2.2.2.2.2 q) (n 0) (Nat.le_refl _)
    refine ⟨O, R1, R2, fun _ => a2, fun _ => a1, ?_, ?_⟩
    · unfold zClose sClose
      rw [if_pos hlt, if_neg h49]
      exact a3
    · unfold zClose sClose
      rw [if_pos hlt, if_neg h49]
      show Rel n op (cu (cu (zC n c rd' O (n 0)) 0 0 9 (nI (rd' + 1))) 0 0 10 (zC n c rd' O (n 0) 0 0 10 + vC n c rd' O (n 0))) (mu (cl4 m (n 0) (n 1) rd' R1 R2) 34 0 (cl4 m (n 0) (n 1) rd' R1 R2 34 0 + vC2 (cl1 m rd') (n 1) R1 R2 (n 0))) w
      rw [a3]
      generalize vC2 (cl1 m rd') (n 1) R1 R2 (n 0) = v
      generalize hC : zC n c rd' O (n 0) = C at *
      have hM : ∀ a j, cl4 m (n 0) (n 1) rd' R1 R2 a j = if a = 20 ∧ j % 50 = rd' + 1 ∧ j / 50 < n 0 then mC2 (cl1 m rd') (n 1) R1 R2 (n 0) 19 (j / 50) else if a = 33 ∧ j = 0 then nI (rd' + 1) else if a = 27 ∧ j < 280 then 0 else mC2 (cl1 m rd') (n 1) R1 R2 (n 0) a j := fun a j => by
        have q1 : ∀ y, cl3 m (n 0) (n 1) rd' R1 R2 19 y = mC2 (cl1 m rd') (n 1) R1 R2 (n 0) 19 y := fun y => by
          unfold cl3 cl2
          rw [mu_at, if_neg (by omega), mC3_at, if_neg (by omega)]
        have q2 : cl3 m (n 0) (n 1) rd' R1 R2 a j = if a = 33 ∧ j = 0 then nI (rd' + 1) else if a = 27 ∧ j < 280 then 0 else mC2 (cl1 m rd') (n 1) R1 R2 (n 0) a j := by
          unfold cl3 cl2
          rw [mu_at, mC3_at]
        unfold cl4
        rw [mC4_at _ (by omega), q1, q2]
      generalize mC2 (cl1 m rd') (n 1) R1 R2 (n 0) = M at *
      generalize hM4 : cl4 m (n 0) (n 1) rd' R1 R2 = M4 at *
      -- rows of the second world at the end
      have w34 : mu M4 34 0 (M4 34 0 + v) 34 0 = m 34 0 + v := by
        rw [mu_at, if_pos ⟨rfl, rfl⟩, hM, if_neg (by omega), if_neg (by omega), if_neg (by omega), b5 34 (by decide) (by decide) (by decide) (by decide) (by decide) (by decide) (by decide), e1 34 (by decide) (by decide)]
      have wr : ∀ a, a ≠ 20 → a ≠ 33 → a ≠ 27 → a ≠ 34 → mu M4 34 0 (M4 34 0 + v) a = M a := fun a q1 q2 q3 q4 => by
        rw [mu_row q4]
        funext j
        rw [hM, if_neg (fun z => q1 z.1), if_neg (fun z => q2 z.1), if_neg (fun z => q3 z.1)]
      have wm : ∀ a, a ≠ 20 → a ≠ 33 → a ≠ 27 → a ≠ 34 → a ≠ 18 → a ≠ 19 → a ≠ 22 → a ≠ 28 → a ≠ 35 → a ≠ 36 → a ≠ 0 → a ≠ 29 → mu M4 34 0 (M4 34 0 + v) a = m a := fun a q1 q2 q3 q4 q5 q6 q7 q8 q9 q10 q11 q12 => by
        rw [wr a q1 q2 q3 q4, b5 a q5 q6 q7 q3 q8 q9 q10, e1 a q11 q12]
      have w33 : mu M4 34 0 (M4 34 0 + v) 33 0 = nI (rd' + 1) := by
        rw [mu_row (by decide), hM, if_neg (by omega), if_pos ⟨rfl, rfl⟩]
      have w27 : ∀ j, j < 280 → mu M4 34 0 (M4 34 0 + v) 27 j = 0 := fun j hj => by
        rw [mu_row (by decide), hM, if_neg (by omega), if_neg (by omega), if_pos ⟨rfl, hj⟩]
      have w20 : ∀ x, x < n 0 → mu M4 34 0 (M4 34 0 + v) 20 (50 * x + (rd' + 1)) = M 19 x := fun x hx => by
        rw [mu_row (by decide), hM, if_pos ⟨rfl, by omega, by omega⟩, show (50 * x + (rd' + 1)) / 50 = x by omega]
      have w20' : ∀ x r, r ≤ rd' → mu M4 34 0 (M4 34 0 + v) 20 (50 * x + r) = m 20 (50 * x + r) := fun x r hr => by
        rw [mu_row (by decide), hM, if_neg (by omega), if_neg (by omega), if_neg (by omega), b5 20 (by decide) (by decide) (by decide) (by decide) (by decide) (by decide) (by decide), e1 20 (by decide) (by decide)]
      have w29 : ∀ j, mu M4 34 0 (M4 34 0 + v) 29 j = if 280 * rd' ≤ j ∧ j < 280 * rd' + 280 then m 28 (j - 280 * rd') else m 29 j := fun j => by
        rw [wr 29 (by decide) (by decide) (by decide) (by decide), b5 29 (by decide) (by decide) (by decide) (by decide) (by decide) (by decide) (by decide)]
        exact e29 j
      generalize mu M4 34 0 (M4 34 0 + v) = F at *
      -- rows of the first
      have cr : ∀ a, a ≠ 0 → cu (cu C 0 0 9 (nI (rd' + 1))) 0 0 10 (C 0 0 10 + v) a = C a := fun a ha => by
        rw [cu_rw ha, cu_rw ha]
      have c9 : cu (cu C 0 0 9 (nI (rd' + 1))) 0 0 10 (C 0 0 10 + v) 0 0 9 = nI (rd' + 1) := by
        rw [cu_at, if_neg (by omega), cu_at, if_pos ⟨rfl, rfl, rfl⟩]
      have c10 : cu (cu C 0 0 9 (nI (rd' + 1))) 0 0 10 (C 0 0 10 + v) 0 0 10 = c 0 0 10 + v := by
        rw [cu_at, if_pos ⟨rfl, rfl, rfl⟩, b2 0 (by decide)]
      generalize cu (cu C 0 0 9 (nI (rd' + 1))) 0 0 10 (C 0 0 10 + v) = D at *
      obtain ⟨⟨hv, hr⟩, hwk, ha, hh, hpe, hfu, hbd, hia, hih, hip⟩ := b1
      refine ⟨hn, rd' + 1, tp, ?_, ?_, ?_⟩
      · unfold mI
        rw [w33, wm 30 (by decide) (by decide) (by decide) (by decide) (by decide) (by decide) (by decide) (by decide) (by decide) (by decide) (by decide) (by decide), wm 31 (by decide) (by decide) (by decide) (by decide) (by decide) (by decide) (by decide) (by decide) (by decide) (by decide) (by decide) (by decide), wm 32 (by decide) (by decide) (by decide) (by decide) (by decide) (by decide) (by decide) (by decide) (by decide) (by decide) (by decide) (by decide), wm 2 (by decide) (by decide) (by decide) (by decide) (by decide) (by decide) (by decide) (by decide) (by decide) (by decide) (by decide) (by decide)]
        exact ⟨hI.1, hI.2.1, hI.2.2.1, hI.2.2.2.1, hI.2.2.2.2.1, hI.2.2.2.2.2.1, rfl, by omega, hI.2.2.2.2.2.2.2.2⟩
      · unfold RelE
        rw [w33, w34, c9, c10, wm 2 (by decide) (by decide) (by decide) (by decide) (by decide) (by decide) (by decide) (by decide) (by decide) (by decide) (by decide) (by decide), wm 13 (by decide) (by decide) (by decide) (by decide) (by decide) (by decide) (by decide) (by decide) (by decide) (by decide) (by decide) (by decide), wm 1 (by decide) (by decide) (by decide) (by decide) (by decide) (by decide) (by decide) (by decide) (by decide) (by decide) (by decide) (by decide), wr 3 (by decide) (by decide) (by decide) (by decide), wr 17 (by decide) (by decide) (by decide) (by decide), wr 18 (by decide) (by decide) (by decide) (by decide), wr 19 (by decide) (by decide) (by decide) (by decide), wr 21 (by decide) (by decide) (by decide) (by decide), wr 22 (by decide) (by decide) (by decide) (by decide), wr 23 (by decide) (by decide) (by decide) (by decide), wr 24 (by decide) (by decide) (by decide) (by decide), wr 25 (by decide) (by decide) (by decide) (by decide), wr 28 (by decide) (by decide) (by decide) (by decide), cr 1 (by decide), cr 2 (by decide), cr 3 (by decide), cr 4 (by decide), cr 13 (by decide), cr 14 (by decide), cr 15 (by decide), cr 16 (by decide), cr 17 (by decide), cr 18 (by decide), cr 19 (by decide), cr 20 (by decide), wm 26 (by decide) (by decide) (by decide) (by decide) (by decide) (by decide) (by decide) (by decide) (by decide) (by decide) (by decide) (by decide)]
        refine ⟨⟨by rw [b2 1 (by decide)]; exact g1.1, rfl, by rw [g1.2.2.1], by rw [b2 3 (by decide)]; exact g1.2.2.2⟩, by rw [b2 2 (by decide)]; exact g2, hv, hwk, fun x hx b hb => ?_, hh, fun x hx r hr hs => ?_, fun x hx r hr b hb => ?_, hpe, hfu, by rw [b2 20 (by decide)]; exact g11⟩
        · rw [w27 _ (by omega)]
          exact (b4 x hx).1 b hb
        · by_cases e : r = rd' + 1
          · rw [e, w20 x hx]
            exact (b4 x hx).2.1
          · rw [(b4 x hx).2.2.1 r e, w20' x r (by omega)]
            refine g7 x hx r (by omega) ?_
            rw [b5 21 (by decide) (by decide) (by decide) (by decide) (by decide) (by decide) (by decide), e1 21 (by decide) (by decide)] at hs
            exact hs
        · by_cases e : r = rd' + 1
          · rw [if_pos e, e]
            exact (b4 x hx).2.2.2.1 b hb
          · rw [if_neg e, (b4 x hx).2.2.2.2 _ (by omega), g8 x hx r (by omega) b hb, w29]
            by_cases q : r = rd'
            · rw [if_pos q, if_pos (by omega)]
              congr 1
              omega
            · rw [if_neg q, if_neg (by omega)]
      · unfold RelI
        rw [wr 3 (by decide) (by decide) (by decide) (by decide), wm 4 (by decide) (by decide) (by decide) (by decide) (by decide) (by decide) (by decide) (by decide) (by decide) (by decide) (by decide) (by decide), wm 5 (by decide) (by decide) (by decide) (by decide) (by decide) (by decide) (by decide) (by decide) (by decide) (by decide) (by decide) (by decide), wm 6 (by decide) (by decide) (by decide) (by decide) (by decide) (by decide) (by decide) (by decide) (by decide) (by decide) (by decide) (by decide), wr 17 (by decide) (by decide) (by decide) (by decide), wr 18 (by decide) (by decide) (by decide) (by decide), wr 19 (by decide) (by decide) (by decide) (by decide), wr 21 (by decide) (by decide) (by decide) (by decide), wr 22 (by decide) (by decide) (by decide) (by decide), wr 28 (by decide) (by decide) (by decide) (by decide), wm 25 (by decide) (by decide) (by decide) (by decide) (by decide) (by decide) (by decide) (by decide) (by decide) (by decide) (by decide) (by decide), wm 26 (by decide) (by decide) (by decide) (by decide) (by decide) (by decide) (by decide) (by decide) (by decide) (by decide) (by decide) (by decide)]
        refine ⟨?_, fun x hx => ?_, fun b hb x hx => ?_, hih, fun r hr b hb x hx => ?_, hip, j7, fun q => by omega⟩
        · have q4 : M 4 = m 4 := by rw [b5 4 (by decide) (by decide) (by decide) (by decide) (by decide) (by decide) (by decide), e1 4 (by decide) (by decide)]
          have q5 : M 5 = m 5 := by rw [b5 5 (by decide) (by decide) (by decide) (by decide) (by decide) (by decide) (by decide), e1 5 (by decide) (by decide)]
          have q6 : M 6 = m 6 := by rw [b5 6 (by decide) (by decide) (by decide) (by decide) (by decide) (by decide) (by decide), e1 6 (by decide) (by decide)]
          rw [q4, q5, q6] at hr
          exact hr
        · have q := hbd x hx
          refine ⟨q.1, q.2.1, q.2.2.1, q.2.2.2.1, q.2.2.2.2, ?_, fun z => by omega⟩
          rw [b5 21 (by decide) (by decide) (by decide) (by decide) (by decide) (by decide) (by decide), e1 21 (by decide) (by decide)]
          obtain ⟨k, hk, hs⟩ := (j2 x hx).2.2.2.2.2.1
          exact ⟨k, by omega, hs⟩
        · rw [w27 _ (by omega)]
          exact ⟨by decide, by decide, fun _ => rfl⟩
        · rw [w29]
          by_cases q : r = rd'
          · rw [if_pos (by omega), show 280 * r + 10 * b + x - 280 * rd' = 10 * b + x by omega]
            by_cases z : x < n 0
            · have y := held_bd hn hJ hb z
              exact ⟨y.1, y.2, fun s => by omega⟩
            · rw [(j4.1 b hb x hx).2 (by omega)]
              exact ⟨by decide, by decide, fun _ => rfl⟩
          · rw [if_neg (by omega)]
            exact j5 r (by omega) b hb x hx
end CLOSE

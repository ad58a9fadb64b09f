/-! the calls that write little -/
section W1
variable {n : Nat → Nat} {op op' : Option Nat} {c c' : Nat → Nat → Nat → Int32} {m m' : Nat → Nat → Int32} {w w' : Int64} {rd tp : Nat}
theorem sumZ_0 {f : Nat → Int} : ∀ {k : Nat}, (∀ i, i < k → f i = 0) → sumZ f k = 0
  | 0, _ => rfl
  | k + 1, h => by rw [sumZ, sumZ_0 (fun i hi => h i (by omega)), h k (by omega)]; rfl
theorem R_tape (h : Rel n op c m w) (hc : ∀ a, a ≠ 1 → a ≠ 2 → c' a = c a) (hm : ∀ a, a ≠ 0 → a ≠ 1 → a ≠ 2 → m' a = m a) (tp' : Nat) (htp : tp' ≤ 140) (h1 : c' 1 0 1 = nI tp') (h2 : m' 2 0 = nI tp') (ht : eTap (c' 2 0) (m' 1)) : Rel n op' c' m' w' := by
  obtain ⟨hn, rd, tp, hI, hE, hJ⟩ := h
  have e : ∀ a, 3 ≤ a → m' a = m a := fun a ha => hm a (by omega) (by omega) (by omega)
  have f : ∀ a, 3 ≤ a → c' a = c a := fun a ha => hc a (by omega) (by omega)
  refine ⟨hn, rd, tp', ?_, ?_, ?_⟩
  · unfold mI
    rw [e 30 (by decide), e 31 (by decide), e 32 (by decide), e 33 (by decide)]
    exact ⟨hI.1, hI.2.1, hI.2.2.1, hI.2.2.2.1, hI.2.2.2.2.1, hI.2.2.2.2.2.1, hI.2.2.2.2.2.2.1, hI.2.2.2.2.2.2.2.1, h2, htp⟩
  · unfold RelE
    rw [e 3 (by decide), e 13 (by decide), e 17 (by decide), e 18 (by decide), e 19 (by decide), e 20 (by decide), e 21 (by decide), e 22 (by decide), e 23 (by decide), e 24 (by decide), e 25 (by decide), e 26 (by decide), e 27 (by decide), e 28 (by decide), e 29 (by decide), e 33 (by decide), e 34 (by decide)]
    rw [hc 0 (by decide) (by decide), f 3 (by decide), f 4 (by decide), f 13 (by decide), f 14 (by decide), f 15 (by decide), f 16 (by decide), f 17 (by decide), f 18 (by decide), f 19 (by decide), f 20 (by decide)]
    exact ⟨⟨h1.trans h2.symm, hE.1.2⟩, ht, hE.2.2⟩
  · unfold RelI
    rw [e 3 (by decide), e 4 (by decide), e 5 (by decide), e 6 (by decide), e 17 (by decide), e 18 (by decide), e 19 (by decide), e 21 (by decide), e 22 (by decide), e 25 (by decide), e 26 (by decide), e 27 (by decide), e 28 (by decide), e 29 (by decide)]
    exact hJ
theorem byte_and (y : Int32) : (y.toInt8.toInt32.toInt8.toInt32 &&& 255) = (y &&& 255) := by
  apply Int32.toBitVec_inj.mp
  apply BitVec.eq_of_getLsbD_eq
  intro i hi
  have h255 : (255 : Int32).toBitVec = 255#32 := rfl
  by_cases h8 : i < 8
  · simp [h255, BitVec.getElem_signExtend, h8, hi]
  · have h2 : (255#32).getLsbD i = false := by
      have : i = 8 ∨ i = 9 ∨ i = 10 ∨ i = 11 ∨ i = 12 ∨ i = 13 ∨ i = 14 ∨ i = 15 ∨ i = 16 ∨ i = 17 ∨ i = 18 ∨ i = 19 ∨ i = 20 ∨ i = 21 ∨ i = 22 ∨ i = 23 ∨ i = 24 ∨ i = 25 ∨ i = 26 ∨ i = 27 ∨ i = 28 ∨ i = 29 ∨ i = 30 ∨ i = 31 := by omega
      rcases this with h | h | h | h | h | h | h | h | h | h | h | h | h | h | h | h | h | h | h | h | h | h | h | h <;> subst h <;> rfl
    simp only [Int32.toBitVec_and, BitVec.getLsbD_and, h255, h2, Bool.and_false]
theorem eTap_put {c2 t : Nat → Int32} (h : eTap c2 t) (tp : Nat) (x k : Int32) : eTap (upd c2 tp (cbt x k)) (upd t tp (bt x k)) := by
  intro j hj
  unfold upd
  by_cases e : j = tp
  · rw [if_pos e, if_pos e]
    exact byte_and _
  · rw [if_neg e, if_neg e]
    exact h j hj
theorem Ap1_2 (c : Nat → Nat → Nat → Int32) (tp : Nat) (v : Int32) : cAp1 c tp v 2 0 = upd (c 2 0) tp v := rfl
theorem Cm1_1 (m : Nat → Nat → Int32) (tp : Nat) (v : Int32) : mCm1 m tp v 1 = upd (m 1) tp v := rfl
theorem Ap1_r {a : Nat} (h1 : a ≠ 1) (h2 : a ≠ 2) (tp : Nat) (v : Int32) : cAp1 c tp v a = c a := by
  unfold cAp1
  rw [cu_rw h1, cu_rw h2]
theorem Cm1_r {a : Nat} (h1 : a ≠ 1) (h2 : a ≠ 2) (tp : Nat) (v : Int32) : mCm1 m tp v a = m a := by
  unfold mCm1
  rw [mu_row h2, mu_row h1]
theorem feed4 (c : Nat → Nat → Nat → Int32) (m : Nat → Nat → Int32) (tp : Nat) (x : Int32) (h : eTap (c 2 0) (m 1)) : eTap (cApp c tp x 2 0) (mCome m tp x 1) ∧ (∀ a, a ≠ 1 → a ≠ 2 → cApp c tp x a = c a) ∧ (∀ a, a ≠ 1 → a ≠ 2 → mCome m tp x a = m a) ∧ cApp c tp x 1 0 1 = nI (tp + 4) ∧ mCome m tp x 2 0 = nI (tp + 4) := by
  refine ⟨?_, fun a h1 h2 => ?_, fun a h1 h2 => ?_, rfl, rfl⟩
  · unfold cApp mCome
    rw [Ap1_2, Ap1_2, Ap1_2, Ap1_2, Cm1_1, Cm1_1, Cm1_1, Cm1_1]
    exact eTap_put (eTap_put (eTap_put (eTap_put h tp x 24) (tp + 1) x 16) (tp + 1 + 1) x 8) (tp + 1 + 1 + 1) x 0
  · unfold cApp
    rw [Ap1_r h1 h2, Ap1_r h1 h2, Ap1_r h1 h2, Ap1_r h1 h2]
  · unfold mCome
    rw [Cm1_r h1 h2, Cm1_r h1 h2, Cm1_r h1 h2, Cm1_r h1 h2]
theorem R_feed {x1 x2 x3 x4 x5 : Int32} (h : Rel n op c m w) (hT : c 1 0 1 = nI tp) (htp : tp ≤ 140) : (zFeed c x1 x2 x3 x4 x5 tp).1 = (sFeed m x1 x2 x3 x4 x5 tp).1 ∧ Rel n op (zFeed c x1 x2 x3 x4 x5 tp).2 (sFeed m x1 x2 x3 x4 x5 tp).2 w := by
  unfold zFeed sFeed
  by_cases h20 : tp + 20 ≤ 140
  · rw [if_pos h20, if_pos h20]
    refine ⟨rfl, ?_⟩
    have h0 := R_thr (v := 0) h
    obtain ⟨hn, rd, tp0, hI, hE, hJ⟩ := id h0
    obtain ⟨a1, b1, d1, -, -⟩ := feed4 c (mu m 0 0 0) (tp + 0) x1 hE.2.1
    obtain ⟨a2, b2, d2, -, -⟩ := feed4 _ _ (tp + 4) x2 a1
    obtain ⟨a3, b3, d3, -, -⟩ := feed4 _ _ (tp + 8) x3 a2
    obtain ⟨a4, b4, d4, -, -⟩ := feed4 _ _ (tp + 12) x4 a3
    obtain ⟨a5, b5, d5, e5, f5⟩ := feed4 _ _ (tp + 16) x5 a4
    refine R_tape h0 (fun a p q => ?_) (fun a _ p q => ?_) (tp + 20) h20 e5 f5 a5
    · exact (b5 a p q).trans ((b4 a p q).trans ((b3 a p q).trans ((b2 a p q).trans (b1 a p q))))
    · exact (d5 a p q).trans ((d4 a p q).trans ((d3 a p q).trans ((d2 a p q).trans (d1 a p q))))
  · rw [if_neg h20, if_neg h20]
    exact ⟨rfl, R_thr h⟩
theorem R_fin {x : Int32} (h : Rel n op c m w) : bI (0 ≤ x ∧ x ≤ c 1 0 1) = (sEnd m x).1 ∧ Rel n op (if 0 ≤ x ∧ x ≤ c 1 0 1 then cu c 1 0 1 x else c) (sEnd m x).2 w := by
  obtain ⟨hn, rd, tp, hI, hE, hJ⟩ := id h
  have h12 := hE.1.1
  have h2 : m 2 0 = nI tp := hI.2.2.2.2.2.2.2.2.1
  have htp : tp ≤ 140 := hI.2.2.2.2.2.2.2.2.2
  unfold sEnd
  rw [h12]
  by_cases hx : 0 ≤ x ∧ x ≤ m 2 0
  · rw [if_pos hx, if_pos hx]
    refine ⟨(bI_t hx).symm, ?_⟩
    have hx2 := hx.2
    rw [h2] at hx2
    obtain ⟨j, hj, rfl⟩ := nI_in2 (n := tp + 1) hx.1 (Int32.lt_of_le_of_lt hx2 (nI_lt (by omega) (by omega))) (by omega)
    show Rel n op (cu c 1 0 1 (nI j)) (mu (mu m 0 0 0) 2 0 (nI j)) w
    refine R_tape h (fun a p q => cu_rw p) (fun a r p q => ?_) j (by omega) (by rw [cu_same]) (by rw [mu_at, if_pos ⟨rfl, rfl⟩]) ?_
    · rw [mu_row q, mu_row r]
    · rw [cu_rw (by decide), mu_row (by decide), mu_row (by decide)]
      exact hE.2.1
  · rw [if_neg hx, if_neg hx]
    exact ⟨(bI_f hx).symm, R_thr h⟩
end W1

section RULES
variable {n : Nat → Nat} {op : Option Nat} {c : Nat → Nat → Nat → Int32} {m : Nat → Nat → Int32} {w : Int64} {tp : Nat}
theorem cBg_at (c : Nat → Nat → Nat → Int32) : ∀ k a i j, cBg c k a i j = if a = 5 ∧ i = 0 ∧ j < k then -1 else c a i j
  | 0, a, i, j => by rw [cBg, if_neg (by omega)]
  | k + 1, a, i, j => by
    rw [cBg, cu_at, cBg_at c k a i j]
    by_cases e : a = 5 ∧ i = 0 ∧ j = k
    · rw [if_pos e, if_pos (c := a = 5 ∧ i = 0 ∧ j < k + 1) (by omega)]
    · rw [if_neg e]
      have e1 : (a = 5 ∧ i = 0 ∧ j < k + 1) ↔ (a = 5 ∧ i = 0 ∧ j < k) := by omega
      simp only [e1]
theorem cBeg_r {a : Nat} (h1 : a ≠ 3) (h2 : a ≠ 5) : cBeg c a = c a := by
  unfold cBeg
  rw [cu_rw h1, cu_rw h1, cu_rw h1, cu_rw h1]
  funext i j
  rw [cBg_at, if_neg (fun z => h2 z.1)]
theorem mF6_at (m : Nat → Nat → Int32) : ∀ k a j, mF6 m k a j = if a = 7 ∧ j < k then m 4 j else m a j
  | 0, a, j => by rw [mF6, if_neg (by omega)]
  | k + 1, a, j => by
    have h4 : mF6 m k 4 k = m 4 k := by rw [mF6_at m k 4 k, if_neg (by omega)]
    rw [mF6, mu_at, h4, mF6_at m k a j]
    by_cases e : a = 7 ∧ j = k
    · rw [if_pos e, if_pos (c := a = 7 ∧ j < k + 1) (by omega), e.2]
    · rw [if_neg e]
      have e1 : (a = 7 ∧ j < k + 1) ↔ (a = 7 ∧ j < k) := by omega
      simp only [e1]
theorem bit_0 : ∀ i, i < 6 → ¬ (nI 0 >>> (nI i &&& 31) &&& 1 = 1) := by decide
theorem R_rules (h : Rel n op c m w) (hT : c 1 0 1 = nI tp) (htp : tp ≤ 140) : ∃ F, okRules m w tp F ∧ (zRules c tp).1 = (sRules m w tp F).1 ∧ Rel n (zRules c tp).2.1 (zRules c tp).2.2 (sRules m w tp F).2.1 (sRules m w tp F).2.2 := by
  obtain ⟨hn, rd, tp', hI, hE, hJ⟩ := id h
  have u0 : ∀ a, a ≠ 0 → a ≠ 2 → a ≠ 8 → a ≠ 13 → a ≠ 15 → a ≠ 7 → a ≠ 9 → ru1 m tp a = m a := fun a q1 q2 q3 q4 q5 q6 q7 => by
    unfold ru1
    rw [mu_row q7, mF6_r _ q6]
    unfold ru0
    rw [mu_row q5, mu_row q4, mu_row q2, mu_row q3, mu_row q1]
  have u2 : ru1 m tp 2 0 = 0 := by
    unfold ru1
    rw [mu_row (by decide), mF6_r _ (by decide)]
    unfold ru0
    rw [mu_row (by decide), mu_row (by decide), mu_at, if_pos ⟨rfl, rfl⟩]
  have u13 : ru1 m tp 13 0 = 0 := by
    unfold ru1
    rw [mu_row (by decide), mF6_r _ (by decide)]
    unfold ru0
    rw [mu_row (by decide), mu_at, if_pos ⟨rfl, rfl⟩]
  have u15 : ru1 m tp 15 0 = 0 := by
    unfold ru1
    rw [mu_row (by decide), mF6_r _ (by decide)]
    unfold ru0
    rw [mu_at, if_pos ⟨rfl, rfl⟩]
  have u7 : ∀ i, i < 6 → ru1 m tp 7 i = unR i := fun i hi => by
    unfold ru1
    rw [mu_row (by decide), mF6_at, if_pos ⟨rfl, hi⟩]
    unfold ru0
    rw [mu_row (by decide), mu_row (by decide), mu_row (by decide), mu_row (by decide), mu_row (by decide)]
    exact (hJ.1 i hi).1
  have b5 : ∀ i, i < 6 → cBeg c 5 0 i = -1 := fun i hi => by
    unfold cBeg
    rw [cu_rw (by decide), cu_rw (by decide), cu_rw (by decide), cu_rw (by decide), cBg_at, if_pos ⟨rfl, rfl, hi⟩]
  have b33 : cBeg c 3 0 3 = 1 := by
    unfold cBeg
    rw [cu_at, if_neg (by omega), cu_at, if_neg (by omega), cu_at, if_pos ⟨rfl, rfl, rfl⟩]
  have b35 : cBeg c 3 0 5 = 0 := by
    unfold cBeg
    rw [cu_at, if_neg (by omega), cu_at, if_pos ⟨rfl, rfl, rfl⟩]
  have b32 : cBeg c 3 0 2 = 0 := by
    unfold cBeg
    rw [cu_at, if_neg (by omega), cu_at, if_neg (by omega), cu_at, if_neg (by omega), cu_at, if_pos ⟨rfl, rfl, rfl⟩]
  obtain ⟨s1, s2⟩ := sim (T := m 1) (sz := tp) htp 141 0 0 none (cBeg c) (ru1 m tp) w (by omega) (by omega) (fun q => by
      rw [cAt_r (c := c) (cBeg_r (by decide) (by decide))]
      unfold cAt tA
      by_cases z : q < tp
      · rw [if_pos z, if_pos z]
        exact hE.2.1 q (by omega)
      · rw [if_neg z, if_neg z]) (u0 1 (by decide) (by decide) (by decide) (by decide) (by decide) (by decide) (by decide)) (fun i hi => by
      rw [u0 5 (by decide) (by decide) (by decide) (by decide) (by decide) (by decide) (by decide), u0 6 (by decide) (by decide) (by decide) (by decide) (by decide) (by decide) (by decide)]
      exact ⟨(hJ.1 i hi).2.1, (hJ.1 i hi).2.2.1⟩) (fun j hj => by
      rw [cBeg_r (by decide) (by decide), u0 3 (by decide) (by decide) (by decide) (by decide) (by decide) (by decide) (by decide)]
      exact ⟨hE.2.2.1 j hj, (hJ.1 j hj).2.2.2.1, (hJ.1 j hj).2.2.2.2⟩) b33 b35 u13 ⟨b32, 0, by decide, u15, fun i hi => Or.inl ⟨b5 i hi, by rw [u15]; exact bit_0 i hi, u7 i hi⟩⟩
  have hzr : zRead c tp = zE tp 0 none (cBeg c) := by
    unfold zRead zE zz
    rw [zRd_ge (q := 0) 121 (by have := stp_le tp; omega)]
  rw [← hzr] at s2
  refine ⟨142, s1, ?_, ?_⟩
  · exact s2.1
  · obtain ⟨-, f2, f3, f4, f5⟩ := s2
    have hsr : sRules m w tp 142 = rLp tp (141 + 1) (sGo (ru1 m tp) w tp 0).1 (sGo (ru1 m tp) w tp 0).2 (goTo (ru1 m tp) tp 0) 0 := rfl
    rw [← hsr] at f2 f3 f5
    have c1 : (zRead c tp).2.2 1 = c 1 := by rw [f4 1 (by decide) (by decide) (by decide), cBeg_r (by decide) (by decide)]
    have hz2 : (zRules c tp).2.2 = cu (zRead c tp).2.2 1 0 1 0 := by
      unfold zRules
      dsimp only
      rw [if_pos ⟨Int32.le_refl _, by rw [c1, hT]; exact nI_pos' (by omega)⟩]
    rw [hz2]
    generalize (zRules c tp).2.1 = op'
    generalize (sRules m w tp 142).2.2 = w'
    generalize (sRules m w tp 142).2.1 = M at *
    generalize (zRead c tp).2.2 = C at *
    have e : ∀ a, a ≠ 1 → a ≠ 3 → a ≠ 4 → a ≠ 5 → cu C 1 0 1 0 a = c a := fun a q1 q2 q3 q4 => by
      rw [cu_rw q1, f4 a q2 q3 q4, cBeg_r q2 q4]
    have v : ∀ a, a ≠ 0 → a ≠ 2 → a ≠ 8 → a ≠ 3 → a ≠ 7 → a ≠ 9 → a ≠ 10 → a ≠ 11 → a ≠ 12 → a ≠ 13 → a ≠ 14 → a ≠ 15 → M a = m a := fun a q1 q2 q3 q4 q5 q6 q7 q8 q9 q10 q11 q12 => by
      rw [f5 a ⟨q4, q5, q6, q7, q8, q9, q10, q11, q12⟩, u0 a q1 q2 q3 q10 q12 q5 q6]
    have v2 : M 2 0 = nI 0 := by
      rw [f5 2 ⟨by decide, by decide, by decide, by decide, by decide, by decide, by decide, by decide, by decide⟩, u2]
      rfl
    refine ⟨hn, rd, 0, ?_, ?_, ?_⟩
    · unfold mI
      rw [v2, v 30 (by decide) (by decide) (by decide) (by decide) (by decide) (by decide) (by decide) (by decide) (by decide) (by decide) (by decide) (by decide), v 31 (by decide) (by decide) (by decide) (by decide) (by decide) (by decide) (by decide) (by decide) (by decide) (by decide) (by decide) (by decide), v 32 (by decide) (by decide) (by decide) (by decide) (by decide) (by decide) (by decide) (by decide) (by decide) (by decide) (by decide) (by decide), v 33 (by decide) (by decide) (by decide) (by decide) (by decide) (by decide) (by decide) (by decide) (by decide) (by decide) (by decide) (by decide)]
      exact ⟨hI.1, hI.2.1, hI.2.2.1, hI.2.2.2.1, hI.2.2.2.2.1, hI.2.2.2.2.2.1, hI.2.2.2.2.2.2.1, hI.2.2.2.2.2.2.2.1, rfl, by decide⟩
    · unfold RelE
      rw [v2, v 1 (by decide) (by decide) (by decide) (by decide) (by decide) (by decide) (by decide) (by decide) (by decide) (by decide) (by decide) (by decide), v 17 (by decide) (by decide) (by decide) (by decide) (by decide) (by decide) (by decide) (by decide) (by decide) (by decide) (by decide) (by decide), v 18 (by decide) (by decide) (by decide) (by decide) (by decide) (by decide) (by decide) (by decide) (by decide) (by decide) (by decide) (by decide), v 19 (by decide) (by decide) (by decide) (by decide) (by decide) (by decide) (by decide) (by decide) (by decide) (by decide) (by decide) (by decide), v 20 (by decide) (by decide) (by decide) (by decide) (by decide) (by decide) (by decide) (by decide) (by decide) (by decide) (by decide) (by decide), v 21 (by decide) (by decide) (by decide) (by decide) (by decide) (by decide) (by decide) (by decide) (by decide) (by decide) (by decide) (by decide), v 22 (by decide) (by decide) (by decide) (by decide) (by decide) (by decide) (by decide) (by decide) (by decide) (by decide) (by decide) (by decide), v 23 (by decide) (by decide) (by decide) (by decide) (by decide) (by decide) (by decide) (by decide) (by decide) (by decide) (by decide) (by decide), v 24 (by decide) (by decide) (by decide) (by decide) (by decide) (by decide) (by decide) (by decide) (by decide) (by decide) (by decide) (by decide), v 25 (by decide) (by decide) (by decide) (by decide) (by decide) (by decide) (by decide) (by decide) (by decide) (by decide) (by decide) (by decide), v 26 (by decide) (by decide) (by decide) (by decide) (by decide) (by decide) (by decide) (by decide) (by decide) (by decide) (by decide) (by decide), v 27 (by decide) (by decide) (by decide) (by decide) (by decide) (by decide) (by decide) (by decide) (by decide) (by decide) (by decide) (by decide), v 28 (by decide) (by decide) (by decide) (by decide) (by decide) (by decide) (by decide) (by decide) (by decide) (by decide) (by decide) (by decide), v 29 (by decide) (by decide) (by decide) (by decide) (by decide) (by decide) (by decide) (by decide) (by decide) (by decide) (by decide) (by decide), v 33 (by decide) (by decide) (by decide) (by decide) (by decide) (by decide) (by decide) (by decide) (by decide) (by decide) (by decide) (by decide), v 34 (by decide) (by decide) (by decide) (by decide) (by decide) (by decide) (by decide) (by decide) (by decide) (by decide) (by decide) (by decide), e 0 (by decide) (by decide) (by decide) (by decide), e 2 (by decide) (by decide) (by decide) (by decide), e 13 (by decide) (by decide) (by decide) (by decide), e 14 (by decide) (by decide) (by decide) (by decide), e 15 (by decide) (by decide) (by decide) (by decide), e 16 (by decide) (by decide) (by decide) (by decide), e 17 (by decide) (by decide) (by decide) (by decide), e 18 (by decide) (by decide) (by decide) (by decide), e 19 (by decide) (by decide) (by decide) (by decide), e 20 (by decide) (by decide) (by decide) (by decide)]
      refine ⟨⟨by rw [cu_at, if_pos ⟨rfl, rfl, rfl⟩]; rfl, hE.1.2.1, hE.1.2.2.1, by rw [cu_rw (by decide)]; exact f2⟩, hE.2.1, fun j hj => ?_, hE.2.2.2⟩
      rw [cu_rw (by decide)]
      exact (f3 j hj).1
    · unfold RelI
      rw [v 4 (by decide) (by decide) (by decide) (by decide) (by decide) (by decide) (by decide) (by decide) (by decide) (by decide) (by decide) (by decide), v 5 (by decide) (by decide) (by decide) (by decide) (by decide) (by decide) (by decide) (by decide) (by decide) (by decide) (by decide) (by decide), v 6 (by decide) (by decide) (by decide) (by decide) (by decide) (by decide) (by decide) (by decide) (by decide) (by decide) (by decide) (by decide), v 17 (by decide) (by decide) (by decide) (by decide) (by decide) (by decide) (by decide) (by decide) (by decide) (by decide) (by decide) (by decide), v 18 (by decide) (by decide) (by decide) (by decide) (by decide) (by decide) (by decide) (by decide) (by decide) (by decide) (by decide) (by decide), v 19 (by decide) (by decide) (by decide) (by decide) (by decide) (by decide) (by decide) (by decide) (by decide) (by decide) (by decide) (by decide), v 21 (by decide) (by decide) (by decide) (by decide) (by decide) (by decide) (by decide) (by decide) (by decide) (by decide) (by decide) (by decide), v 22 (by decide) (by decide) (by decide) (by decide) (by decide) (by decide) (by decide) (by decide) (by decide) (by decide) (by decide) (by decide), v 25 (by decide) (by decide) (by decide) (by decide) (by decide) (by decide) (by decide) (by decide) (by decide) (by decide) (by decide) (by decide), v 26 (by decide) (by decide) (by decide) (by decide) (by decide) (by decide) (by decide) (by decide) (by decide) (by decide) (by decide) (by decide), v 27 (by decide) (by decide) (by decide) (by decide) (by decide) (by decide) (by decide) (by decide) (by decide) (by decide) (by decide) (by decide), v 28 (by decide) (by decide) (by decide) (by decide) (by decide) (by decide) (by decide) (by decide) (by decide) (by decide) (by decide) (by decide), v 29 (by decide) (by decide) (by decide) (by decide) (by decide) (by decide) (by decide) (by decide) (by decide) (by decide) (by decide) (by decide)]
      refine ⟨fun j hj => ⟨(hJ.1 j hj).1, (hJ.1 j hj).2.1, (hJ.1 j hj).2.2.1, (f3 j hj).2.1, (f3 j hj).2.2⟩, hJ.2⟩
theorem Rel_ok : LwOk Rel := ⟨fun n op c m w h => R_st h, fun n op c m w v h => R_thr h, fun n op c m w tp x1 x2 x3 x4 x5 h hT htp => R_feed h hT htp, fun n op c m w x h => R_fin h, fun n op c m w tp h hT htp => R_rules h hT htp, fun n op c m w h => R_fault h, fun n op c m w k h => R_rule h, fun n op c m w rd x y h h9 hrd => R_work h h9 hrd, fun n op c m w x h => R_person h, fun n op c m w x h => R_fund h, fun n op c m w b f x h => R_give h, fun n op c m w b x y h => R_bid h, fun n op c m w rd h h9 hrd => R_close h h9 hrd, fun n op c m w x y h => R_about h, fun n op c m w x r h => R_price h, fun n op c m w x y h => R_purse h, fun n op c m w b x r h => R_holds h, fun n op c m w b x h => R_asks h, fun n op c m w p x r k h => R_owned h, fun n op c m w x h => R_count h⟩
end RULES

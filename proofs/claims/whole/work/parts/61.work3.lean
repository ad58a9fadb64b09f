section ER3
variable {n : Nat → Nat} {c c' : Nat → Nat → Nat → Int32} {m m' : Nat → Nat → Int32} {rd k x : Nat}
theorem i_ss (v w : Int32) : v - (v - w) = w := by
  have h := Int32.sub_add_cancel v w
  calc v - (v - w) = (v - w + w) - (v - w) := by rw [h]
    _ = (w + (v - w)) - (v - w) := by rw [Int32.add_comm]
    _ = w := Int32.add_sub_cancel _ _
theorem cKeep_at (c : Nat → Nat → Nat → Int32) (x r a i j : Nat) : cKeep c x r a i j = if a = 16 ∧ i = x ∧ j = r then c 13 x 3 else if a = 14 ∧ i = x ∧ j < 28 then 0 else if a = 17 ∧ i = x ∧ r * 28 ≤ j ∧ j < r * 28 + 28 then c 15 x (j - r * 28) else c a i j := by
  unfold cKeep
  rw [cu_at, cKp_at c x r 28 (Nat.le_refl _) 13 x 3, if_neg (c := 13 = 14 ∧ x = x ∧ 3 < 28) (by omega), if_neg (c := 13 = 17 ∧ x = x ∧ r * 28 ≤ 3 ∧ 3 < r * 28 + 28) (by omega), cKp_at c x r 28 (Nat.le_refl _)]
theorem CRel.keep (h : CRel n c m x) (r : Nat) : CRel n (cKeep c x r) m (x + 1) := by
  obtain ⟨hv, hwk, ha, hh, hpe, hfu, hbd, hia, hih, hip⟩ := h
  have cr : ∀ a, a ≠ 14 → a ≠ 16 → a ≠ 17 → cKeep c x r a = c a := fun a h1 h2 h3 => by
    funext i j
    rw [cKeep_at, if_neg (fun q => h2 q.1), if_neg (fun q => h1 q.1), if_neg (fun q => h3 q.1)]
  unfold CRel
  rw [cr 4 (by decide) (by decide) (by decide), cr 13 (by decide) (by decide) (by decide), cr 15 (by decide) (by decide) (by decide), cr 18 (by decide) (by decide) (by decide), cr 19 (by decide) (by decide) (by decide)]
  refine ⟨hv, hwk, fun y h1 h2 b hb => ?_, hh, hpe, hfu, hbd, fun b hb y h1 h2 => hia b hb y (by omega) h2, hih, hip⟩
  rw [cKeep_at, if_neg (by omega), if_neg (by omega), if_neg (by omega)]
  exact ha y (by omega) h2 b hb
/-- the end of the ROUND for the WORK x, on both sides -/
theorem st_er (hn : nOK n) (h : CRel n c m x) (hx : x < n 0) (hrd : rd < 49) (h33 : m 33 0 = nI rd) (hls : rd = 0 → m 18 x = m 17 x) : ∃ R1 R2 o1 o2 o3 o4 G, (0 < m 18 x → okSW m x (n 1) R1 R2) ∧ okER n c x rd o1 o2 o3 o4 ∧ CRel n (zER n c x rd o1 o2 o3 o4) (if 0 < m 18 x then (sSW m x (n 1) R1 R2).2 else m) (x + 1) ∧ FrC c (zER1 n c x rd o1 o2 o3 o4) x ∧ FrM m (if 0 < m 18 x then (sSW m x (n 1) R1 R2).2 else m) x ∧ vER n c x rd o1 o2 o3 o4 = nI G ∧ (0 < m 18 x → (sSW m x (n 1) R1 R2).1 = nI G) ∧ (¬ 0 < m 18 x → G = 0) ∧ CRel n (zER1 n c x rd o1 o2 o3 o4) (if 0 < m 18 x then (sSW m x (n 1) R1 R2).2 else m) x := by
  obtain ⟨⟨hv, hr⟩, hwk, ha, hh, hpe, hfu, hbd, hia, hih, hip⟩ := id h
  have cL : c 13 x 2 = m 18 x := (hwk x hx).2.2.1
  have k13 : ∀ c2 : Nat → Nat → Nat → Int32, cKeep c2 x (rd + 1) 13 x 2 = c2 13 x 2 := fun c2 => by
    rw [cKeep_at, if_neg (by omega), if_neg (by omega), if_neg (by omega)]
  by_cases hpos : 0 < m 18 x
  · have hnle : ¬ c 13 x 2 ≤ 0 := by rw [cL]; exact i_nle.mpr hpos
    by_cases h0 : rd = 0
    · subst h0
      have e0 : nI 0 = 0 := rfl
      have m0 : m 33 0 = 0 := h33
      obtain ⟨R1, o1, o2, G1, a1, a2, a3, a4, a5, a6, a7⟩ := st_wk hn h hx (hls rfl)
      obtain ⟨R2, o3, o4, G2, b1, b2, b3, b4, b5, b6, b7⟩ := st_all hn a3 hx
      have hz1 : zER1 n c x 0 o1 o2 o3 o4 = zSA n (zSW n c x o1 o2) x o3 o4 := by
        unfold zER1
        rw [if_neg hnle, if_pos e0]
      have hsw : sSW m x (n 1) R1 R2 = (nI G1 + nI G2, if sWk m x (n 1) R1 18 x = 0 then sWk m x (n 1) R1 else sAllP (sWk m x (n 1) R1) x R2) := by
        unfold sSW
        rw [if_pos m0, b7, a7]
      have hR : CRel n (zER1 n c x 0 o1 o2 o3 o4) (if 0 < m 18 x then (sSW m x (n 1) R1 R2).2 else m) x := by
        rw [if_pos hpos, hsw, hz1]
        exact b3
      have hF := a4.trans b4
      refine ⟨R1, R2, o1, o2, o3, o4, G1 + G2, fun _ => ⟨fun _ => ⟨a1, b1⟩, fun q => absurd m0 q⟩, fun _ => ⟨fun _ => a2, ?_⟩, hR.keep (0 + 1), ?_, ?_, ?_, fun _ => ?_, fun q => absurd hpos q, hR⟩
      · rw [if_pos e0]
        exact b2
      · rw [hz1]
        exact hF
      · rw [if_pos hpos, hsw]
        exact a5.trans b5
      · unfold vER zER
        rw [k13, hz1, b6, a6, Int32.sub_sub, i_ss, nI_add]
      · rw [hsw]
        exact nI_add G1 G2
    · have e0 : ¬ nI rd = 0 := fun q => h0 ((nI_eq (a := rd) (b := 0) (by omega) (by omega)).mp q)
      have m0 : ¬ m 33 0 = 0 := by rw [h33]; exact e0
      obtain ⟨R2, o3, o4, G2, b1, b2, b3, b4, b5, b6, b7⟩ := st_all hn h hx
      have hz1 : zER1 n c x rd 0 0 o3 o4 = zSA n c x o3 o4 := by
        unfold zER1
        rw [if_neg hnle, if_neg e0]
      have hsw : sSW m x (n 1) 0 R2 = (0 + nI G2, if m 18 x = 0 then m else sAllP m x R2) := by
        unfold sSW
        rw [if_neg m0, b7]
      have hR : CRel n (zER1 n c x rd 0 0 o3 o4) (if 0 < m 18 x then (sSW m x (n 1) 0 R2).2 else m) x := by
        rw [if_pos hpos, hsw, hz1]
        exact b3
      refine ⟨0, R2, 0, 0, o3, o4, G2, fun _ => ⟨fun q => absurd q m0, fun _ => b1⟩, fun _ => ⟨fun q => absurd q e0, ?_⟩, hR.keep (rd + 1), ?_, ?_, ?_, fun _ => ?_, fun q => absurd hpos q, hR⟩
      · rw [if_neg e0]
        exact b2
      · rw [hz1]
        exact b4
      · rw [if_pos hpos, hsw]
        exact b5
      · unfold vER zER
        rw [k13, hz1, b6, i_ss]
      · rw [hsw]
        exact Int32.zero_add _
  · have hle : c 13 x 2 ≤ 0 := by rw [cL]; exact i_nlt.mp hpos
    have hz1 : zER1 n c x rd 0 0 0 0 = c := by
      unfold zER1
      rw [if_pos hle]
    have hR : CRel n (zER1 n c x rd 0 0 0 0) (if 0 < m 18 x then (sSW m x (n 1) 0 0).2 else m) x := by
      rw [if_neg hpos, hz1]
      exact h
    refine ⟨0, 0, 0, 0, 0, 0, 0, fun q => absurd q hpos, fun q => absurd hle q, hR.keep (rd + 1), ?_, ?_, ?_, fun q => absurd q hpos, fun _ => rfl, hR⟩
    · rw [hz1]
      exact FrC.scratch (fun a _ _ _ => rfl)
    · rw [if_neg hpos]
      exact FrM.scratch (fun a _ _ => rfl)
    · unfold vER zER
      rw [k13, hz1]
      exact Int32.sub_self _
end ER3

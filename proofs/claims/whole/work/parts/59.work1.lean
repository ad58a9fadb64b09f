/-! the end of a ROUND for one WORK -/
section ER
variable {n : Nat → Nat} {c c' : Nat → Nat → Nat → Int32} {m m' : Nat → Nat → Int32} {rd k x : Nat}
theorem nI_ofT {v : Int32} (h : 0 ≤ v.toInt) : v = nI v.toInt.toNat := by
  apply T_ext
  have := T_b v
  rw [nI_toInt (by omega)]
  omega
theorem CRel.scratch (h : CRel n c m k) (hc : ∀ a, a ≠ 10 → a ≠ 11 → a ≠ 12 → c' a = c a) (hm : ∀ a, a ≠ 35 → a ≠ 36 → m' a = m a) : CRel n c' m' k := by
  unfold CRel
  rw [hc 4 (by decide) (by decide) (by decide), hc 13 (by decide) (by decide) (by decide), hc 14 (by decide) (by decide) (by decide), hc 15 (by decide) (by decide) (by decide), hc 18 (by decide) (by decide) (by decide), hc 19 (by decide) (by decide) (by decide)]
  rw [hm 3 (by decide) (by decide), hm 4 (by decide) (by decide), hm 5 (by decide) (by decide), hm 6 (by decide) (by decide), hm 17 (by decide) (by decide), hm 18 (by decide) (by decide), hm 19 (by decide) (by decide), hm 21 (by decide) (by decide), hm 22 (by decide) (by decide), hm 23 (by decide) (by decide), hm 24 (by decide) (by decide), hm 25 (by decide) (by decide), hm 27 (by decide) (by decide), hm 28 (by decide) (by decide)]
  exact h
theorem FrC.scratch (hc : ∀ a, a ≠ 10 → a ≠ 11 → a ≠ 12 → c' a = c a) : FrC c c' x :=
  ⟨fun a ha => hc a (by omega) (by omega) (by omega), fun y _ => by rw [hc 14 (by decide) (by decide) (by decide)]⟩
theorem FrM.scratch (hm : ∀ a, a ≠ 35 → a ≠ 36 → m' a = m a) : FrM m m' x :=
  ⟨fun a _ _ _ _ _ h6 h7 => hm a h6 h7, fun y _ => ⟨by rw [hm 18 (by decide) (by decide)], by rw [hm 19 (by decide) (by decide)]⟩, fun y _ _ b _ => by rw [hm 28 (by decide) (by decide)]⟩
theorem add100 (v : Int32) : v + 100 - 1 = v + 99 := by
  rw [Int32.sub_eq_add_neg, Int32.add_assoc]
  rfl
/-- the workers' sale -/
theorem st_wk (hn : nOK n) (h : CRel n c m x) (hx : x < n 0) (hls : m 18 x = m 17 x) : ∃ R1 o1 o2 G, okPart (mWk m x (n 1) 28) (rsvW m x (n 1)) R1 ∧ okCut (cWW n c x 28) (zRsM n c x) o1 o2 ∧ CRel n (zSW n c x o1 o2) (sWk m x (n 1) R1) x ∧ FrC c (zSW n c x o1 o2) x ∧ FrM m (sWk m x (n 1) R1) x ∧ zSW n c x o1 o2 13 x 2 = c 13 x 2 - nI G ∧ vWk m x (n 1) R1 = nI G := by
  have hn0 := hn.1
  obtain ⟨⟨hv, hr⟩, hwk, ha, hh, hpe, hfu, hbd, hia, hih, hip⟩ := id h
  have hA := fun b hb => hia b hb x (Nat.le_refl _) (by omega)
  have hb0 := hbd x hx
  have r0 := hr 0 (by decide)
  have r1 := hr 1 (by decide)
  have l0 : loR 0 = 0 := rfl
  have h0 : hiR 0 = 50 := rfl
  have l1 : loR 1 = 1 := rfl
  have h1 : hiR 1 = 100 := rfl
  rw [l0, h0, T_le, T_le] at r0
  rw [l1, h1, T_le, T_le] at r1
  have t0 : (0 : Int32).toInt = 0 := rfl
  have t1 : (1 : Int32).toInt = 1 := rfl
  have t50 : (50 : Int32).toInt = 50 := rfl
  have t100 : (100 : Int32).toInt = 100 := rfl
  have eS := nI_ofT (v := m 17 x) (by omega)
  have eR := nI_ofT (v := m 3 0) (by omega)
  have eP := nI_ofT (v := m 19 x) (by omega)
  have eH := nI_ofT (v := m 3 1) (by omega)
  generalize hSH : (m 17 x).toInt.toNat = SH at eS
  generalize hR0 : (m 3 0).toInt.toNat = R0 at eR
  generalize hPP : (m 19 x).toInt.toNat = PP at eP
  generalize hHH : (m 3 1).toInt.toNat = HH at eH
  have hmul : SH * R0 ≤ 1000 * 50 := Nat.mul_le_mul (by omega) (by omega)
  have hmul2 : PP * HH ≤ 9999 * 100 := Nat.mul_le_mul (by omega) (by omega)
  have mr : ∀ a, a ≠ 35 → mWk m x (n 1) 28 a = m a := fun a h => by
    funext b
    rw [mWk_at, if_neg (fun q => h q.1)]
  have crw : ∀ a, a ≠ 10 → cWW n c x 28 a = c a := fun a h => by
    funext i j
    rw [cWW_at, if_neg (fun q => h q.1)]
  have e100 : (100 : Int32) = nI 100 := rfl
  have hN : SH * R0 / 100 ≤ SH := by
    refine Nat.div_le_of_le_mul ?_
    rw [Nat.mul_comm 100 SH]
    exact Nat.mul_le_mul_left _ (by omega)
  have hrm : rsvW m x (n 1) = nI (SH * R0 / 100) := by
    unfold rsvW
    rw [mr 17 (by decide), mr 3 (by decide), eS, eR, nI_mul, e100, nI_div (by omega) (by decide)]
  have hrc0 : zRsv n c x = nI (SH * R0 / 100) := by
    unfold zRsv
    rw [crw 13 (by decide), crw 4 (by decide), (hwk x hx).1, hv 0 (by decide), eS, eR, nI_mul, e100, nI_div (by omega) (by decide)]
  have hrc : zRsM n c x = nI (SH * R0 / 100) := by
    unfold zRsM
    rw [hrc0, crw 13 (by decide), (hwk x hx).2.2.1, hls, eS, if_neg (fun q => by have := (nI_ltI (by omega) (by omega)).mp q; omega)]
  have hWm : ∀ b, b < 28 → mWk m x (n 1) 28 35 b = nI (if b < n 1 ∧ m 23 b = nI x then (m 27 (10 * b + x)).toInt.toNat else 0) := fun b hb => by
    rw [mWk_at, if_pos ⟨rfl, hb⟩]
    by_cases q : b < n 1 ∧ m 23 b = nI x
    · rw [if_pos q, if_pos q]
      exact nI_ofT (hA b hb).1
    · rw [if_neg q, if_neg q]
      rfl
  have hWc : ∀ b, b < 28 → cWW n c x 28 10 0 b = nI (if b < n 1 ∧ m 23 b = nI x then (m 27 (10 * b + x)).toInt.toNat else 0) := fun b hb => by
    have e1 : cWW n c x 28 10 0 b = (if b < n 1 ∧ c 18 b 1 = nI x then c 14 x b else 0) := by rw [cWW_at, if_pos ⟨rfl, rfl, hb⟩]
    have e2 : mWk m x (n 1) 28 35 b = (if b < n 1 ∧ m 23 b = nI x then m 27 (10 * b + x) else 0) := by rw [mWk_at, if_pos ⟨rfl, hb⟩]
    rw [← hWm b hb, e1, e2]
    by_cases q : b < n 1
    · rw [(hpe b q).2, ha x (Nat.le_refl _) hx b hb]
    · rw [if_neg (fun z => q z.1), if_neg (fun z => q z.1)]
  have hWb : ∀ b, b < 28 → (if b < n 1 ∧ m 23 b = nI x then (m 27 (10 * b + x)).toInt.toNat else 0) ≤ 1000 := fun b hb => by
    have := hA b hb
    split <;> omega
  obtain ⟨R1, o1, o2, g, k1, k2, k3, k4⟩ := cut_eq (m := mWk m x (n 1) 28) (c := cWW n c x 28) hWb (N := SH * R0 / 100) (by omega) rfl hWm hWc
  rw [← hrm] at k1
  rw [← hrc] at k2
  have pr : ∀ a, a ≠ 35 → a ≠ 36 → partW m x (n 1) R1 a = m a := fun a h1 h2 => by
    unfold partW
    rw [sPart_row h2, mr a h1]
  have zr : ∀ a, a ≠ 10 → a ≠ 11 → a ≠ 12 → zWc n c x o1 o2 a = c a := fun a h1 h2 h3 => by
    unfold zWc
    rw [zCut_row h2 h3, crw a h1]
  have hcr : CRel n (zWc n c x o1 o2) (partW m x (n 1) R1) x := h.scratch zr pr
  have hprm : prcW m x (n 1) R1 = nI ((PP * HH + 99) / 100) := by
    unfold prcW
    rw [pr 19 (by decide) (by decide), pr 3 (by decide) (by decide), eP, eH, nI_mul, show (99 : Int32) = nI 99 from rfl, nI_add, e100, nI_div (by omega) (by decide)]
  have hprc : zWp n c x o1 o2 = nI ((PP * HH + 99) / 100) := by
    unfold zWp dvU
    rw [if_neg (by decide), zr 13 (by decide) (by decide) (by decide), zr 4 (by decide) (by decide) (by decide), (hwk x hx).2.2.2, hv 1 (by decide), add100, eP, eH, nI_mul, show (99 : Int32) = nI 99 from rfl, nI_add, e100, nI_div (by omega) (by decide)]
  have tp : (nI ((PP * HH + 99) / 100)).toInt = ((PP * HH + 99) / 100 : Nat) := nI_toInt (by omega)
  have hsN : sumN g 28 ≤ SH * R0 / 100 := by rw [k4]; exact Nat.min_le_right _ _
  obtain ⟨s1, s2, s3, s4, s5, -, -⟩ := sale (g := g) (p := nI ((PP * HH + 99) / 100)) hn hcr hx (by omega) (by omega) (fun b hb => by unfold partW; rw [hrm]; exact (k3 b hb).1) (fun b hb => by unfold zWc; rw [hrc]; exact (k3 b hb).2.1) (fun b hb => by
    rw [pr 27 (by decide) (by decide)]
    have a1 := (k3 b hb).2.2
    have a2 := hA b hb
    split at a1 <;> omega) (by rw [pr 18 (by decide) (by decide), hls]; omega)
  refine ⟨R1, o1, o2, sumN g 28, k1, k2, ?_, ?_, ?_, ?_, ?_⟩
  · unfold zSW sWk
    rw [hprm, hprc]
    exact s1
  · unfold zSW
    rw [hprc]
    exact (FrC.scratch zr).trans s2
  · unfold sWk
    rw [hprm]
    exact (FrM.scratch pr).trans s3
  · unfold zSW
    rw [hprc, s4, zr 13 (by decide) (by decide) (by decide)]
  · unfold vWk
    rw [hprm]
    exact s5
theorem cu_id (c : Nat → Nat → Nat → Int32) (a i j : Nat) : cu c a i j (c a i j) = c := by
  funext a' i' j'
  rw [cu_at]
  split <;> rename_i h
  · rw [h.1, h.2.1, h.2.2]
  · rfl
theorem cHO_zero {p : Int32} (h : ∀ b, b < 28 → c 11 0 b = 0) : ∀ k, k ≤ 28 → cHO n c x p k = c
  | 0, _ => rfl
  | k + 1, hk => by
    rw [cHO, cHO_zero h k (by omega)]
    split
    · unfold cHs cPay
      rw [h k (by omega), Int32.zero_mul, Int32.sub_zero, Int32.sub_zero, Int32.sub_zero, Int32.add_zero]
      have e : (if k < 24 then cu c 18 k 0 (cPts c k) else cu c 19 (k - 24) 0 (cPts c k)) = c := by
        unfold cPts
        split
        · exact cu_id c 18 k 0
        · exact cu_id c 19 (k - 24) 0
      rw [e, cu_id c 15 x k, cu_id c 14 x k, cu_id c 13 x 2]
    · rfl
theorem fin_b {n3 r5 : Int32} (h5 : 1 ≤ r5.toInt) : 1 ≤ (if (if r5 ≤ n3 then n3 else r5) ≤ 9999 then (if r5 ≤ n3 then n3 else r5) else 9999).toInt ∧ (if (if r5 ≤ n3 then n3 else r5) ≤ 9999 then (if r5 ≤ n3 then n3 else r5) else 9999).toInt ≤ 9999 := by
  have h4 : 1 ≤ (if r5 ≤ n3 then n3 else r5).toInt := by
    split <;> rename_i q
    · rw [T_le] at q
      omega
    · exact h5
  generalize (if r5 ≤ n3 then n3 else r5) = n4 at h4 ⊢
  have t9 : (9999 : Int32).toInt = 9999 := rfl
  split <;> rename_i q
  · rw [T_le] at q
    omega
  · omega
theorem price_eq {p al had : Int32} (hc3 : c 4 0 3 = m 3 3) (hc4 : c 4 0 4 = m 3 4) (hc5 : c 4 0 5 = m 3 5) (hh : ¬ had ≤ 0) (h5 : 1 ≤ (m 3 5).toInt) : zMv c p al had = nxtP p al had (m 3 3) (m 3 4) (m 3 5) ∧ 1 ≤ (nxtP p al had (m 3 3) (m 3 4) (m 3 5)).toInt ∧ (nxtP p al had (m 3 3) (m 3 4) (m 3 5)).toInt ≤ 9999 := by
  have e1 : dvU (p * al) had = (p * al + had - 1) / had := by unfold dvU; rw [if_neg hh]
  have e2 : dvU (p * m 3 4) 100 = (p * m 3 4 + 99) / 100 := by unfold dvU; rw [if_neg (by decide), add100]
  have mx : ∀ a b : Int32, (if a < b then b else a) = (if b ≤ a then a else b) := fun a b => by
    by_cases q : a < b
    · rw [if_pos q, if_neg (fun z => i_nlt.mpr z q)]
    · rw [if_neg q, if_pos (i_nlt.mp q)]
  have mn : ∀ a b : Int32, (if b < a then b else a) = (if a ≤ b then a else b) := fun a b => by
    by_cases q : b < a
    · rw [if_pos q, if_neg (fun z => i_nlt.mpr z q)]
    · rw [if_neg q, if_pos (i_nlt.mp q)]
  refine ⟨?_, ?_⟩
  · unfold zMv nxtP
    rw [hc3, hc4, hc5, e1, e2]
    simp only [mx, mn]
  · unfold nxtP
    dsimp only
    exact fin_b h5
/-- a new PRICE -/
theorem CRel.price (h : CRel n c m k) {v : Int32} (h1 : 1 ≤ v.toInt) (h2 : v.toInt ≤ 9999) : CRel n (cu c 13 x 3 v) (mu m 19 x v) k := by
  obtain ⟨hv, hwk, ha, hh, hpe, hfu, hbd, hia, hih, hip⟩ := h
  unfold CRel
  rw [cu_rw (show 4 ≠ 13 by decide), cu_rw (show 14 ≠ 13 by decide), cu_rw (show 15 ≠ 13 by decide), cu_rw (show 18 ≠ 13 by decide), cu_rw (show 19 ≠ 13 by decide)]
  rw [mu_row (show 3 ≠ 19 by decide), mu_row (show 4 ≠ 19 by decide), mu_row (show 5 ≠ 19 by decide), mu_row (show 6 ≠ 19 by decide), mu_row (show 17 ≠ 19 by decide), mu_row (show 18 ≠ 19 by decide), mu_row (show 21 ≠ 19 by decide), mu_row (show 22 ≠ 19 by decide), mu_row (show 23 ≠ 19 by decide), mu_row (show 24 ≠ 19 by decide), mu_row (show 25 ≠ 19 by decide), mu_row (show 27 ≠ 19 by decide), mu_row (show 28 ≠ 19 by decide)]
  refine ⟨hv, fun y hy => ?_, ha, hh, hpe, hfu, fun y hy => ?_, hia, hih, hip⟩
  · rw [cu_at, cu_at, cu_at, cu_at, mu_at, if_neg (by omega), if_neg (by omega), if_neg (by omega)]
    have q := hwk y hy
    by_cases e : y = x
    · rw [if_pos ⟨rfl, e, rfl⟩, if_pos ⟨rfl, e⟩]
      exact ⟨q.1, q.2.1, q.2.2.1, rfl⟩
    · rw [if_neg (fun z => e z.2.1), if_neg (fun z => e z.2)]
      exact q
  · rw [mu_at]
    have q := hbd y hy
    by_cases e : y = x
    · rw [if_pos ⟨rfl, e⟩]
      exact ⟨q.1, q.2.1, q.2.2.1, h1, h2⟩
    · rw [if_neg (fun z => e z.2)]
      exact q
end ER

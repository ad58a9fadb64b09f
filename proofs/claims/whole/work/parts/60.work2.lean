section ER2
variable {n : Nat → Nat} {c c' : Nat → Nat → Nat → Int32} {m m' : Nat → Nat → Int32} {rd k x : Nat}
theorem sumN_z {g : Nat → Nat} : ∀ {k : Nat}, sumN g k = 0 → ∀ b, b < k → g b = 0
  | k + 1, h, b, hb => by
    rw [sumN] at h
    by_cases e : b = k
    · rw [e]; omega
    · exact sumN_z (k := k) (by omega) b (by omega)
/-- the sale to all, and the PRICE that comes -/
theorem st_all (hn : nOK n) (h : CRel n c m x) (hx : x < n 0) : ∃ R2 o3 o4 G, (¬ m 18 x = 0 → okPart (mWl m x 28) (m 18 x) R2) ∧ okCut (zA1 c x) (zTo c x) o3 o4 ∧ CRel n (zSA n c x o3 o4) (if m 18 x = 0 then m else sAllP m x R2) x ∧ FrC c (zSA n c x o3 o4) x ∧ FrM m (if m 18 x = 0 then m else sAllP m x R2) x ∧ zSA n c x o3 o4 13 x 2 = c 13 x 2 - nI G ∧ ∀ nP R1 s0, sSW1 m x nP R1 R2 s0 = (s0 + nI G, if m 18 x = 0 then m else sAllP m x R2) := by
  have hn0 := hn.1
  obtain ⟨⟨hv, hr⟩, hwk, ha, hh, hpe, hfu, hbd, hia, hih, hip⟩ := id h
  have hA := fun b hb => hia b hb x (Nat.le_refl _) (by omega)
  have hb0 := hbd x hx
  have hL1000 : (m 18 x).toInt ≤ 1000 := by
    have h1 := hih.2 x hx
    have h2 := sumZ_nn (f := fun b => (m 28 (10 * b + x)).toInt) (k := 28) (fun i hi => (hih.1 i hi x (by omega)).1)
    omega
  have r2 := hr 2 (by decide)
  have l2 : loR 2 = 0 := rfl
  have h2 : hiR 2 = 300 := rfl
  rw [l2, h2, T_le, T_le] at r2
  have t0 : (0 : Int32).toInt = 0 := rfl
  have t300 : (300 : Int32).toInt = 300 := rfl
  have r5 := hr 5 (by decide)
  have l5 : loR 5 = 1 := rfl
  rw [l5, T_le] at r5
  have t1 : (1 : Int32).toInt = 1 := rfl
  have eL := nI_ofT (v := m 18 x) (by omega)
  have eQ := nI_ofT (v := m 3 2) (by omega)
  generalize hLf : (m 18 x).toInt.toNat = Lf at eL
  generalize hQ : (m 3 2).toInt.toNat = Q at eQ
  have cL : c 13 x 2 = m 18 x := (hwk x hx).2.2.1
  have cP : c 13 x 3 = m 19 x := (hwk x hx).2.2.2
  have mr : ∀ a, a ≠ 35 → mWl m x 28 a = m a := fun a h => by
    funext b
    rw [mWl_at, if_neg (fun q => h q.1)]
  have crw : ∀ a, a ≠ 10 → zA1 c x a = c a := fun a h => by
    funext i j
    rw [zA1_at, if_neg (fun q => h q.1)]
  have hWm : ∀ b, b < 28 → mWl m x 28 35 b = nI ((m 27 (10 * b + x)).toInt.toNat) := fun b hb => by
    rw [mWl_at, if_pos ⟨rfl, hb⟩]
    exact nI_ofT (hA b hb).1
  have hWc : ∀ b, b < 28 → zA1 c x 10 0 b = nI ((m 27 (10 * b + x)).toInt.toNat) := fun b hb => by
    rw [zA1_at, if_pos ⟨rfl, rfl, hb⟩, ha x (Nat.le_refl _) hx b hb]
    exact nI_ofT (hA b hb).1
  have hWb : ∀ b, b < 28 → (m 27 (10 * b + x)).toInt.toNat ≤ 1000 := fun b hb => by
    have := hA b hb
    omega
  have hS2 : sumN (fun b => (m 27 (10 * b + x)).toInt.toNat) 28 ≤ 28 * 1000 := sumN_bd hWb
  have hall : allA m x = nI (sumN (fun b => (m 27 (10 * b + x)).toInt.toNat) 28) := mSumW_nI hWm
  have hask : zAsk c x = nI (sumN (fun b => (m 27 (10 * b + x)).toInt.toNat) 28) := sumA_nI (fun b hb => by
    rw [ha x (Nat.le_refl _) hx b hb]
    exact nI_ofT (hA b hb).1)
  obtain ⟨Rz, z3, z4, gz, kz1, kz2, kz3, kz4⟩ := cut_eq (m := mWl m x 28) (c := zA1 c x) hWb (N := 0) (x := nI 0) (by omega) rfl hWm hWc
  have gz0 : ∀ b, b < 28 → gz b = 0 := sumN_z (by rw [kz4]; exact Nat.min_zero _)
  have zr : ∀ (y : Int32) (o1 o2 a : Nat), a ≠ 10 → a ≠ 11 → a ≠ 12 → zCut (zA1 c x) y o1 o2 a = c a := fun y o1 o2 a h1 h2 h3 => by
    rw [zCut_row h2 h3, crw a h1]
  by_cases hL0 : m 18 x = 0
  · have hto : zTo c x = nI 0 := by
      unfold zTo
      split
      · rfl
      · rw [cL, hL0]; rfl
    have hzA2 : zA3 n c x z3 z4 = zCut (zA1 c x) (nI 0) z3 z4 := by
      unfold zA3 zA2
      rw [hto]
      refine cHO_zero (fun b hb => ?_) 28 (Nat.le_refl _)
      rw [(kz3 b hb).2.1, gz0 b hb]
      rfl
    have hzSA : zSA n c x z3 z4 = zCut (zA1 c x) (nI 0) z3 z4 := by
      unfold zSA
      rw [if_pos (by rw [cL, hL0]; decide), hzA2]
    refine ⟨0, z3, z4, 0, fun q => absurd hL0 q, ?_, ?_, ?_, ?_, ?_, fun nP R1 s0 => ?_⟩
    · rw [hto]; exact kz2
    · rw [hzSA, if_pos hL0]
      exact h.scratch (zr (nI 0) z3 z4) (fun a _ _ => rfl)
    · rw [hzSA]
      exact FrC.scratch (zr (nI 0) z3 z4)
    · rw [if_pos hL0]
      exact FrM.scratch (fun a _ _ => rfl)
    · rw [hzSA, zr (nI 0) z3 z4 13 (by decide) (by decide) (by decide)]
      exact (Int32.sub_zero _).symm
    · unfold sSW1
      rw [if_pos hL0, if_pos hL0]
      exact Prod.ext (Int32.add_zero _).symm rfl
  · have hLpos : 1 ≤ Lf := by
      rcases Nat.eq_zero_or_pos Lf with q | q
      · exact absurd (by rw [eL, q]; rfl) hL0
      · exact q
    have hLle : Lf ≤ 1000 := by omega
    have hnle : ¬ c 13 x 2 ≤ 0 := by
      rw [cL, eL, T_le, nI_toInt (by omega)]
      omega
    obtain ⟨R2, o1, o2, g, k1, k2, k3, k4⟩ := cut_eq (m := mWl m x 28) (c := zA1 c x) hWb (N := Lf) (x := m 18 x) hLle eL hWm hWc
    have pr : ∀ a, a ≠ 35 → a ≠ 36 → partA m x R2 a = m a := fun a h1 h2 => by
      unfold partA
      rw [sPart_row h2, mr a h1]
    have e100 : (100 : Int32) = nI 100 := rfl
    have hmq : Lf * Q ≤ 1000 * 300 := Nat.mul_le_mul hLle (by omega)
    have hE : m 18 x * m 3 2 / 100 = nI (Lf * Q / 100) := by
      rw [eL, eQ, nI_mul, e100, nI_div (by omega) (by decide)]
    have hgoes : goesA m x R2 ↔ ¬ zMuch c x := by
      unfold goesA zMuch
      rw [pr 3 (by decide) (by decide), crw 4 (by decide), hv 2 (by decide), hall, hask, cL, hE, eL]
      have tE : (nI (Lf * Q / 100)).toInt = ((Lf * Q / 100 : Nat) : Int) := nI_toInt (by omega)
      have tS : (nI (sumN (fun b => (m 27 (10 * b + x)).toInt.toNat) 28)).toInt = ((sumN (fun b => (m 27 (10 * b + x)).toInt.toNat) 28 : Nat) : Int) := nI_toInt (by omega)
      have tL : (nI Lf).toInt = (Lf : Int) := nI_toInt (by omega)
      have tD := T_sub (x := nI (sumN (fun b => (m 27 (10 * b + x)).toInt.toNat) 28)) (y := nI Lf) (by omega) (by omega)
      rw [T_le, T_le, T_lt, tD, tS, tL, tE]
      omega
    -- the new price
    have hpr : ∀ (c2 : Nat → Nat → Nat → Int32) (m2 : Nat → Nat → Int32), c2 4 = c 4 → m2 3 = m 3 → c2 13 x 3 = m 19 x → m2 19 x = m 19 x → CRel n c2 m2 x → CRel n (cu c2 13 x 3 (zMv c2 (c2 13 x 3) (zAsk c x) (c 13 x 2))) (mu m2 19 x (nxtP (m2 19 x) (allA m x) (m 18 x) (m2 3 3) (m2 3 4) (m2 3 5))) x := by
      intro c2 m2 q1 q2 q3 q4 q5
      have pe := price_eq (c := c2) (m := m) (p := m 19 x) (al := allA m x) (had := m 18 x) (by rw [q1]; exact hv 3 (by decide)) (by rw [q1]; exact hv 4 (by decide)) (by rw [q1]; exact hv 5 (by decide)) (by rw [← cL]; exact hnle) (by omega)
      rw [q2, q3, q4, hask, ← hall, cL, pe.1]
      exact q5.price pe.2.1 pe.2.2
    have frP : ∀ (c2 : Nat → Nat → Nat → Int32) (v : Int32), FrC c2 (cu c2 13 x 3 v) x := fun c2 v => ⟨fun a ha => cu_rw (by omega), fun y hy => by rw [cu_rw (by decide)]⟩
    have fmP : ∀ (m2 : Nat → Nat → Int32) (v : Int32), FrM m2 (mu m2 19 x v) x := fun m2 v => ⟨fun a _ h2 _ _ _ _ _ => mu_row h2, fun y hy => ⟨by rw [mu_row (by decide)], by rw [mu_at, if_neg (fun q => hy q.2)]⟩, fun y _ _ b _ => by rw [mu_row (by decide)]⟩
    by_cases hg : goesA m x R2
    · have hto : zTo c x = m 18 x := by
        unfold zTo
        rw [if_neg (hgoes.mp hg), cL]
      have hcr : CRel n (zA2 c x o1 o2) (partA m x R2) x := by
        unfold zA2
        exact h.scratch (zr (zTo c x) o1 o2) pr
      have z13 : zA2 c x o1 o2 13 x 3 = m 19 x := by
        unfold zA2
        rw [zr _ o1 o2 13 (by decide) (by decide) (by decide), cP]
      have p19 : partA m x R2 19 x = m 19 x := by rw [pr 19 (by decide) (by decide)]
      obtain ⟨s1, s2, s3, s4, s5, s6, s7⟩ := sale (g := g) (p := m 19 x) hn hcr hx (by omega) (by omega) (fun b hb => (k3 b hb).1) (fun b hb => by unfold zA2; rw [hto]; exact (k3 b hb).2.1) (fun b hb => by
        rw [pr 27 (by decide) (by decide)]
        have a1 := (k3 b hb).2.2
        have a2 := hA b hb
        omega) (by
        rw [pr 18 (by decide) (by decide)]
        have : sumN g 28 ≤ Lf := by rw [k4]; exact Nat.min_le_right _ _
        omega)
      have hsAll : sAll m x R2 = sSells (partA m x R2) x (m 19 x) := by
        unfold sAll
        rw [if_pos hg, p19]
      have hzA3 : zA3 n c x o1 o2 = cHO n (zA2 c x o1 o2) x (m 19 x) 28 := by
        unfold zA3
        rw [z13]
      have hzSA : zSA n c x o1 o2 = cu (zA3 n c x o1 o2) 13 x 3 (zMv (zA3 n c x o1 o2) (zA3 n c x o1 o2 13 x 3) (zAsk c x) (c 13 x 2)) := by
        unfold zSA
        rw [if_neg hnle]
      have fC : FrC c (zA2 c x o1 o2) x := by
        unfold zA2
        exact FrC.scratch (zr (zTo c x) o1 o2)
      refine ⟨R2, o1, o2, sumN g 28, fun _ => k1, by rw [hto]; exact k2, ?_, ?_, ?_, ?_, fun nP R1 s0 => ?_⟩
      · rw [if_neg hL0, hzSA]
        unfold sAllP
        rw [hzA3, hsAll]
        refine hpr _ _ ?_ ?_ ?_ ?_ s1
        · rw [s2.1 4 (by decide), fC.1 4 (by decide)]
        · rw [s3.1 3 (by decide) (by decide) (by decide) (by decide) (by decide) (by decide) (by decide), pr 3 (by decide) (by decide)]
        · rw [s7 3 (by decide), z13]
        · rw [s6, p19]
      · rw [hzSA, hzA3]
        exact (fC.trans s2).trans (frP _ _)
      · rw [if_neg hL0]
        unfold sAllP
        rw [hsAll]
        exact ((FrM.scratch pr).trans s3).trans (fmP _ _)
      · rw [hzSA, cu_at, if_neg (by omega), hzA3, s4]
        unfold zA2
        rw [zr _ o1 o2 13 (by decide) (by decide) (by decide)]
      · unfold sSW1
        rw [if_neg hL0, if_neg hL0, if_pos hg]
        unfold vAll
        rw [if_pos hg, p19, s5]
    · have hmu : zMuch c x := by
        refine Classical.byContradiction (fun q => hg (hgoes.mpr q))
      have hto : zTo c x = nI 0 := by
        unfold zTo
        rw [if_pos hmu]
        rfl
      have hzA3 : zA3 n c x z3 z4 = zCut (zA1 c x) (nI 0) z3 z4 := by
        unfold zA3 zA2
        rw [hto]
        refine cHO_zero (fun b hb => ?_) 28 (Nat.le_refl _)
        rw [(kz3 b hb).2.1, gz0 b hb]
        rfl
      have hsAll : sAll m x R2 = partA m x R2 := by
        unfold sAll
        rw [if_neg hg]
      have hzSA : zSA n c x z3 z4 = cu (zA3 n c x z3 z4) 13 x 3 (zMv (zA3 n c x z3 z4) (zA3 n c x z3 z4 13 x 3) (zAsk c x) (c 13 x 2)) := by
        unfold zSA
        rw [if_neg hnle]
      refine ⟨R2, z3, z4, 0, fun _ => k1, by rw [hto]; exact kz2, ?_, ?_, ?_, ?_, fun nP R1 s0 => ?_⟩
      · rw [if_neg hL0, hzSA]
        unfold sAllP
        rw [hzA3, hsAll]
        refine hpr _ _ ?_ ?_ ?_ ?_ (h.scratch (zr (nI 0) z3 z4) pr)
        · exact zr (nI 0) z3 z4 4 (by decide) (by decide) (by decide)
        · exact pr 3 (by decide) (by decide)
        · rw [zr (nI 0) z3 z4 13 (by decide) (by decide) (by decide), cP]
        · rw [pr 19 (by decide) (by decide)]
      · rw [hzSA, hzA3]
        exact (FrC.scratch (zr (nI 0) z3 z4)).trans (frP _ _)
      · rw [if_neg hL0]
        unfold sAllP
        rw [hsAll]
        exact (FrM.scratch pr).trans (fmP _ _)
      · rw [hzSA, cu_at, if_neg (by omega), hzA3, zr (nI 0) z3 z4 13 (by decide) (by decide) (by decide)]
        exact (Int32.sub_zero _).symm
      · unfold sSW1
        rw [if_neg hL0, if_neg hL0, if_neg hg]
        exact Prod.ext (Int32.add_zero _).symm rfl
end ER2

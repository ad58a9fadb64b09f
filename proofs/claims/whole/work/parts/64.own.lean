/-! who owns how much -/
section OWN
/-- one FUND's part more, in the class's way and in the other's: x/y and A'/B' are of one value -/
theorem fr_step {U V A B gv pt : Nat} (hV : 0 < V) (hB : 0 < B) (hg : 0 < gv) (h : U * B = A * V) : (U * gv + pt * V) * (B * (gv / Nat.gcd pt gv / Nat.gcd (gv / Nat.gcd pt gv) B)) = (A * (gv / Nat.gcd pt gv / Nat.gcd (gv / Nat.gcd pt gv) B) + pt / Nat.gcd pt gv * (B / Nat.gcd (gv / Nat.gcd pt gv) B)) * (V * gv) := by
  have p1 : 0 < Nat.gcd pt gv := Nat.gcd_pos_of_pos_right _ hg
  have e1 : gv / Nat.gcd pt gv * Nat.gcd pt gv = gv := Nat.div_mul_cancel (Nat.gcd_dvd_right _ _)
  have e2 : pt / Nat.gcd pt gv * Nat.gcd pt gv = pt := Nat.div_mul_cancel (Nat.gcd_dvd_left _ _)
  generalize hby : Nat.gcd pt gv = by' at *
  generalize hov : gv / by' = ov at *
  generalize hq : pt / by' = q at *
  have p2 : 0 < Nat.gcd ov B := Nat.gcd_pos_of_pos_right _ hB
  have e3 : ov / Nat.gcd ov B * Nat.gcd ov B = ov := Nat.div_mul_cancel (Nat.gcd_dvd_left _ _)
  have e4 : B / Nat.gcd ov B * Nat.gcd ov B = B := Nat.div_mul_cancel (Nat.gcd_dvd_right _ _)
  generalize Nat.gcd ov B = bo at *
  generalize ov / bo = o' at *
  generalize B / bo = b' at *
  have hgv : gv = o' * bo * by' := by rw [← e1, ← e3]
  have hpt : pt = q * by' := e2.symm
  have hBe : B = b' * bo := e4.symm
  have t1 : U * gv * (B * o') = A * o' * (V * gv) := by
    calc U * gv * (B * o') = (U * B) * (gv * o') := by ac_rfl
      _ = (A * V) * (gv * o') := by rw [h]
      _ = A * o' * (V * gv) := by ac_rfl
  have t2 : pt * V * (B * o') = q * b' * (V * gv) := by
    rw [hpt, hBe, hgv]
    ac_rfl
  rw [Nat.add_mul, Nat.add_mul, t1, t2]
theorem prod4 {a b c d : Nat} (h : a + b + c + d ≤ 24000) : (a + 1) * (b + 1) * (c + 1) * (d + 1) ≤ 1296864216024001 := by
  have h1 : ∀ x y s : Nat, x + y ≤ s → 4 * (x * y) ≤ s * s := by
    intro x y s hs
    have e : (x + y) * (x + y) ≤ s * s := Nat.mul_le_mul hs hs
    have k : 4 * (x * y) ≤ (x + y) * (x + y) := by
      rcases Nat.le_total x y with q | q
      · obtain ⟨z, rfl⟩ := Nat.le.dest q
        have : (x + (x + z)) * (x + (x + z)) = 4 * (x * (x + z)) + z * z := by
          simp only [Nat.add_mul, Nat.mul_add]
          rw [Nat.mul_comm z x]
          omega
        omega
      · obtain ⟨z, rfl⟩ := Nat.le.dest q
        have : (y + z + y) * (y + z + y) = 4 * ((y + z) * y) + z * z := by
          simp only [Nat.add_mul, Nat.mul_add]
          rw [Nat.mul_comm z y]
          omega
        omega
    omega
  have a1 := h1 (a + 1) (b + 1) (a + 1 + (b + 1)) (Nat.le_refl _)
  have a2 := h1 (c + 1) (d + 1) (c + 1 + (d + 1)) (Nat.le_refl _)
  have a3 := h1 (a + 1 + (b + 1)) (c + 1 + (d + 1)) 24004 (by omega)
  generalize hs1 : a + 1 + (b + 1) = s1 at *
  generalize hs2 : c + 1 + (d + 1) = s2 at *
  have a4 : s1 * s2 ≤ 144048004 := by omega
  have a5 : (4 * ((a + 1) * (b + 1))) * (4 * ((c + 1) * (d + 1))) ≤ (s1 * s1) * (s2 * s2) := Nat.mul_le_mul a1 a2
  have a6 : (s1 * s1) * (s2 * s2) = (s1 * s2) * (s1 * s2) := by ac_rfl
  have a7 : (s1 * s2) * (s1 * s2) ≤ 144048004 * 144048004 := Nat.mul_le_mul a4 a4
  have a8 : (4 * ((a + 1) * (b + 1))) * (4 * ((c + 1) * (d + 1))) = 16 * ((a + 1) * (b + 1) * (c + 1) * (d + 1)) := by
    rw [show (16 : Nat) = 4 * 4 from rfl]
    ac_rfl
  omega
def pG (G : Nat → Nat) : Nat → Nat
  | 0 => 1
  | k + 1 => pG G k * (G k + 1)
theorem pG_pos (G : Nat → Nat) : ∀ k, 0 < pG G k
  | 0 => Nat.one_pos
  | k + 1 => Nat.mul_pos (pG_pos G k) (Nat.succ_pos _)
theorem pG_le {G : Nat → Nat} (h : G 0 + G 1 + G 2 + G 3 ≤ 24000) : ∀ k, k ≤ 4 → pG G k ≤ 1296864216024001 := by
  intro k hk
  have h4 := prod4 h
  have e : pG G 4 = (G 0 + 1) * (G 1 + 1) * (G 2 + 1) * (G 3 + 1) := by
    simp only [pG, Nat.one_mul]
  have mono : ∀ j, pG G j ≤ pG G (j + 1) := fun j => Nat.le_mul_of_pos_right _ (Nat.succ_pos _)
  have m1 : pG G 0 ≤ pG G 1 := mono 0
  have m2 : pG G 1 ≤ pG G 2 := mono 1
  have m3 : pG G 2 ≤ pG G 3 := mono 2
  have m4 : pG G 3 ≤ pG G 4 := mono 3
  have : k = 0 ∨ k = 1 ∨ k = 2 ∨ k = 3 ∨ k = 4 := by omega
  rcases this with q | q | q | q | q <;> subst q <;> omega
end OWN

/-! fractions: the greatest divisor in common, by rounds; two fractions of one value shorten to the same -/
def NE : Nat → Nat → Nat → Prop
  | 0, _, y => y = 0
  | k + 1, x, y => y = 0 ∨ NE k y (x % y)
def fg : Nat → Nat → Nat → Nat
  | 0, a, _ => a
  | k + 1, a, b => fg k b (a + b)
theorem fg_s : ∀ (k a b : Nat), fg (k + 2) a b = fg k a b + fg (k + 1) a b
  | 0, a, b => rfl
  | k + 1, a, b => by
    show fg (k + 2) b (a + b) = fg k b (a + b) + fg (k + 1) b (a + b)
    exact fg_s k b (a + b)
theorem NE_low : ∀ (k x y : Nat), y < x → ¬ NE k x y → fg (k + 1) 0 1 ≤ y ∧ fg (k + 2) 0 1 ≤ x
  | 0, x, y, h, hn => by
    have : y ≠ 0 := hn
    exact ⟨show 1 ≤ y by omega, show 1 ≤ x by omega⟩
  | k + 1, x, y, h, hn => by
    have h0 : y ≠ 0 := fun q => hn (Or.inl q)
    have h1 : ¬ NE k y (x % y) := fun q => hn (Or.inr q)
    have h2 : x % y < y := Nat.mod_lt _ (by omega)
    obtain ⟨a1, a2⟩ := NE_low k y (x % y) h2 h1
    have h3 : y + x % y ≤ x := by
      have h4 := Nat.div_add_mod x y
      have h5 : 1 ≤ x / y := (Nat.one_le_div_iff (by omega)).mpr (by omega)
      have h6 : y * 1 ≤ y * (x / y) := Nat.mul_le_mul_left y h5
      omega
    refine ⟨a2, ?_⟩
    have e : fg (k + 1 + 1) 0 1 = fg (k + 2) 0 1 := rfl
    rw [show k + 1 + 2 = (k + 1) + 2 from rfl, fg_s (k + 1) 0 1, e]
    omega
theorem NE_mono : ∀ (k x y : Nat), NE k x y → NE (k + 1) x y
  | 0, _, _, h => Or.inl h
  | k + 1, x, y, h => h.imp id (NE_mono k y (x % y))
theorem NE_mono' (j : Nat) : ∀ (k x y : Nat), NE k x y → NE (k + j) x y := by
  induction j with
  | zero => intro k x y h; exact h
  | succ j ih => intro k x y h; exact NE_mono _ _ _ (ih k x y h)
theorem NE_100 {x y : Nat} (hx : x < 2 ^ 63) (hy : y < 2 ^ 63) : NE 100 x y := by
  have hb : (2 : Nat) ^ 63 ≤ fg 93 0 1 := by decide
  have key : ∀ a b : Nat, b < a → a < 2 ^ 63 → NE 91 a b := fun a b h1 h2 => by
    refine Classical.byContradiction (fun q => ?_)
    have := (NE_low 91 a b h1 q).2
    have e : fg (91 + 2) 0 1 = fg 93 0 1 := rfl
    rw [e] at this
    omega
  have h2 : NE 92 x y := by
    by_cases h0 : y = 0
    · exact Or.inl h0
    · exact Or.inr (key y (x % y) (Nat.mod_lt _ (by omega)) hy)
  exact NE_mono' 8 92 x y h2
/-- x is the number k -/
def Lg (x : Int64) (k : Nat) : Prop := x.toInt = (k : Int)
theorem Lg.lt {x : Int64} {k : Nat} (h : Lg x k) : k < 2 ^ 63 := by
  have h1 := Int64.toInt_lt x
  unfold Lg at h
  omega
theorem Lg.eq {x y : Int64} {k : Nat} (h1 : Lg x k) (h2 : Lg y k) : x = y := L_ext (h1.trans h2.symm)
theorem Lg.mul {x y : Int64} {a b : Nat} (h1 : Lg x a) (h2 : Lg y b) (h : a * b < 2 ^ 63) : Lg (x * y) (a * b) := by
  unfold Lg at *
  have e : ((a * b : Nat) : Int) = (a : Int) * (b : Int) := by simp
  rw [L_mul (by rw [h1, h2, ← e]; omega) (by rw [h1, h2, ← e]; omega), h1, h2, e]
theorem Lg.add {x y : Int64} {a b : Nat} (h1 : Lg x a) (h2 : Lg y b) (h : a + b < 2 ^ 63) : Lg (x + y) (a + b) := by
  unfold Lg at *
  rw [L_add (by rw [h1, h2]; omega) (by rw [h1, h2]; omega), h1, h2]
  simp
theorem Lg.ne0 {x : Int64} {a : Nat} (h1 : Lg x a) : x = 0 ↔ a = 0 := by
  constructor
  · intro h
    rw [h] at h1
    have : (0 : Int64).toInt = (a : Int) := h1
    have t : (0 : Int64).toInt = 0 := rfl
    omega
  · intro h
    refine Lg.eq h1 ?_
    rw [h]
    rfl
theorem Lg.div {x y : Int64} {a b : Nat} (h1 : Lg x a) (h2 : Lg y b) : Lg (x / y) (a / b) := by
  unfold Lg at *
  have hne : y ≠ -1 := fun q => by
    rw [q] at h2
    have : (-1 : Int64).toInt = -1 := rfl
    omega
  rw [Int64.toInt_div_of_ne_right _ _ hne, h1, h2]
  exact (Int.ofNat_tdiv a b).symm
theorem Lg.mod {x y : Int64} {a b : Nat} (h1 : Lg x a) (h2 : Lg y b) : Lg (x - x / y * y) (a % b) := by
  have hd := h1.div h2
  have hle : a / b * b ≤ a := Nat.div_mul_le_self a b
  have hm := hd.mul h2 (by have := h1.lt; omega)
  have hs : a % b = a - a / b * b := by
    have := Nat.div_add_mod a b
    rw [Nat.mul_comm] at this
    omega
  unfold Lg at *
  have ha := (show Lg x a from h1).lt
  rw [Int64.toInt_sub, h1, hm, hs]
  have e : ((a - a / b * b : Nat) : Int) = (a : Int) - ((a / b * b : Nat) : Int) := by omega
  rw [e]
  exact Int.bmod_eq_of_le (by omega) (by omega)
theorem lgcd_N : ∀ (k : Nat) (x y : Int64) (a b : Nat), Lg x a → Lg y b → NE k a b → lgcdE k x y ∧ Lg (lgcd k x y) (Nat.gcd a b)
  | 0, x, y, a, b, h1, h2, h => by
    have hb : b = 0 := h
    refine ⟨(h2.ne0).mpr hb, ?_⟩
    rw [hb, Nat.gcd_zero_right, lgcd]
    exact h1
  | k + 1, x, y, a, b, h1, h2, h => by
    rw [lgcdE, lgcd]
    by_cases hb : b = 0
    · have hy := (h2.ne0).mpr hb
      rw [if_pos hy, hb, Nat.gcd_zero_right]
      exact ⟨Or.inl hy, h1⟩
    · have hy : ¬ y = 0 := fun q => hb ((h2.ne0).mp q)
      have hn : NE k b (a % b) := h.resolve_left hb
      obtain ⟨i1, i2⟩ := lgcd_N k y (x - x / y * y) b (a % b) h2 (h1.mod h2) hn
      rw [if_neg hy]
      refine ⟨Or.inr i1, ?_⟩
      have e : Nat.gcd a b = Nat.gcd b (a % b) := by
        rw [Nat.gcd_comm a b, Nat.gcd_rec b a, Nat.gcd_comm]
      rw [e]
      exact i2
theorem lgcd_L {x y : Int64} {a b : Nat} (h1 : Lg x a) (h2 : Lg y b) : lgcdE 100 x y ∧ Lg (lgcd 100 x y) (Nat.gcd a b) := lgcd_N 100 x y a b h1 h2 (NE_100 h1.lt h2.lt)
theorem frS_L {u v : Int64} {a b : Nat} (h1 : Lg u a) (h2 : Lg v b) (hb : 0 < b) : Lg (frS u v).1 (a / Nat.gcd a b) ∧ Lg (frS u v).2 (b / Nat.gcd a b) := by
  obtain ⟨-, hg⟩ := lgcd_L h1 h2
  have hg1 : 0 < Nat.gcd a b := Nat.gcd_pos_of_pos_right a hb
  unfold frS
  by_cases h : lg_cmp (lgcd 100 u v) 1 ≤ 0
  · rw [if_pos h]
    have e : Nat.gcd a b = 1 := by
      refine Classical.byContradiction (fun q => ?_)
      have h3 : (1 : Int64) < lgcd 100 u v := by
        rw [Int64.lt_iff_toInt_lt]
        have : (1 : Int64).toInt = 1 := rfl
        unfold Lg at hg
        omega
      unfold lg_cmp at h
      rw [if_pos h3] at h
      exact absurd h (by decide)
    rw [e, Nat.div_one, Nat.div_one]
    exact ⟨h1, h2⟩
  · rw [if_neg h]
    exact ⟨h1.div hg, h2.div hg⟩
theorem Lg.ofT {v : Int32} (h : 0 ≤ v.toInt) : Lg v.toInt64 v.toInt.toNat := by
  unfold Lg
  rw [Int32.toInt_toInt64]
  omega
/-- fractions of one value shorten to the same -/
theorem fr_same {u1 v1 u2 v2 : Nat} (h1 : 0 < v1) (h2 : 0 < v2) (h : u1 * v2 = u2 * v1) : u1 / Nat.gcd u1 v1 = u2 / Nat.gcd u2 v2 ∧ v1 / Nat.gcd u1 v1 = v2 / Nat.gcd u2 v2 := by
  have p1 : 0 < Nat.gcd u1 v1 := Nat.gcd_pos_of_pos_right _ h1
  have p2 : 0 < Nat.gcd u2 v2 := Nat.gcd_pos_of_pos_right _ h2
  have c1 : Nat.Coprime (u1 / Nat.gcd u1 v1) (v1 / Nat.gcd u1 v1) := Nat.coprime_div_gcd_div_gcd p1
  have c2 : Nat.Coprime (u2 / Nat.gcd u2 v2) (v2 / Nat.gcd u2 v2) := Nat.coprime_div_gcd_div_gcd p2
  have e1 : u1 / Nat.gcd u1 v1 * Nat.gcd u1 v1 = u1 := Nat.div_mul_cancel (Nat.gcd_dvd_left _ _)
  have e2 : v1 / Nat.gcd u1 v1 * Nat.gcd u1 v1 = v1 := Nat.div_mul_cancel (Nat.gcd_dvd_right _ _)
  have e3 : u2 / Nat.gcd u2 v2 * Nat.gcd u2 v2 = u2 := Nat.div_mul_cancel (Nat.gcd_dvd_left _ _)
  have e4 : v2 / Nat.gcd u2 v2 * Nat.gcd u2 v2 = v2 := Nat.div_mul_cancel (Nat.gcd_dvd_right _ _)
  generalize u1 / Nat.gcd u1 v1 = a1 at *
  generalize v1 / Nat.gcd u1 v1 = b1 at *
  generalize u2 / Nat.gcd u2 v2 = a2 at *
  generalize v2 / Nat.gcd u2 v2 = b2 at *
  generalize Nat.gcd u1 v1 = g1 at *
  generalize Nat.gcd u2 v2 = g2 at *
  have h3 : a1 * b2 = a2 * b1 := by
    have h4 : (a1 * b2) * (g1 * g2) = (a2 * b1) * (g1 * g2) := by
      calc (a1 * b2) * (g1 * g2) = (a1 * g1) * (b2 * g2) := by ac_rfl
        _ = u1 * v2 := by rw [e1, e4]
        _ = u2 * v1 := h
        _ = (a2 * g2) * (b1 * g1) := by rw [e3, e2]
        _ = (a2 * b1) * (g1 * g2) := by ac_rfl
    exact Nat.eq_of_mul_eq_mul_right (Nat.mul_pos p1 p2) h4
  have d1 : b1 ∣ b2 := by
    have : b1 ∣ a1 * b2 := ⟨a2, by rw [h3, Nat.mul_comm]⟩
    exact (Nat.Coprime.symm c1).dvd_of_dvd_mul_left this
  have d2 : b2 ∣ b1 := by
    have : b2 ∣ a2 * b1 := ⟨a1, by rw [← h3, Nat.mul_comm]⟩
    exact (Nat.Coprime.symm c2).dvd_of_dvd_mul_left this
  have hb : b1 = b2 := Nat.dvd_antisymm d1 d2
  refine ⟨?_, hb⟩
  subst hb
  have hb0 : 0 < b1 := by
    rcases Nat.eq_zero_or_pos b1 with q | q
    · rw [q, Nat.zero_mul] at e2
      omega
    · exact q
  exact Nat.eq_of_mul_eq_mul_right hb0 h3

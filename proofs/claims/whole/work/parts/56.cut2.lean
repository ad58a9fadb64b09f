section CUT2
variable {W : Nat → Nat} {N S : Nat} {U : Nat → Bool} {m s : Nat → Nat → Int32} {c k : Nat → Nat → Nat → Int32}
def PS (W : Nat → Nat) (N S : Nat) (s : Nat → Nat → Int32) (U : Nat → Bool) : Prop := ∀ b, b < 28 → s 35 b = nI (W b) ∧ s 36 b = nI (W b * N / S + uN U b)
def CS (W : Nat → Nat) (N S : Nat) (k : Nat → Nat → Nat → Int32) (U : Nat → Bool) : Prop := ∀ b, b < 28 → k 11 0 b = nI (W b * N / S + uN U b) ∧ k 12 0 b = if U b = true then -1 else nI (W b * N % S)
abbrev uS (U : Nat → Bool) (j : Nat) : Nat → Bool := fun b => if b = j then true else U b
theorem uS_j {j : Nat} : uN (uS U j) j = 1 := by simp [uN, uS]
theorem uS_o {j b : Nat} (h : b ≠ j) : uN (uS U j) b = uN U b := by simp [uN, uS, h]
theorem ct_step (hW : ∀ b, b < 28 → W b ≤ 1000) (hN : N ≤ 1000) (hS : S = sumN W 28) (hlt : N < S) (hP : PS W N S s U) (hC : CS W N S k U) (hU : ∀ b, b < 28 → U b = true → 0 < W b * N % S) {t : Nat} (hc : sumN (uN U) 28 = t) (ht : t < N - sumN (fun b => W b * N / S) 28) :
    ∃ j, j < 28 ∧ gB (k 12 0) 27 = j ∧ mBest s (nI N) (nI S) 28 = nI j ∧ PS W N S (mu s 36 j (s 36 j + 1)) (uS U j) ∧ CS W N S (cG1 k) (uS U j) ∧ sumN (uN (uS U j)) 28 = t + 1 ∧ ∀ b, b < 28 → uS U j b = true → 0 < W b * N % S := by
  obtain ⟨f1, f2, f3, f4⟩ := cut_n hW hN hS hlt
  have hdv : ∀ b, b < 28 → s 35 b * nI N / nI S = nI (W b * N / S) := fun b hb => by
    have := (f1 b hb).2.2.1
    rw [(hP b hb).1, nI_mul, nI_div (by omega) (by omega)]
  have hr : ∀ b, b < 28 → W b * N % S < 2 ^ 31 := fun b hb => by
    have := (f1 b hb).2.1
    omega
  have hb := best_eq (s := s) (f := k 12 0) (n := nI N) (al := nI S) (r := fun b => W b * N % S) (U := U) hr (fun b hb => (hC b hb).2) (fun b hb => by
      rw [hdv b hb, (hP b hb).2, nI_eq (by have := (f1 b hb).1; have := hW b hb; unfold uN; split <;> omega) (by have := (f1 b hb).1; have := hW b hb; omega)]
      unfold uN
      split <;> rename_i q
      · exact ⟨fun z => by omega, fun z => absurd q z⟩
      · exact ⟨fun _ => q, fun _ => by omega⟩) (fun b hb => by
      have := (f1 b hb).2.2.1
      unfold mRem
      rw [(hP b hb).1, nI_mul, nI_rem (by omega) (by omega)]) 27 (by decide)
  obtain ⟨g1, g2⟩ := gB_max (k 12 0) 27
  obtain ⟨b, hb1, hb2, hb3⟩ := cut_left (U := U) hlt (fun b hb => (f1 b hb).2.1) f3 hc ht
  have hfb : k 12 0 b = nI (W b * N % S) := by rw [(hC b hb1).2, hb2]; rfl
  have hmx := g2 b (by omega)
  rw [hfb, T_le, nI_toInt (hr b hb1)] at hmx
  rcases hb with ⟨q1, -⟩ | ⟨q1, q2⟩
  · rw [q1] at hmx
    have : (-1 : Int32).toInt = -1 := rfl
    omega
  · refine ⟨gB (k 12 0) 27, by omega, rfl, q2, ?_, ?_, ?_, ?_⟩
    · intro b hb
      rw [mu_at, mu_at, if_neg (by omega)]
      refine ⟨(hP b hb).1, ?_⟩
      by_cases e : b = gB (k 12 0) 27
      · rw [if_pos ⟨rfl, e⟩, e, uS_j, (hP _ (by omega)).2]
        have : uN U (gB (k 12 0) 27) = 0 := by simp [uN, q1]
        rw [this]
        exact nI_add _ 1
      · rw [if_neg (fun z => e z.2), uS_o e]
        exact (hP b hb).2
    · intro b hb
      unfold cG1
      rw [cu_at, cu_at, cu_at, cu_at, if_neg (by omega)]
      by_cases e : b = gB (k 12 0) 27
      · rw [if_pos ⟨rfl, rfl, e⟩, if_pos ⟨rfl, rfl, e⟩, e, uS_j, (hC _ (by omega)).1]
        have : uN U (gB (k 12 0) 27) = 0 := by simp [uN, q1]
        rw [this]
        refine ⟨nI_add _ 1, ?_⟩
        rw [if_pos (by simp [uS])]
      · rw [if_neg (fun z => e z.2.2), if_neg (fun z => e z.2.2), if_neg (by omega), uS_o e]
        refine ⟨(hC b hb).1, ?_⟩
        rw [(hC b hb).2]
        simp [uS, e]
    · rw [sumN_put (f := uN U) (g := uN (uS U (gB (k 12 0) 27))) (j := gB (k 12 0) 27) (v := 1) (by omega) (fun i _ hi => uS_o hi) (by rw [uS_j]; simp [uN, q1]), hc]
    · intro b2 hb4 hb5
      by_cases e : b2 = gB (k 12 0) 27
      · rw [e]
        have h9 := (hC _ (show gB (k 12 0) 27 < 28 by omega)).2
        rw [q1, if_neg (by decide)] at h9
        rw [h9, nI_toInt (hr _ (by omega))] at hmx
        omega
      · exact hU b2 hb4 (by simpa [uS, e] using hb5)
theorem gSt_row {n al : Int32} : ∀ (t : Nat) {a : Nat}, a ≠ 36 → gSt m n al t a = m a
  | 0, a, h => by
    rw [gSt]
    funext b
    rw [mP2_at, if_neg (fun q => h q.1)]
  | t + 1, a, h => by rw [gSt, mu_row h, gSt_row t h]
theorem sPart_row {n : Int32} {R a : Nat} (h : a ≠ 36) : sPart m n R a = m a := by
  have h1 : mP1 m 28 a = m a := by
    funext b
    rw [mP1_at, if_neg (fun q => h q.1)]
  unfold sPart
  split
  · exact h1
  · rw [gSt_row _ h, h1]
theorem cGn_row : ∀ (t : Nat) {a : Nat}, a ≠ 11 → a ≠ 12 → cGn c t a = c a
  | 0, a, _, _ => by rw [cGn]
  | t + 1, a, h, h2 => by
    rw [cGn, cG1, cu_rw h2, cu_rw h, cGn_row t h h2]
theorem zCut_row {x : Int32} {o1 o2 a : Nat} (h : a ≠ 11) (h2 : a ≠ 12) : zCut c x o1 o2 a = c a := by
  unfold zCut
  rw [cGn_row _ h h2]
  funext i j
  rw [cC1_at, if_neg (fun q => h q.1), if_neg (fun q => h2 q.1)]
theorem cut_run (hW : ∀ b, b < 28 → W b ≤ 1000) (hN : N ≤ 1000) (hS : S = sumN W 28) (hlt : N < S) (hm : ∀ b, b < 28 → m 35 b = nI (W b)) (hc : ∀ b, b < 28 → c 10 0 b = nI (W b)) : ∀ t, t ≤ N - sumN (fun b => W b * N / S) 28 → ∃ U : Nat → Bool, PS W N S (gSt (mP1 m 28) (nI N) (nI S) t) U ∧ CS W N S (cGn (cC1 c (nI N) (nI S) 28) t) U ∧ sumN (uN U) 28 = t ∧ (∀ b, b < 28 → U b = true → 0 < W b * N % S) ∧ (t < N - sumN (fun b => W b * N / S) 28 → ¬ mBest (gSt (mP1 m 28) (nI N) (nI S) t) (nI N) (nI S) 28 = -1) := by
  obtain ⟨f1, f2, f3, f4⟩ := cut_n hW hN hS hlt
  have hno : ∀ j : Nat, j < 28 → ¬ nI j = -1 := fun j hj q => by
    have q2 := congrArg Int32.toInt q
    rw [nI_toInt (by omega)] at q2
    have : (-1 : Int32).toInt = -1 := rfl
    omega
  intro t
  induction t with
  | zero =>
    intro _
    have hP : PS W N S (gSt (mP1 m 28) (nI N) (nI S) 0) (fun _ => false) := by
      intro b hb
      have := (f1 b hb).2.2.1
      rw [gSt, mP2_at, mP2_at, if_neg (by omega), if_pos ⟨rfl, hb⟩, mP1_at, if_neg (by omega), hm b hb]
      refine ⟨rfl, ?_⟩
      rw [nI_mul, nI_div (by omega) (by omega)]
      rfl
    have hC : CS W N S (cGn (cC1 c (nI N) (nI S) 28) 0) (fun _ => false) := by
      intro b hb
      have := (f1 b hb).2.2.1
      have hpos : ¬ nI S ≤ 0 := by
        rw [T_le, nI_toInt (by omega)]
        have : (0 : Int32).toInt = 0 := rfl
        omega
      rw [cGn, cC1_at, cC1_at, if_pos ⟨rfl, rfl, hb⟩, if_neg hpos, if_neg (by omega), if_pos ⟨rfl, rfl, hb⟩, if_neg hpos, hc b hb, nI_mul, nI_rem (by omega) (by omega), nI_div (by omega) (by omega)]
      exact ⟨rfl, rfl⟩
    have hcn : sumN (uN (fun _ => false)) 28 = 0 := by decide
    have hU : ∀ b, b < 28 → (fun _ : Nat => false) b = true → 0 < W b * N % S := fun b _ q => by cases q
    refine ⟨fun _ => false, hP, hC, hcn, hU, fun ht => ?_⟩
    obtain ⟨j, j1, -, j3, -⟩ := ct_step hW hN hS hlt hP hC hU hcn ht
    rw [j3]
    exact hno j j1
  | succ t ih =>
    intro ht
    obtain ⟨U, hP, hC, hcn, hU, -⟩ := ih (by omega)
    obtain ⟨j, j1, j2, j3, j4, j5, j6, j7⟩ := ct_step hW hN hS hlt hP hC hU hcn (by omega)
    have hP' : PS W N S (gSt (mP1 m 28) (nI N) (nI S) (t + 1)) (uS U j) := by
      rw [gSt, j3, tn_nI (by omega)]
      exact j4
    have hC' : CS W N S (cGn (cC1 c (nI N) (nI S) 28) (t + 1)) (uS U j) := by
      rw [cGn]
      exact j5
    refine ⟨uS U j, hP', hC', j6, j7, fun ht2 => ?_⟩
    obtain ⟨i, i1, -, i3, -⟩ := ct_step hW hN hS hlt hP' hC' j7 j6 ht2
    rw [i3]
    exact hno i i1
theorem mRst_nI (hW : ∀ b, b < 28 → W b ≤ 1000) (hN : N ≤ 1000) (hS : S = sumN W 28) (hlt : N < S) (hm : ∀ b, b < 28 → m 35 b = nI (W b)) : ∀ k, k ≤ 28 → mRst m (nI N) (nI S) k = nI (N - sumN (fun b => W b * N / S) k) ∧ sumN (fun b => W b * N / S) k ≤ N
  | 0, _ => ⟨rfl, Nat.zero_le _⟩
  | k + 1, hk => by
    obtain ⟨f1, f2, f3, f4⟩ := cut_n hW hN hS hlt
    obtain ⟨i1, i2⟩ := mRst_nI hW hN hS hlt hm k (by omega)
    have hle : ∀ j, k + 1 + j ≤ 28 → sumN (fun b => W b * N / S) (k + 1) ≤ sumN (fun b => W b * N / S) (k + 1 + j) := by
      intro j
      induction j with
      | zero => intro _; exact Nat.le_refl _
      | succ j ih => intro h; exact Nat.le_trans (ih (by omega)) (Nat.le_add_right _ _)
    have h3 := hle (28 - (k + 1)) (by omega)
    rw [show k + 1 + (28 - (k + 1)) = 28 by omega] at h3
    have h4 : sumN (fun b => W b * N / S) (k + 1) ≤ N := Nat.le_trans h3 f2
    refine ⟨?_, h4⟩
    have := (f1 k (by omega)).2.2.1
    have h5 : sumN (fun b => W b * N / S) (k + 1) = sumN (fun b => W b * N / S) k + W k * N / S := rfl
    rw [mRst, i1, mP2_at, if_neg (by omega), hm k (by omega), nI_mul, nI_div (by omega) (by omega), nI_sub (by omega), h5]
    congr 1
    omega
theorem cOut_nI (hS0 : ¬ nI S ≤ 0) (hS : S < 2 ^ 31) {M : Nat} (hM : ∀ b, b < 28 → W b * M < 2 ^ 31) (hc : ∀ b, b < 28 → c 10 0 b = nI (W b)) : ∀ k, k ≤ 28 → cOut c (nI M) (nI S) k = nI (sumN (fun b => W b * M / S) k)
  | 0, _ => rfl
  | k + 1, hk => by
    rw [cOut, cOut_nI hS0 hS hM hc k (by omega), if_neg hS0, cC1_at, if_neg (by omega), if_neg (by omega), hc k (by omega), nI_mul, nI_div (hM k (by omega)) hS, nI_add]
    rfl
theorem cOut_0 {mo al : Int32} (h : al ≤ 0) : ∀ k, cOut c mo al k = 0
  | 0 => rfl
  | k + 1 => by rw [cOut, cOut_0 h k, if_pos h]; rfl
/-- CUT BACK of the wishes W to N: the same on both sides, nobody above a wish, and in all the lesser of both -/
theorem cut_eq {x : Int32} (hW : ∀ b, b < 28 → W b ≤ 1000) (hN : N ≤ 1000) (hx : x = nI N) (hm : ∀ b, b < 28 → m 35 b = nI (W b)) (hc : ∀ b, b < 28 → c 10 0 b = nI (W b)) : ∃ (R o1 o2 : Nat) (g : Nat → Nat), okPart m x R ∧ okCut c x o1 o2 ∧ (∀ b, b < 28 → sPart m x R 36 b = nI (g b) ∧ zCut c x o1 o2 11 0 b = nI (g b) ∧ g b ≤ W b) ∧ sumN g 28 = min (sumN W 28) N := by
  subst hx
  have hS2 : sumN W 28 ≤ 28 * 1000 := sumN_bd hW
  have hsm : mSumW m 28 = nI (sumN W 28) := mSumW_nI hm
  have hsc : cAllW c = nI (sumN W 28) := sumA_nI hc
  by_cases hle : sumN W 28 ≤ N
  · have hle2 : mSumW m 28 ≤ nI N := by rw [hsm]; exact (nI_leI (by omega) (by omega)).mpr hle
    have hmost : cMost c (nI N) = nI (sumN W 28) := by
      unfold cMost
      rw [hsc]
      by_cases q : nI (sumN W 28) < nI N
      · rw [if_pos q]
      · rw [if_neg q]
        have : ¬ sumN W 28 < N := fun z => q (nI_lt z (by omega))
        congr 1
        omega
    have hsp : ∀ b, b < 28 → sPart m (nI N) 0 36 b = nI (W b) := fun b hb => by
      unfold sPart
      rw [if_pos hle2, mP1_at, if_pos ⟨rfl, hb⟩, hm b hb]
    by_cases h0 : sumN W 28 = 0
    · have hz : ∀ b, b < 28 → W b = 0 := fun b hb => by
        have a := sumN_le (f := fun i => if i = b then W b else 0) (g := W) (k := 28) (fun i _ => by
          by_cases e : i = b
          · rw [e]; simp
          · simp [e])
        have a2 := sumN_put (f := fun _ => 0) (g := fun i => if i = b then W b else 0) (j := b) (v := W b) (k := 28) hb (fun i _ hne => by simp [hne]) (by simp)
        rw [h0, a2] at a
        omega
      have hal : cAllW c ≤ 0 := by rw [hsc, h0]; decide
      refine ⟨0, 0, 0, W, fun q => absurd hle2 q, ⟨?_, ?_, Nat.le_refl _, by decide⟩, fun b hb => ⟨hsp b hb, ?_, Nat.le_refl _⟩, (Nat.min_eq_left hle).symm⟩
      · rw [cOut_0 hal]; rfl
      · rw [hmost, h0]
      · unfold zCut
        rw [cGn, cC1_at, if_pos ⟨rfl, rfl, hb⟩, if_pos hal, hz b hb]
        rfl
    · have hS0 : ¬ nI (sumN W 28) ≤ 0 := by
        rw [T_le, nI_toInt (by omega)]
        have : (0 : Int32).toInt = 0 := rfl
        omega
      have hM : ∀ b, b < 28 → W b * sumN W 28 < 2 ^ 31 := fun b hb => by
        have := Nat.mul_le_mul (hW b hb) hS2
        omega
      have hd : ∀ b, W b * sumN W 28 / sumN W 28 = W b := fun b => Nat.mul_div_cancel _ (by omega)
      refine ⟨0, sumN W 28, sumN W 28, W, fun q => absurd hle2 q, ⟨?_, hmost, Nat.le_refl _, by omega⟩, fun b hb => ⟨hsp b hb, ?_, Nat.le_refl _⟩, (Nat.min_eq_left hle).symm⟩
      · rw [hmost, hsc, cOut_nI hS0 (by omega) hM hc 28 (Nat.le_refl _), sumN_ext (fun i _ => hd i)]
      · unfold zCut
        rw [Nat.sub_self, cGn, cC1_at, if_pos ⟨rfl, rfl, hb⟩, hsc, if_neg hS0, hmost, hc b hb, nI_mul, nI_div (hM b hb) (by omega), hd b]
  · have hlt : N < sumN W 28 := by omega
    obtain ⟨f1, f2, f3, f4⟩ := cut_n hW hN rfl hlt
    have hnle : ¬ mSumW m 28 ≤ nI N := by rw [hsm]; exact fun q => hle ((nI_leI (by omega) (by omega)).mp q)
    have hS0 : ¬ nI (sumN W 28) ≤ 0 := by
      rw [T_le, nI_toInt (by omega)]
      have : (0 : Int32).toInt = 0 := rfl
      omega
    have hmost : cMost c (nI N) = nI N := by
      unfold cMost
      rw [hsc, if_neg (fun q => hle (by have := (nI_ltI (by omega) (by omega)).mp q; omega))]
    have hm1 : ∀ b, b < 28 → mP1 m 28 35 b = nI (W b) := fun b hb => by rw [mP1_at, if_neg (by omega), hm b hb]
    have hrun := cut_run hW hN rfl hlt hm hc
    obtain ⟨U, hP, hC, hcn, hU, -⟩ := hrun (N - sumN (fun b => W b * N / sumN W 28) 28) (Nat.le_refl _)
    refine ⟨N - sumN (fun b => W b * N / sumN W 28) 28, sumN (fun b => W b * N / sumN W 28) 28, N, fun b => W b * N / sumN W 28 + uN U b, fun _ => ⟨?_, ?_, by omega, ?_⟩, ⟨?_, hmost, f2, by omega⟩, fun b hb => ⟨?_, ?_, ?_⟩, ?_⟩
    · rw [hsm]
      exact fun q => by
        have := (nI_eq (a := sumN W 28) (b := 0) (by omega) (by omega)).mp q
        omega
    · rw [hsm]
      exact (mRst_nI hW hN rfl hlt hm1 28 (Nat.le_refl _)).1
    · intro t ht
      rw [hsm]
      obtain ⟨-, -, -, -, -, q⟩ := hrun t (by omega)
      exact q ht
    · rw [hmost, hsc, cOut_nI hS0 (by omega) (fun b hb => by have := (f1 b hb).2.2.1; omega) hc 28 (Nat.le_refl _)]
    · unfold sPart
      rw [if_neg hnle, hsm]
      exact (hP b hb).2
    · unfold zCut
      rw [hmost, hsc]
      exact (hC b hb).1
    · have q := f1 b hb
      show W b * N / sumN W 28 + uN U b ≤ W b
      unfold uN
      split <;> rename_i z
      · exact q.2.2.2 (hU b hb z)
      · have := q.1
        omega
    · rw [sumN_add, hcn, Nat.min_eq_right (by omega)]
      omega
end CUT2

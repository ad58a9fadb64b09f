section WORD
variable {T : Nat → Int32} {sz : Nat} {c : Nat → Nat → Nat → Int32} {m : Nat → Nat → Int32}
def dN (T : Nat → Int32) (s k : Nat) : Nat := (T (s + k)).toInt.toNat - 96
def wV (T : Nat → Int32) (s : Nat) : Nat → Nat
  | 0 => 0
  | k + 1 => 27 * wV T s k + dN T s k
theorem dN_b {s k : Nat} (h : isL (T (s + k))) : 1 ≤ dN T s k ∧ dN T s k ≤ 26 ∧ (T (s + k)).toInt = ((dN T s k + 96 : Nat) : Int) := by
  have h1 := h.1
  have h2 := h.2
  rw [T_le] at h1 h2
  have t1 : (97 : Int32).toInt = 97 := rfl
  have t2 : (122 : Int32).toInt = 122 := rfl
  unfold dN
  omega
theorem wV_b {s : Nat} : ∀ {k : Nat}, (∀ j, j < k → isL (T (s + j))) → wV T s k ≤ 27 ^ k
  | 0, _ => by simp [wV]
  | k + 1, h => by
    have h1 := wV_b (k := k) (fun j hj => h j (by omega))
    have h2 := dN_b (h k (by omega))
    rw [wV, Nat.pow_succ]
    have h3 : wV T s k < 27 ^ k ∨ wV T s k = 27 ^ k := by omega
    -- the bound is not sharp: one less than a power is enough
    have h4 : ∀ {k : Nat}, (∀ j, j < k → isL (T (s + j))) → wV T s k + 1 ≤ 27 ^ k := by
      intro k
      induction k with
      | zero => intro _; simp [wV]
      | succ k ih =>
        intro h
        have a := ih (fun j hj => h j (by omega))
        have b := dN_b (h k (by omega))
        rw [wV, Nat.pow_succ]
        omega
    have := h4 (k := k) (fun j hj => h j (by omega))
    omega
theorem wN_L {s : Nat} : ∀ {k : Nat}, k ≤ 8 → (∀ j, j < k → isL (T (s + j))) → Lg (wN T s k) (wV T s k)
  | 0, _, _ => rfl
  | k + 1, hk, h => by
    have ih := wN_L (k := k) (by omega) (fun j hj => h j (by omega))
    have hb := wV_b (T := T) (s := s) (k := k) (fun j hj => h j (by omega))
    have hp : (27 : Nat) ^ k ≤ 27 ^ 7 := Nat.pow_le_pow_right (by decide) (by omega)
    have h7 : (27 : Nat) ^ 7 = 10460353203 := by decide
    obtain ⟨d1, d2, d3⟩ := dN_b (h k (by omega))
    rw [wN, if_pos (by omega), wV]
    have e27 : Lg (27 : Int64) 27 := rfl
    have a1 := e27.mul ih (by omega)
    have a2 : Lg (T (s + k)).toInt64 (dN T s k + 96) := by
      unfold Lg
      rw [Int32.toInt_toInt64]
      exact d3
    have a3 := a1.add a2 (by omega)
    unfold Lg at a3 ⊢
    have t96 : (96 : Int64).toInt = 96 := rfl
    rw [Int64.toInt_sub, a3, t96]
    rw [Int.bmod_eq_of_le (by omega) (by omega)]
    omega
theorem wN_9 (s : Nat) : ∀ k, wN T s (k + 9) = -1
  | 0 => by rw [wN, if_neg (by omega)]
  | k + 1 => by rw [show k + 1 + 9 = (k + 9) + 1 by omega, wN, if_neg (by omega)]
def keyN (l : List Nat) : Nat := l.foldl (fun a b => 27 * a + (b - 96)) 0
theorem keyN_s (l : List Nat) (b : Nat) : keyN (l ++ [b]) = 27 * keyN l + (b - 96) := by
  unfold keyN
  rw [List.foldl_append]
  rfl
theorem key_dec {s : Nat} : ∀ (N : Nat) (l : List Nat) (L : Nat), l.length = N → (∀ b ∈ l, 97 ≤ b ∧ b ≤ 122) → (∀ j, j < L → isL (T (s + j))) → (wV T s L = keyN l ↔ L = l.length ∧ ∀ j, j < L → dN T s j + 96 = l.getD j 0)
  | 0, l, L, hl, hb, h => by
    have : l = [] := List.length_eq_zero_iff.mp hl
    subst this
    cases L with
    | zero => exact ⟨fun _ => ⟨rfl, fun j hj => by omega⟩, fun _ => rfl⟩
    | succ L =>
      have := dN_b (h L (by omega))
      rw [wV]
      exact ⟨fun q => by simp [keyN] at q; omega, fun q => by simp at q⟩
  | N + 1, l, L, hl, hb, h => by
    have hne : l ≠ [] := fun q => by rw [q] at hl; simp at hl
    obtain ⟨l', b, rfl⟩ : ∃ l' b, l = l' ++ [b] := ⟨l.dropLast, l.getLast hne, (List.dropLast_concat_getLast hne).symm⟩
    have hl' : l'.length = N := by simp at hl; exact hl
    have hb' := hb b (by simp)
    rw [keyN_s]
    cases L with
    | zero =>
      rw [wV]
      exact ⟨fun q => by omega, fun q => by simp at q⟩
    | succ L =>
      have hd := dN_b (h L (by omega))
      have ih := key_dec N l' L hl' (fun z hz => hb z (by simp [hz])) (fun j hj => h j (by omega))
      rw [wV]
      constructor
      · intro q
        have q1 : wV T s L = keyN l' := by omega
        have q2 : dN T s L = b - 96 := by omega
        obtain ⟨r1, r2⟩ := ih.mp q1
        refine ⟨by simp [r1], fun j hj => ?_⟩
        by_cases e : j = L
        · subst e
          rw [List.getD_eq_getElem?_getD, List.getElem?_append_right (by omega), show j - l'.length = 0 by omega]
          show dN T s j + 96 = b
          omega
        · rw [List.getD_eq_getElem?_getD, List.getElem?_append_left (by omega), ← List.getD_eq_getElem?_getD]
          exact r2 j (by omega)
      · intro q
        obtain ⟨q1, q2⟩ := q
        have r1 : L = l'.length := by simp at q1; omega
        have r2 := ih.mpr ⟨r1, fun j hj => by
          have := q2 j (by omega)
          rw [List.getD_eq_getElem?_getD, List.getElem?_append_left (by omega), ← List.getD_eq_getElem?_getD] at this
          exact this⟩
        have r3 := q2 L (by omega)
        rw [List.getD_eq_getElem?_getD, List.getElem?_append_right (by omega), show L - l'.length = 0 by omega] at r3
        have r4 : dN T s L + 96 = b := r3
        rw [r2]
        omega
def bytN : List (List Nat) := [[119, 111, 114, 107, 101, 114, 115], [104, 97, 108, 102], [99, 117, 116], [114, 105, 115, 101], [102, 97, 108, 108], [108, 101, 97, 115, 116]]
def keyC : List Int64 := [9135691453, 158523, 2774, 361373, 119163, 6476969]
theorem key_c : ∀ i, i < 6 → Lg (keyC.getD i 0) (keyN (bytN.getD i [])) ∧ (∀ b ∈ bytN.getD i [], 97 ≤ b ∧ b ≤ 122) ∧ (bytN.getD i []).length = lenR.getD i 0 ∧ lenR.getD i 0 ≤ 7 ∧ (∀ j, j < lenR.getD i 0 → (bytR.getD i []).getD j 0 = nI ((bytN.getD i []).getD j 0)) := by
  unfold Lg
  decide
/-- a word is a rule's, in the one way of telling as in the other -/
theorem spl_key (hc : ∀ q, cAt c sz q = tA T sz q) {s L i : Nat} (hi : i < 6) (hL : ∀ j, j < L → s + j < sz ∧ isL (T (s + j))) : splW c sz s (s + L) i ↔ wN T s L = keyC.getD i 0 := by
  obtain ⟨k1, k2, k3, k4, k5⟩ := key_c i hi
  have hl : ∀ j, j < L → isL (T (s + j)) := fun j hj => (hL j hj).2
  unfold splW
  rw [Nat.add_sub_cancel_left]
  by_cases h8 : L ≤ 8
  · have hw := wN_L h8 hl
    have e : wN T s L = keyC.getD i 0 ↔ wV T s L = keyN (bytN.getD i []) := ⟨fun q => by
        rw [q] at hw
        unfold Lg at hw k1
        omega, fun q => by
        rw [q] at hw
        exact hw.eq k1⟩
    rw [e, key_dec _ _ L rfl k2 hl, k3]
    have hT : ∀ j, j < L → (cAt c sz (s + j) = (bytR.getD i []).getD j 0 ↔ dN T s j + 96 = (bytN.getD i []).getD j 0 ∨ ¬ j < lenR.getD i 0 ∧ cAt c sz (s + j) = (bytR.getD i []).getD j 0) := fun j hj => by
      by_cases q : j < lenR.getD i 0
      · have hA : tA T sz (s + j) = T (s + j) := by unfold tA; rw [if_pos (hL j hj).1]
        have hd := dN_b (hl j hj)
        have hb : (bytN.getD i []).getD j 0 < 2 ^ 31 := by
          have hm : ∀ (l : List Nat), j < l.length → l.getD j 0 ∈ l := fun l h => by
            rw [List.getD_eq_getElem?_getD, List.getElem?_eq_getElem h]
            exact List.getElem_mem _
          have := hm (bytN.getD i []) (by omega)
          have := k2 _ this
          omega
        rw [hc, hA, k5 j q]
        constructor
        · intro z
          refine Or.inl ?_
          have z2 := congrArg Int32.toInt z
          rw [nI_toInt hb, hd.2.2] at z2
          omega
        · intro z
          rcases z with z | z
          · apply T_ext
            rw [nI_toInt hb, hd.2.2]
            omega
          · exact absurd q z.1
      · exact ⟨fun z => Or.inr ⟨q, z⟩, fun z => by
          rcases z with z | z
          · exfalso
            have hm : ∀ (l : List Nat), l.length ≤ j → l.getD j 0 = 0 := fun l h => by
              rw [List.getD_eq_getElem?_getD, List.getElem?_eq_none h]
              rfl
            have := hm (bytN.getD i []) (by omega)
            omega
          · exact z.2⟩
    constructor
    · rintro ⟨q1, q2⟩
      refine ⟨q1.symm, fun j hj => ?_⟩
      rcases (hT j hj).mp (q2 j (by omega)) with z | z
      · exact z
      · exact absurd (by omega) z.1
    · rintro ⟨q1, q2⟩
      exact ⟨q1.symm, fun j hj => (hT j (by omega)).mpr (Or.inl (q2 j (by omega)))⟩
  · have e : wN T s L = -1 := by
      have := wN_9 (T := T) s (L - 9)
      rw [show L - 9 + 9 = L by omega] at this
      exact this
    rw [e]
    constructor
    · rintro ⟨q1, -⟩
      omega
    · intro q
      exfalso
      unfold Lg at k1
      rw [← q] at k1
      have : (-1 : Int64).toInt = -1 := rfl
      omega
theorem rule_eq (hc : ∀ q, cAt c sz q = tA T sz q) {s L : Nat} (hL : ∀ j, j < L → s + j < sz ∧ isL (T (s + j))) (hk : m 11 0 = 2) : (rF c sz s (s + L) 6 0 = none ∧ mRule m (wN T s L) = -1) ∨ ∃ i, i < 6 ∧ rF c sz s (s + L) 6 0 = some i ∧ mRule m (wN T s L) = nI i := by
  have h0 := spl_key hc (i := 0) (by decide) hL
  have h1 := spl_key hc (i := 1) (by decide) hL
  have h2 := spl_key hc (i := 2) (by decide) hL
  have h3 := spl_key hc (i := 3) (by decide) hL
  have h4 := spl_key hc (i := 4) (by decide) hL
  have h5 := spl_key hc (i := 5) (by decide) hL
  have e : rF c sz s (s + L) 6 0 = if splW c sz s (s + L) 0 then some 0 else if splW c sz s (s + L) 1 then some 1 else if splW c sz s (s + L) 2 then some 2 else if splW c sz s (s + L) 3 then some 3 else if splW c sz s (s + L) 4 then some 4 else if splW c sz s (s + L) 5 then some 5 else none := rfl
  rw [e]
  unfold mRule isK
  by_cases q0 : wN T s L = 9135691453
  · rw [if_pos (h0.mpr q0), if_pos ⟨hk, q0⟩]
    exact Or.inr ⟨0, by decide, rfl, rfl⟩
  · rw [if_neg (c := splW c sz s (s + L) 0) (fun z => q0 (h0.mp z)), if_neg (c := m 11 0 = 2 ∧ wN T s L = 9135691453) (fun z => q0 z.2)]
    by_cases q1 : wN T s L = 158523
    · rw [if_pos (h1.mpr q1), if_pos ⟨hk, q1⟩]
      exact Or.inr ⟨1, by decide, rfl, rfl⟩
    · rw [if_neg (c := splW c sz s (s + L) 1) (fun z => q1 (h1.mp z)), if_neg (c := m 11 0 = 2 ∧ wN T s L = 158523) (fun z => q1 z.2)]
      by_cases q2 : wN T s L = 2774
      · rw [if_pos (h2.mpr q2), if_pos ⟨hk, q2⟩]
        exact Or.inr ⟨2, by decide, rfl, rfl⟩
      · rw [if_neg (c := splW c sz s (s + L) 2) (fun z => q2 (h2.mp z)), if_neg (c := m 11 0 = 2 ∧ wN T s L = 2774) (fun z => q2 z.2)]
        by_cases q3 : wN T s L = 361373
        · rw [if_pos (h3.mpr q3), if_pos ⟨hk, q3⟩]
          exact Or.inr ⟨3, by decide, rfl, rfl⟩
        · rw [if_neg (c := splW c sz s (s + L) 3) (fun z => q3 (h3.mp z)), if_neg (c := m 11 0 = 2 ∧ wN T s L = 361373) (fun z => q3 z.2)]
          by_cases q4 : wN T s L = 119163
          · rw [if_pos (h4.mpr q4), if_pos ⟨hk, q4⟩]
            exact Or.inr ⟨4, by decide, rfl, rfl⟩
          · rw [if_neg (c := splW c sz s (s + L) 4) (fun z => q4 (h4.mp z)), if_neg (c := m 11 0 = 2 ∧ wN T s L = 119163) (fun z => q4 z.2)]
            by_cases q5 : wN T s L = 6476969
            · rw [if_pos (h5.mpr q5), if_pos ⟨hk, q5⟩]
              exact Or.inr ⟨5, by decide, rfl, rfl⟩
            · rw [if_neg (c := splW c sz s (s + L) 5) (fun z => q5 (h5.mp z)), if_neg (c := m 11 0 = 2 ∧ wN T s L = 6476969) (fun z => q5 z.2)]
              exact Or.inl ⟨rfl, rfl⟩
theorem num_eq (hc : ∀ q, cAt c sz q = tA T sz q) {s : Nat} (h0 : m 12 0 = 0) : ∀ k, k ≤ 4 → (∀ j, j < k → s + j < sz) → gL m T s k 12 0 = nmb c sz s k
  | 0, _, _ => h0
  | k + 1, hk, h => by
    have ih := num_eq hc h0 k (by omega) (fun j hj => h j (by omega))
    have hA : tA T sz (s + k) = T (s + k) := by unfold tA; rw [if_pos (h k (by omega))]
    rw [gL, nmb, mu_at, if_neg (by omega), if_pos (by omega), mu_at, if_pos ⟨rfl, rfl⟩, ih, hc, hA, Int32.mul_comm]
end WORD

/-! the RULES' text, token by token -/
section TOK
variable {T : Nat → Int32} {sz : Nat} {c : Nat → Nat → Nat → Int32}
theorem rlen_fuel : ∀ (f p : Nat), sz ≤ p + f → rlen T sz (f + 1) p = rlen T sz f p
  | 0, p, h => by
    rw [rlen, rlen, if_neg (fun q => by have := isLD_lt q; omega)]
  | f + 1, p, h => by
    show (if isLD T sz p then rlen T sz (f + 1) (p + 1) + 1 else 0) = (if isLD T sz p then rlen T sz f (p + 1) + 1 else 0)
    rw [rlen_fuel f (p + 1) (by omega)]
theorem rlen_eq (hs : sz ≤ 140) (p : Nat) : rlen T sz 141 p = if isLD T sz p then rlen T sz 141 (p + 1) + 1 else 0 := by
  rw [rlen, rlen_fuel 140 (p + 1) (by omega)]
theorem skc_fuel : ∀ (f p : Nat), sz ≤ p + f → skc T sz (f + 1) p = skc T sz f p
  | 0, p, h => by
    rw [skc, skc, if_neg (fun q => by omega)]
  | f + 1, p, h => by
    show (if p < sz ∧ isBl (T p) then skc T sz (f + 1) (p + 1) + 1 else 0) = (if p < sz ∧ isBl (T p) then skc T sz f (p + 1) + 1 else 0)
    rw [skc_fuel f (p + 1) (by omega)]
theorem skc_eq (hs : sz ≤ 140) (p : Nat) : skc T sz 141 p = if p < sz ∧ isBl (T p) then skc T sz 141 (p + 1) + 1 else 0 := by
  rw [skc, skc_fuel 140 (p + 1) (by omega)]
theorem rlen_all (hs : sz ≤ 140) : ∀ (j p : Nat), j < rlen T sz 141 p → isLD T sz (p + j)
  | 0, p, h => by
    rw [rlen_eq hs] at h
    by_cases q : isLD T sz p
    · exact q
    · rw [if_neg q] at h
      omega
  | j + 1, p, h => by
    rw [rlen_eq hs] at h
    by_cases q : isLD T sz p
    · rw [if_pos q] at h
      have := rlen_all hs j (p + 1) (by omega)
      rw [show p + (j + 1) = p + 1 + j by omega]
      exact this
    · rw [if_neg q] at h
      omega
/-- behind the blanks stands no blank -/
theorem skc_end (hs : sz ≤ 140) : ∀ (f p : Nat), sz ≤ p + f → p + skc T sz 141 p < sz → ¬ isBl (T (p + skc T sz 141 p))
  | 0, p, h, h2 => by omega
  | f + 1, p, h, h2 => by
    rw [skc_eq hs] at h2 ⊢
    by_cases q : p < sz ∧ isBl (T p)
    · rw [if_pos q] at h2 ⊢
      rw [show p + (skc T sz 141 (p + 1) + 1) = p + 1 + skc T sz 141 (p + 1) by omega] at h2 ⊢
      exact skc_end hs f (p + 1) (by omega) h2
    · rw [if_neg q, Nat.add_zero] at h2 ⊢
      exact fun z => q ⟨h2, z⟩
def tA (T : Nat → Int32) (sz q : Nat) : Int32 := if q < sz then T q else -1
theorem wn_LD (q : Nat) : wnP (tA T sz q) ↔ isLD T sz q := by
  unfold tA isLD bA
  by_cases h : q < sz
  · rw [if_pos h, if_pos h]
  · rw [if_neg h, if_neg h]
    exact ⟨fun z => absurd z (by decide), fun z => absurd z (by decide)⟩
theorem tEnd_eq (hs : sz ≤ 140) (hc : ∀ q, cAt c sz q = tA T sz q) : ∀ (k q : Nat), sz ≤ q + k → tEnd c sz k q = q + rlen T sz 141 q
  | 0, q, h => by
    rw [tEnd, rlen_eq hs, if_neg (fun z => by have := isLD_lt z; omega), Nat.add_zero]
  | k + 1, q, h => by
    rw [tEnd, rlen_eq hs, hc q]
    by_cases z : isLD T sz q
    · rw [if_pos ((wn_LD q).mpr z), if_pos z, tEnd_eq hs hc k (q + 1) (by omega)]
      omega
    · rw [if_neg (fun y => z ((wn_LD q).mp y)), if_neg z, Nat.add_zero]
theorem tokE_eq (hs : sz ≤ 140) (hc : ∀ q, cAt c sz q = tA T sz q) (q : Nat) : tokE c sz q = if isLD T sz q then q + rlen T sz 141 q else q + 1 := by
  unfold tokE
  rw [tEnd_eq hs hc (sz - q) q (by omega)]
  have := rlen_eq (T := T) hs q
  by_cases z : isLD T sz q
  · rw [if_pos z] at this
    rw [if_pos z, if_neg (by omega)]
  · rw [if_neg z] at this
    rw [if_neg z, if_pos (by omega)]
theorem kL_all (hc : ∀ q, cAt c sz q = tA T sz q) (p : Nat) : ∀ k, kL c sz p k ≤ k ∧ (kL c sz p k = k ↔ ∀ j, j < k → ltP (tA T sz (p + j)))
  | 0 => ⟨Nat.le_refl _, ⟨fun _ j hj => by omega, fun _ => rfl⟩⟩
  | k + 1 => by
    obtain ⟨h1, h2⟩ := kL_all hc p k
    rw [kL, hc]
    by_cases z : ltP (tA T sz (p + k))
    · rw [if_pos z]
      refine ⟨by omega, ⟨fun q j hj => ?_, fun q => ?_⟩⟩
      · by_cases e : j = k
        · rw [e]; exact z
        · exact h2.mp (by omega) j (by omega)
      · have := h2.mpr (fun j hj => q j (by omega))
        omega
    · rw [if_neg z]
      refine ⟨by omega, ⟨fun q => by omega, fun q => absurd (q k (by omega)) z⟩⟩
theorem kD_all (hc : ∀ q, cAt c sz q = tA T sz q) (p : Nat) : ∀ k, kD c sz p k ≤ k ∧ (kD c sz p k = k ↔ ∀ j, j < k → dgP (tA T sz (p + j)))
  | 0 => ⟨Nat.le_refl _, ⟨fun _ j hj => by omega, fun _ => rfl⟩⟩
  | k + 1 => by
    obtain ⟨h1, h2⟩ := kD_all hc p k
    rw [kD, hc]
    by_cases z : dgP (tA T sz (p + k))
    · rw [if_pos z]
      refine ⟨by omega, ⟨fun q j hj => ?_, fun q => ?_⟩⟩
      · by_cases e : j = k
        · rw [e]; exact z
        · exact h2.mp (by omega) j (by omega)
      · have := h2.mpr (fun j hj => q j (by omega))
        omega
    · rw [if_neg z]
      refine ⟨by omega, ⟨fun q => by omega, fun q => absurd (q k (by omega)) z⟩⟩
theorem gd_iff (s : Nat) (lt : Int32) : ∀ k, ¬ gd T s lt k = 0 ↔ ∀ j, j < k → bI (isL (T (s + j))) = lt
  | 0 => ⟨fun _ j hj => by omega, fun _ => by rw [gd]; decide⟩
  | k + 1 => by
    have ih := gd_iff s lt k
    rw [gd]
    by_cases z : gd T s lt k = 0
    · rw [if_pos z]
      exact ⟨fun q => absurd rfl q, fun q => absurd z (ih.mpr (fun j hj => q j (by omega)))⟩
    · rw [if_neg z]
      have h := ih.mp z
      by_cases y : bI (isL (T (s + k))) = lt
      · rw [if_pos y]
        refine ⟨fun _ j hj => ?_, fun _ => by decide⟩
        by_cases e : j = k
        · rw [e]; exact y
        · exact h j (by omega)
      · rw [if_neg y]
        exact ⟨fun q => absurd rfl q, fun q => absurd (q k (by omega)) y⟩
/-- the kind of the token at s, in the second world's words -/
def rK (T : Nat → Int32) (sz s : Nat) : Int32 := if ¬ isL (T s) ∧ ¬ isDg (T s) then (if T s = 59 then 4 else 1) else kd (bI (isL (T s))) (gd T s (bI (isL (T s))) (rlen T sz 141 s)) (rlen T sz 141 s)
theorem LD_at {s : Nat} (h : s < sz) : isLD T sz s ↔ isL (T s) ∨ isDg (T s) := by
  unfold isLD bA
  rw [if_pos h]
theorem kd_2 {lt g : Int32} {k : Nat} (hl : lt = 0 ∨ lt = 1) : kd lt g k = 2 ↔ lt = 1 ∧ ¬ g = 0 := by
  unfold kd
  rcases hl with rfl | rfl
  · by_cases q : g = 0 ∨ ((0 : Int32) = 0 ∧ 4 < k)
    · rw [if_pos q]
      exact ⟨fun z => absurd z (by decide), fun z => absurd z.1 (by decide)⟩
    · rw [if_neg q, if_pos rfl]
      exact ⟨fun z => absurd z (by decide), fun z => absurd z.1 (by decide)⟩
  · by_cases q : g = 0 ∨ ((1 : Int32) = 0 ∧ 4 < k)
    · rw [if_pos q]
      refine ⟨fun z => absurd z (by decide), fun z => ?_⟩
      rcases q with q | q
      · exact absurd q z.2
      · exact absurd q.1 (by decide)
    · rw [if_neg q, if_neg (by decide)]
      exact ⟨fun _ => ⟨rfl, fun z => q (Or.inl z)⟩, fun _ => rfl⟩
theorem kd_3 {lt g : Int32} {k : Nat} (hl : lt = 0 ∨ lt = 1) : kd lt g k = 3 ↔ lt = 0 ∧ ¬ g = 0 ∧ k ≤ 4 := by
  unfold kd
  rcases hl with rfl | rfl
  · by_cases q : g = 0 ∨ ((0 : Int32) = 0 ∧ 4 < k)
    · rw [if_pos q]
      refine ⟨fun z => absurd z (by decide), fun z => ?_⟩
      rcases q with q | q
      · exact absurd q z.2.1
      · omega
    · rw [if_neg q, if_pos rfl]
      exact ⟨fun _ => ⟨rfl, fun z => q (Or.inl z), by
        have : ¬ 4 < k := fun z => q (Or.inr ⟨rfl, z⟩)
        omega⟩, fun _ => rfl⟩
  · by_cases q : g = 0 ∨ ((1 : Int32) = 0 ∧ 4 < k)
    · rw [if_pos q]
      exact ⟨fun z => absurd z (by decide), fun z => absurd z.1 (by decide)⟩
    · rw [if_neg q, if_neg (by decide)]
      exact ⟨fun z => absurd z (by decide), fun z => absurd z.1 (by decide)⟩
theorem kd_4 {lt g : Int32} {k : Nat} : ¬ kd lt g k = 4 ∧ ¬ kd lt g k = 0 := by
  unfold kd
  split
  · decide
  · split <;> decide
theorem bI_01 {p : Prop} [Decidable p] : bI p = 0 ∨ bI p = 1 := by
  unfold bI
  split
  · exact Or.inr rfl
  · exact Or.inl rfl
theorem L_not_D {x : Int32} (h : isL x) : ¬ isDg x := fun q => by
  have h1 := h.1
  have h2 := q.2
  rw [T_le] at h1 h2
  have t1 : (97 : Int32).toInt = 97 := rfl
  have t2 : (57 : Int32).toInt = 57 := rfl
  omega
/-- the same token, the same kind -/
theorem tok_kind (hs : sz ≤ 140) (hc : ∀ q, cAt c sz q = tA T sz q) {s : Nat} (h : s < sz) : (tokK c sz s (tokE c sz s) = 1 ↔ rK T sz s = 2) ∧ (tokK c sz s (tokE c sz s) = 2 ↔ rK T sz s = 3) ∧ (tokK c sz s (tokE c sz s) = 3 ↔ rK T sz s = 4) ∧ ¬ rK T sz s = 0 := by
  have hA : tA T sz s = T s := by unfold tA; rw [if_pos h]
  unfold tokK rK
  rw [tokE_eq hs hc]
  by_cases z : isLD T sz s
  · have z2 := (LD_at h).mp z
    have hn : ¬ (¬ isL (T s) ∧ ¬ isDg (T s)) := fun q => z2.elim q.1 q.2
    rw [if_pos z, if_neg hn, Nat.add_sub_cancel_left]
    have hL := rlen_eq (T := T) hs s
    rw [if_pos z] at hL
    have hall : ∀ j, j < rlen T sz 141 s → s + j < sz ∧ (isL (T (s + j)) ∨ isDg (T (s + j))) := fun j hj => by
      have q := rlen_all hs j s hj
      have q2 := isLD_lt q
      exact ⟨q2, (LD_at q2).mp q⟩
    have hAj : ∀ j, j < rlen T sz 141 s → tA T sz (s + j) = T (s + j) := fun j hj => by
      unfold tA
      rw [if_pos (hall j hj).1]
    have e1 : kL c sz s (rlen T sz 141 s) = rlen T sz 141 s ↔ ∀ j, j < rlen T sz 141 s → isL (T (s + j)) := by
      rw [(kL_all hc s _).2]
      exact ⟨fun q j hj => by rw [← hAj j hj]; exact q j hj, fun q j hj => by rw [hAj j hj]; exact q j hj⟩
    have e2 : kD c sz s (rlen T sz 141 s) = rlen T sz 141 s ↔ ∀ j, j < rlen T sz 141 s → isDg (T (s + j)) := by
      rw [(kD_all hc s _).2]
      exact ⟨fun q j hj => by rw [← hAj j hj]; exact q j hj, fun q j hj => by rw [hAj j hj]; exact q j hj⟩
    have n59 : ¬ cAt c sz s = 59 := by
      rw [hc, hA]
      intro q
      rw [q] at z2
      exact absurd z2 (by decide)
    have g := gd_iff (T := T) s (bI (isL (T s))) (rlen T sz 141 s)
    rw [kd_2 bI_01, kd_3 bI_01, if_neg n59]
    by_cases l0 : isL (T s)
    · have b1 : bI (isL (T s)) = 1 := (bI_t l0).symm
      rw [b1] at g ⊢
      have hk : kL c sz s (rlen T sz 141 s) = rlen T sz 141 s ↔ ¬ gd T s 1 (rlen T sz 141 s) = 0 := by
        rw [e1, g]
        exact ⟨fun q j hj => (bI_t (q j hj)).symm, fun q j hj => by
          have := q j hj
          by_cases y : isL (T (s + j))
          · exact y
          · rw [← bI_f y] at this
            exact absurd this (by decide)⟩
      have hd : ¬ kD c sz s (rlen T sz 141 s) = rlen T sz 141 s := fun q => by
        have := e2.mp q 0 (by omega)
        exact L_not_D l0 this
      refine ⟨?_, ?_, ?_, kd_4.2⟩
      · by_cases y : kL c sz s (rlen T sz 141 s) = rlen T sz 141 s
        · rw [if_pos y]
          exact ⟨fun _ => ⟨rfl, hk.mp y⟩, fun _ => rfl⟩
        · rw [if_neg y, if_neg (fun q => hd q.1)]
          exact ⟨fun q => absurd q (by decide), fun q => absurd (hk.mpr q.2) y⟩
      · rw [if_neg (c := kD c sz s (rlen T sz 141 s) = rlen T sz 141 s ∧ kD c sz s (rlen T sz 141 s) ≤ 4) (fun q => hd q.1)]
        refine ⟨fun q => ?_, fun q => absurd q.1 (by decide)⟩
        split at q <;> exact absurd q (by decide)
      · rw [if_neg (c := kD c sz s (rlen T sz 141 s) = rlen T sz 141 s ∧ kD c sz s (rlen T sz 141 s) ≤ 4) (fun q => hd q.1)]
        refine ⟨fun q => ?_, fun q => absurd q kd_4.1⟩
        split at q <;> exact absurd q (by decide)
    · have b1 : bI (isL (T s)) = 0 := (bI_f l0).symm
      rw [b1] at g ⊢
      have hl : ¬ kL c sz s (rlen T sz 141 s) = rlen T sz 141 s := fun q => l0 (e1.mp q 0 (by omega))
      have hk : kD c sz s (rlen T sz 141 s) = rlen T sz 141 s ↔ ¬ gd T s 0 (rlen T sz 141 s) = 0 := by
        rw [e2, g]
        exact ⟨fun q j hj => (bI_f (fun y => L_not_D y (q j hj))).symm, fun q j hj => by
          have := q j hj
          rcases (hall j hj).2 with y | y
          · rw [← bI_t y] at this
            exact absurd this (by decide)
          · exact y⟩
      rw [if_neg hl]
      refine ⟨?_, ?_, ?_, kd_4.2⟩
      · refine ⟨fun q => ?_, fun q => absurd q.1 (by decide)⟩
        split at q <;> exact absurd q (by decide)
      · by_cases y : kD c sz s (rlen T sz 141 s) = rlen T sz 141 s ∧ kD c sz s (rlen T sz 141 s) ≤ 4
        · rw [if_pos y]
          exact ⟨fun _ => ⟨rfl, hk.mp y.1, by omega⟩, fun _ => rfl⟩
        · rw [if_neg y]
          exact ⟨fun q => absurd q (by decide), fun q => absurd ⟨hk.mpr q.2.1, by have := hk.mpr q.2.1; omega⟩ y⟩
      · refine ⟨fun q => ?_, fun q => absurd q kd_4.1⟩
        split at q <;> exact absurd q (by decide)
  · have z2 : ¬ isL (T s) ∧ ¬ isDg (T s) := ⟨fun q => z ((LD_at h).mpr (Or.inl q)), fun q => z ((LD_at h).mpr (Or.inr q))⟩
    rw [if_neg z, if_pos z2, Nat.add_sub_cancel_left]
    have e1 : ¬ kL c sz s 1 = 1 := fun q => by
      have := (kL_all hc s 1).2.mp q 0 (by omega)
      rw [Nat.add_zero, hA] at this
      exact z2.1 this
    have e2 : ¬ kD c sz s 1 = 1 := fun q => by
      have := (kD_all hc s 1).2.mp q 0 (by omega)
      rw [Nat.add_zero, hA] at this
      exact z2.2 this
    rw [if_neg e1, if_neg (fun q => e2 q.1), hc, hA]
    by_cases y : T s = 59
    · rw [if_pos y, if_pos y]
      decide
    · rw [if_neg y, if_neg y]
      decide
end TOK

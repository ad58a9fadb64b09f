section GO
variable {T : Nat → Int32} {sz : Nat} {c c' : Nat → Nat → Nat → Int32} {m : Nat → Nat → Int32} {w : Int64} {op : Option Nat} {p : Nat}
theorem zRd_out {tp stop : Nat} : ∀ (f q : Nat) (op : Option Nat) (c : Nat → Nat → Nat → Int32), (stop ≤ q ∨ ¬ c 3 0 5 = 0) → zRd tp stop f q op c = (op, c)
  | 0, _, _, _, _ => rfl
  | f + 1, q, op, c, h => by
    rw [zRd, if_neg (fun z => h.elim (fun y => by omega) (fun y => y z.2))]
theorem nxt_gt (c : Nat → Nat → Nat → Int32) (tp q : Nat) : q + 1 ≤ nxt c tp q := by
  unfold nxt
  split <;> omega
theorem zRd_fuel {tp stop : Nat} : ∀ (f q : Nat) (op : Option Nat) (c : Nat → Nat → Nat → Int32), stop ≤ q + f → zRd tp stop (f + 1) q op c = zRd tp stop f q op c
  | 0, q, op, c, h => by rw [zRd_out 1 q op c (Or.inl (by omega)), zRd_out 0 q op c (Or.inl (by omega))]
  | f + 1, q, op, c, h => by
    show (if q < stop ∧ c 3 0 5 = 0 then (if cAt c tp q = 32 ∨ cAt c tp q = 10 then zRd tp stop (f + 1) (nxt c tp q) op c else zRd tp stop (f + 1) (nxt (zTT op c tp q (tokE c tp q)).2 tp q) (zTT op c tp q (tokE c tp q)).1 (zTT op c tp q (tokE c tp q)).2) else (op, c)) = (if q < stop ∧ c 3 0 5 = 0 then (if cAt c tp q = 32 ∨ cAt c tp q = 10 then zRd tp stop f (nxt c tp q) op c else zRd tp stop f (nxt (zTT op c tp q (tokE c tp q)).2 tp q) (zTT op c tp q (tokE c tp q)).1 (zTT op c tp q (tokE c tp q)).2) else (op, c))
    have h1 := nxt_gt c tp q
    have h2 := nxt_gt (zTT op c tp q (tokE c tp q)).2 tp q
    rw [zRd_fuel f (nxt c tp q) op c (by omega), zRd_fuel f (nxt (zTT op c tp q (tokE c tp q)).2 tp q) _ _ (by omega)]
theorem zRd_ge {tp stop : Nat} {q : Nat} {op : Option Nat} {c : Nat → Nat → Nat → Int32} (f : Nat) (h : stop ≤ q + f) : zRd tp stop f q op c = zRd tp stop (stop - q) q op c := by
  have k : ∀ d, zRd tp stop (stop - q + d) q op c = zRd tp stop (stop - q) q op c := by
    intro d
    induction d with
    | zero => rfl
    | succ d ih => rw [← ih]; exact zRd_fuel (stop - q + d) q op c (by omega)
  have e := k (f - (stop - q))
  rw [show stop - q + (f - (stop - q)) = f by omega] at e
  exact e
def zz (tp q : Nat) (op : Option Nat) (c : Nat → Nat → Nat → Int32) : Option Nat × (Nat → Nat → Nat → Int32) := zRd tp (stp tp) (stp tp - q) q op c
theorem zz_out {tp q : Nat} (h : stp tp ≤ q ∨ ¬ c 3 0 5 = 0) : zz tp q op c = (op, c) := zRd_out _ q op c h
theorem zz_step {tp q : Nat} (h : q < stp tp) (h0 : c 3 0 5 = 0) : zz tp q op c = if cAt c tp q = 32 ∨ cAt c tp q = 10 then zz tp (nxt c tp q) op c else zz tp (nxt (zTT op c tp q (tokE c tp q)).2 tp q) (zTT op c tp q (tokE c tp q)).1 (zTT op c tp q (tokE c tp q)).2 := by
  unfold zz
  have h1 := nxt_gt c tp q
  have h2 := nxt_gt (zTT op c tp q (tokE c tp q)).2 tp q
  rw [show stp tp - q = (stp tp - q - 1) + 1 by omega, zRd, if_pos ⟨h, h0⟩, zRd_ge (q := nxt c tp q) (stp tp - q - 1) (by omega), zRd_ge (q := nxt (zTT op c tp q (tokE c tp q)).2 tp q) (stp tp - q - 1) (by omega)]
theorem stp_le (tp : Nat) : stp tp ≤ tp ∧ stp tp ≤ 120 := by
  unfold stp
  split <;> omega
theorem blank_n {s : Nat} (hs : sz ≤ 140) (hc : ∀ q, cAt c sz q = tA T sz q) (h : s < sz) (hb : isBl (T s)) : nxt c sz s = s + 1 := by
  have hA : ¬ isLD T sz s := fun z => by
    have z2 := (LD_at h).mp z
    rcases hb with q | q <;> rw [q] at z2 <;> exact absurd z2 (by decide)
  unfold nxt
  rw [tokE_eq hs hc, if_neg hA, if_neg (by omega)]
/-- over the blanks -/
theorem zz_skip (hs : sz ≤ 140) (hc : ∀ q, cAt c sz q = tA T sz q) (h0 : c 3 0 5 = 0) : ∀ (f p : Nat), sz ≤ p + f → zz sz p op c = zz sz (p + skc T sz 141 p) op c
  | 0, p, h => by
    rw [skc_eq hs, if_neg (by omega), Nat.add_zero]
  | f + 1, p, h => by
    rw [skc_eq hs]
    by_cases q : p < sz ∧ isBl (T p)
    · rw [if_pos q, show p + (skc T sz 141 (p + 1) + 1) = p + 1 + skc T sz 141 (p + 1) by omega, ← zz_skip hs hc h0 f (p + 1) (by omega)]
      by_cases z : p < stp sz
      · have hA : tA T sz p = T p := by unfold tA; rw [if_pos q.1]
        rw [zz_step z h0, if_pos (by rw [hc, hA]; exact q.2), blank_n hs hc q.1 q.2]
      · rw [zz_out (Or.inl (by omega)), zz_out (Or.inl (by omega))]
    · rw [if_neg q, Nat.add_zero]
/-- the end of the text, or its hundred-and-twentieth sign -/
theorem at_end (hs : sz ≤ 140) (hp : p ≤ sz) (hc : ∀ q, cAt c sz q = tA T sz q) (hT : m 1 = T) (h0 : c 3 0 5 = 0) (h : (120 < sz ∧ 120 ≤ p + skc T sz 141 p) ∨ sz ≤ p + skc T sz 141 p) : zz sz p op c = (op, c) ∧ (sGo m w sz p).1 10 0 = nI (stp sz) ∧ ((sGo m w sz p).1 11 0 = if 120 < sz then 1 else 0) ∧ (sGo m w sz p).2 = w := by
  have hle := skc_le T sz 141 p hp
  refine ⟨?_, ?_⟩
  · rw [zz_skip hs hc h0 sz p (by omega), zz_out (Or.inl ?_)]
    have := stp_le sz
    unfold stp at this ⊢
    rcases h with q | q
    · rw [if_pos q.1]; exact q.2
    · split <;> omega
  · unfold sGo
    rw [hT]
    dsimp only
    by_cases q : 120 < sz ∧ 120 ≤ p + skc T sz 141 p
    · rw [if_pos q]
      unfold stp
      rw [if_pos q.1, if_pos q.1]
      refine ⟨?_, ?_, rfl⟩
      · dsimp only
        rw [mu_at, if_neg (by omega), mu_at, if_pos ⟨rfl, rfl⟩]
        rfl
      · dsimp only
        rw [mu_at, if_pos ⟨rfl, rfl⟩]
    · have h2 : sz ≤ p + skc T sz 141 p := h.resolve_left q
      have h3 : ¬ 120 < sz := fun z => q ⟨z, by omega⟩
      rw [if_neg q, if_pos h2]
      unfold stp
      rw [if_neg h3, if_neg h3]
      refine ⟨?_, ?_, rfl⟩
      · unfold goA
        dsimp only
        rw [mu_at, if_neg (by omega), mu_at, if_pos ⟨rfl, rfl⟩]
        congr 1
        omega
      · dsimp only
        rw [mu_at, if_pos ⟨rfl, rfl⟩]
/-- a token -/
theorem at_tok (hs : sz ≤ 140) (hp : p ≤ sz) (hc : ∀ q, cAt c sz q = tA T sz q) (hT : m 1 = T) (h0 : c 3 0 5 = 0) (h : ¬ ((120 < sz ∧ 120 ≤ p + skc T sz 141 p) ∨ sz ≤ p + skc T sz 141 p)) : p + skc T sz 141 p < sz ∧ p + skc T sz 141 p < stp sz ∧ goTo m sz p = tokE c sz (p + skc T sz 141 p) ∧ (sGo m w sz p).1 10 0 = nI (p + skc T sz 141 p) ∧ (sGo m w sz p).1 11 0 = rK T sz (p + skc T sz 141 p) ∧ (rK T sz (p + skc T sz 141 p) = 2 → (sGo m w sz p).2 = wN T (p + skc T sz 141 p) (rlen T sz 141 (p + skc T sz 141 p)) ∧ tokE c sz (p + skc T sz 141 p) = p + skc T sz 141 p + rlen T sz 141 (p + skc T sz 141 p)) ∧ (rK T sz (p + skc T sz 141 p) = 3 → (sGo m w sz p).1 12 0 = nmb c sz (p + skc T sz 141 p) (tokE c sz (p + skc T sz 141 p) - (p + skc T sz 141 p))) ∧ (zz sz p op c = zz sz (tokE c sz (p + skc T sz 141 p)) (zTT op c sz (p + skc T sz 141 p) (tokE c sz (p + skc T sz 141 p))).1 (zTT op c sz (p + skc T sz 141 p) (tokE c sz (p + skc T sz 141 p))).2 ∨ ¬ (∀ q, cAt (zTT op c sz (p + skc T sz 141 p) (tokE c sz (p + skc T sz 141 p))).2 sz q = tA T sz q)) := by
  have hle := skc_le T sz 141 p hp
  have hend := skc_end (T := T) hs sz p (by omega)
  have hskip := zz_skip (op := op) hs hc h0 sz p (by omega)
  generalize hsq : p + skc T sz 141 p = s at *
  have hlt : s < sz := by omega
  have hst : s < stp sz := by
    unfold stp
    split <;> omega
  have hA : tA T sz s = T s := by unfold tA; rw [if_pos hlt]
  have hn1 : ¬ (120 < sz ∧ 120 ≤ s) := fun q => h (Or.inl q)
  have hn2 : ¬ sz ≤ s := fun q => h (Or.inr q)
  have hte := tokE_eq hs hc s
  have hgo : goTo m sz p = tokE c sz s := by
    unfold goTo
    rw [hT]
    dsimp only
    rw [hsq, if_neg h, hte]
    by_cases q : isLD T sz s
    · rw [if_pos q, if_neg (fun z => ((LD_at hlt).mp q).elim z.1 z.2)]
    · rw [if_neg q, if_pos ⟨fun z => q ((LD_at hlt).mpr (Or.inl z)), fun z => q ((LD_at hlt).mpr (Or.inr z))⟩]
  refine ⟨hlt, hst, hgo, ?_⟩
  have hzz : zz sz p op c = zz sz (tokE c sz s) (zTT op c sz s (tokE c sz s)).1 (zTT op c sz s (tokE c sz s)).2 ∨ ¬ (∀ q, cAt (zTT op c sz s (tokE c sz s)).2 sz q = tA T sz q) := by
    by_cases hc2 : ∀ q, cAt (zTT op c sz s (tokE c sz s)).2 sz q = tA T sz q
    · left
      have hnx : nxt (zTT op c sz s (tokE c sz s)).2 sz s = tokE c sz s := by
        unfold nxt
        rw [tokE_eq hs hc2, hte]
        have := rlen_eq (T := T) hs s
        by_cases q : isLD T sz s
        · rw [if_pos q] at this ⊢
          split <;> omega
        · rw [if_neg q] at this ⊢
          split <;> omega
      rw [hskip, zz_step hst h0, if_neg (by rw [hc, hA]; exact hend hlt), hnx]
    · exact Or.inr hc2
  by_cases hw : ¬ isL (T s) ∧ ¬ isDg (T s)
  · have hr : rK T sz s = if T s = 59 then 4 else 1 := by unfold rK; rw [if_pos hw]
    have hgo2 : sGo m w sz p = (mu (mu (goA m p (skc T sz 141 p)) 11 0 (if T s = 59 then 4 else 1)) 9 0 (nI (s + 1)), w) := by
      unfold sGo
      rw [hT]
      dsimp only
      rw [hsq, if_neg hn1, if_neg hn2, if_pos hw]
    refine ⟨?_, ?_, fun q => ?_, fun q => ?_, hzz⟩
    · rw [hgo2]
      unfold goA
      dsimp only
      rw [mu_at, if_neg (by omega), mu_at, if_neg (by omega), mu_at, if_pos ⟨rfl, rfl⟩, hsq]
    · rw [hgo2, hr]
      dsimp only
      rw [mu_at, if_neg (by omega), mu_at, if_pos ⟨rfl, rfl⟩]
    · rw [hr] at q
      split at q <;> exact absurd q (by decide)
    · rw [hr] at q
      split at q <;> exact absurd q (by decide)
  · have hld : isLD T sz s := by
      refine (LD_at hlt).mpr ?_
      by_cases z : isL (T s)
      · exact Or.inl z
      · refine Or.inr (Classical.byContradiction (fun y => hw ⟨z, y⟩))
    have hr : rK T sz s = kd (bI (isL (T s))) (gd T s (bI (isL (T s))) (rlen T sz 141 s)) (rlen T sz 141 s) := by unfold rK; rw [if_neg hw]
    have hgo2 : sGo m w sz p = (mu (gL (mu (goA m p (skc T sz 141 p)) 12 0 0) T s (rlen T sz 141 s)) 11 0 (kd (bI (isL (T s))) (gd T s (bI (isL (T s))) (rlen T sz 141 s)) (rlen T sz 141 s)), wN T s (rlen T sz 141 s)) := by
      unfold sGo goL
      rw [hT]
      dsimp only
      rw [hsq, if_neg hn1, if_neg hn2, if_neg hw]
    rw [if_pos hld] at hte
    refine ⟨?_, ?_, fun q => ⟨?_, hte⟩, fun q => ?_, hzz⟩
    · rw [hgo2]
      dsimp only
      rw [mu_at, if_neg (by omega), gL_r _ T s (by decide) (by decide), mu_at, if_neg (by omega)]
      unfold goA
      rw [mu_at, if_pos ⟨rfl, rfl⟩, hsq]
    · rw [hgo2, hr]
      dsimp only
      rw [mu_at, if_pos ⟨rfl, rfl⟩]
    · rw [hgo2]
    · rw [hgo2, hte, Nat.add_sub_cancel_left]
      rw [hr, kd_3 bI_01] at q
      dsimp only
      rw [mu_at, if_neg (by omega)]
      exact num_eq hc (by rw [mu_at, if_pos ⟨rfl, rfl⟩]) _ q.2.2 (fun j hj => isLD_lt (rlen_all hs j s hj))
end GO

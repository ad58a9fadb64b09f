section SIM2
variable {T : Nat → Int32} {sz : Nat}
theorem goR3 : goRow 3 := ⟨by decide, by decide, by decide, by decide⟩
theorem mRow_go {a : Nat} (h : mRow a) : goRow a ∧ a ≠ 7 ∧ a ≠ 13 ∧ a ≠ 14 ∧ a ≠ 15 ∧ a ≠ 3 := ⟨⟨h.2.2.1, h.2.2.2.1, h.2.2.2.2.1, h.2.2.2.2.2.1⟩, h.2.1, h.2.2.2.2.2.2.1, h.2.2.2.2.2.2.2.1, h.2.2.2.2.2.2.2.2, h.1⟩
theorem tokE_gt (c : Nat → Nat → Nat → Int32) (tp q : Nat) : q + 1 ≤ tokE c tp q := by
  unfold tokE
  split <;> omega
theorem nI_no (i : Nat) (h : i < 6) : ¬ nI i = -1 := fun q => by
  have q2 := congrArg Int32.toInt q
  rw [nI_toInt (by omega)] at q2
  have : (-1 : Int32).toInt = -1 := rfl
  omega
set_option maxHeartbeats 2000000 in
/-- both readers come to the same -/
theorem sim (hs : sz ≤ 140) : ∀ (f p n : Nat) (op : Option Nat) (c : Nat → Nat → Nat → Int32) (m : Nat → Nat → Int32) (w : Int64), 141 ≤ p + f → p ≤ sz → (∀ q, cAt c sz q = tA T sz q) → m 1 = T → (∀ i, i < 6 → m 5 i = loR i ∧ m 6 i = hiR i) → R4 c m → c 3 0 3 = 1 → c 3 0 5 = 0 → m 13 0 = 0 → SR c m n → rLpE sz (f + 1) (sGo m w sz p).1 (sGo m w sz p).2 (goTo m sz p) ∧ FOut c m (zE sz p op c) (rLp sz (f + 1) (sGo m w sz p).1 (sGo m w sz p).2 (goTo m sz p) n) := by
  intro f
  induction f with
  | zero => intro p n op c m w h1 h2; omega
  | succ f ih =>
    intro p n op c m w hpf hp hc hT hlh h4 ha h0 h13 hSR
    obtain ⟨hn, kb, hkb, h15, hTR⟩ := hSR
    have r1 : ∀ a, goRow a → (sGo m w sz p).1 a = m a := fun a h => sGo_r m w sz p h
    have g1 := goTo_le m sz p hp
    generalize hm1 : (sGo m w sz p).1 = m1 at *
    generalize hw1 : (sGo m w sz p).2 = w1 at *
    have hT1 : m1 1 = T := by rw [r1 1 ⟨by decide, by decide, by decide, by decide⟩, hT]
    by_cases hend : (120 < sz ∧ 120 ≤ p + skc T sz 141 p) ∨ sz ≤ p + skc T sz 141 p
    · obtain ⟨e1, e2, e3, e4⟩ := at_end (op := op) (w := w) hs hp hc hT h0 hend
      rw [hm1] at e2 e3
      by_cases h120 : 120 < sz
      · rw [if_pos h120] at e3
        have hmr : mRule m1 w1 = -1 := by
          unfold mRule isK
          rw [e3]
          simp
        have hrr : sRR m1 w1 sz (goTo m sz p) = (0, sBad m1 1, w1) := by
          unfold sRR
          rw [if_pos hmr]
        have h11 : ¬ m1 11 0 = 0 := by rw [e3]; decide
        refine ⟨Or.inr (Or.inl (by rw [hrr])), ?_⟩
        rw [zE_end e1 h0 (Or.inr h120), rLp, if_neg h11, hrr, if_pos rfl]
        exact FO_bad h4 (fun a _ _ => rfl) (fun a _ hg _ => r1 a hg) (by rw [e3]; rfl) e2
      · rw [if_neg h120] at e3
        refine ⟨Or.inl e3, ?_⟩
        have hzE : zE sz p op c = (cPf c 6 3 0 2, op, cPf c 6) := by
          unfold zE
          rw [e1]
          dsimp only
          unfold zFt
          rw [if_neg (fun z => z.2.elim (fun y => y ha) (fun y => h120 y))]
          unfold zFin
          rw [if_pos h0]
        rw [hzE, rLp, if_pos e3]
        refine ⟨?_, ?_, fun j hj => ?_, fun a q1 q2 q3 => ?_, fun a hq => ?_⟩
        · show cPf c 6 3 0 2 = nI n
          rw [cPf_at c 6 (by decide), if_neg (by omega), hn]
        · show cPf c 6 3 0 5 = mF7 m1 6 13 0
          rw [cPf_at c 6 (by decide), if_neg (by omega), h0, mF7_at, if_neg (by omega), r1 13 ⟨by decide, by decide, by decide, by decide⟩, h13]
        · show cPf c 6 4 0 j = mF7 m1 6 3 j ∧ loR j ≤ mF7 m1 6 3 j ∧ mF7 m1 6 3 j ≤ hiR j
          have e7 : mF7 m1 6 3 j = m 7 j := by rw [mF7_at, if_pos ⟨rfl, hj⟩, r1 7 ⟨by decide, by decide, by decide, by decide⟩]
          rw [cPf_at c 6 (by decide), if_pos ⟨rfl, rfl, hj⟩, e7]
          rcases hTR j hj with ⟨q1, -, q3⟩ | ⟨q1, -, q3, q4, q5⟩
          · rw [if_pos q1, q3]
            exact ⟨rfl, (un_b j hj).1, (un_b j hj).2.1⟩
          · rw [if_neg q1, q3]
            exact ⟨rfl, q4, q5⟩
        · show cPf c 6 a = c a
          funext i j
          rw [cPf_at c 6 (by decide), if_neg (fun z => q2 z.1)]
        · show mF7 m1 6 a = m a
          obtain ⟨q1, q2, q3, q4, q5, q6⟩ := mRow_go hq
          funext j
          rw [mF7_at, if_neg (fun z => q6 z.1), r1 a q1]
    · obtain ⟨t1, t2, t3, t4, t5, t6, -, t8⟩ := at_tok (op := op) (w := w) hs hp hc hT h0 hend
      rw [hm1] at t4 t5
      rw [hw1] at t6
      have hps : p ≤ p + skc T sz 141 p := Nat.le_add_right _ _
      generalize hS : p + skc T sz 141 p = s at *
      obtain ⟨kk1, kk2, kk3, kk0⟩ := tok_kind hs hc t1
      have hgt := tokE_gt c sz s
      have h11 : ¬ m1 11 0 = 0 := by rw [t5]; exact kk0
      -- the row of faults that a word brings
      by_cases hk2 : rK T sz s = 2
      · have hk := kk1.mpr hk2
        obtain ⟨u1, u2⟩ := t6 hk2
        have hall := rK2_all hs t1 hk2
        have htt : zTT op c sz s (tokE c sz s) = zTW c sz s (tokE c sz s) := by
          unfold zTT
          rw [hk, ha, if_pos rfl, if_pos rfl]
        rcases rule_eq (m := m1) hc hall (by rw [t5]; exact hk2) with ⟨v1, v2⟩ | ⟨i, hi, v1, v2⟩
        · rw [← u1] at v2
          have htw : zTW c sz s (tokE c sz s) = (none, cFt c 1 s) := by
            unfold zTW
            rw [u2, v1]
          have hrr : sRR m1 w1 sz (goTo m sz p) = (0, sBad m1 1, w1) := by
            unfold sRR
            rw [if_pos v2]
          have hzz : zz sz p op c = (none, cFt c 1 s) := by
            rcases t8 with q | q
            · rw [q, htt, htw, zz_out (Or.inr (fun y => absurd (cFt_5.symm.trans y) (by decide)))]
            · exact absurd (fun z => by rw [htt, htw, cAt_r (cFt_r (by decide))]; exact hc z) q
          refine ⟨Or.inr (Or.inl (by rw [hrr])), ?_⟩
          rw [zE_bad hzz (by decide), rLp, if_neg h11, hrr, if_pos rfl]
          exact FO_bad h4 (fun a _ _ => rfl) (fun a _ hg _ => r1 a hg) (by split <;> rfl) t4
        · rw [← u1] at v2
          have hmn : ¬ mRule m1 w1 = -1 := by rw [v2]; exact nI_no i hi
          have m15 : m1 15 0 = m 15 0 := by rw [r1 15 ⟨by decide, by decide, by decide, by decide⟩]
          rcases hTR i hi with ⟨q1, q2, q3⟩ | ⟨q1, q2, q3, q4, q5⟩
          · -- not told yet: a number must come
            have htw : zTW c sz s (tokE c sz s) = (some i, cu c 3 0 3 2) := by
              unfold zTW
              rw [u2, v1]
              dsimp only
              rw [if_pos q1]
            have hc1 : ∀ q, cAt (cu c 3 0 3 2) sz q = tA T sz q := fun q => by rw [cAt_r (cu_rw (by decide))]; exact hc q
            have hzz : zz sz p op c = zz sz (tokE c sz s) (some i) (cu c 3 0 3 2) := by
              rcases t8 with q | q
              · rw [q, htt, htw]
              · exact absurd (fun z => by rw [htt, htw]; exact hc1 z) q
            have c1r : ∀ a, a ≠ 3 → a ≠ 5 → cu c 3 0 3 2 a = c a := fun a z _ => cu_rw z
            have c13 : cu c 3 0 3 2 3 0 3 = 2 := by rw [cu_at, if_pos ⟨rfl, rfl, rfl⟩]
            have c15 : cu c 3 0 3 2 3 0 5 = 0 := by rw [cu_at, if_neg (by omega)]; exact h0
            have c12 : cu c 3 0 3 2 3 0 2 = nI n := by rw [cu_at, if_neg (by omega)]; exact hn
            have c1t : cu c 3 0 3 2 5 = c 5 := cu_rw (by decide)
            generalize hC1 : cu c 3 0 3 2 = C1 at *
            have hzE1 : zE sz p op c = zE sz (tokE c sz s) (some i) C1 := by
              unfold zE
              rw [hzz]
            rw [hzE1]
            rw [← t3] at *
            generalize hP1 : goTo m sz p = p1 at *
            have r2 : ∀ a, goRow a → (sGo m1 w1 sz p1).1 a = m1 a := fun a h => sGo_r m1 w1 sz p1 h
            have g2 := goTo_le m1 sz p1 g1
            have hbit : ¬ (m1 15 0 >>> (mRule m1 w1 &&& 31) &&& 1 = 1) := by rw [v2, m15]; exact q2
            have htn : tn (mRule m1 w1) = i := by rw [v2]; exact tn_nI (by omega)
            have hrr0 : sRR m1 w1 sz p1 = (if ¬ (sGo m1 w1 sz p1).1 11 0 = 3 then (0, sBad (sGo m1 w1 sz p1).1 1, (sGo m1 w1 sz p1).2)
                else if (sGo m1 w1 sz p1).1 12 0 < (sGo m1 w1 sz p1).1 5 i ∨ ¬ (sGo m1 w1 sz p1).1 12 0 ≤ (sGo m1 w1 sz p1).1 6 i then (0, sBad (sGo m1 w1 sz p1).1 2, (sGo m1 w1 sz p1).2)
                else if (sGo (rr2 m1 w1 sz p1 i) (sGo m1 w1 sz p1).2 sz (goTo m1 sz p1)).1 11 0 = 4 then (1, (sGo (rr2 m1 w1 sz p1 i) (sGo m1 w1 sz p1).2 sz (goTo m1 sz p1)).1, (sGo (rr2 m1 w1 sz p1 i) (sGo m1 w1 sz p1).2 sz (goTo m1 sz p1)).2) else (0, sBad (sGo (rr2 m1 w1 sz p1 i) (sGo m1 w1 sz p1).2 sz (goTo m1 sz p1)).1 1, (sGo (rr2 m1 w1 sz p1 i) (sGo m1 w1 sz p1).2 sz (goTo m1 sz p1)).2)) := by
              unfold sRR rr1
              rw [if_neg hmn, if_neg hbit]
              dsimp only
              rw [htn]
            have w5 : (sGo m1 w1 sz p1).1 5 i = loR i := by rw [r2 5 ⟨by decide, by decide, by decide, by decide⟩, r1 5 ⟨by decide, by decide, by decide, by decide⟩]; exact (hlh i hi).1
            have w6 : (sGo m1 w1 sz p1).1 6 i = hiR i := by rw [r2 6 ⟨by decide, by decide, by decide, by decide⟩, r1 6 ⟨by decide, by decide, by decide, by decide⟩]; exact (hlh i hi).2
            have rm2 : ∀ a, a ≠ 7 → goRow a → a ≠ 15 → (sGo m1 w1 sz p1).1 a = m a := fun a _ hg _ => by rw [r2 a hg, r1 a hg]
            by_cases hend2 : (120 < sz ∧ 120 ≤ p1 + skc T sz 141 p1) ∨ sz ≤ p1 + skc T sz 141 p1
            · obtain ⟨e1, e2, e3, e4⟩ := at_end (op := some i) (w := w1) hs g1 hc1 hT1 c15 hend2
              have n3 : ¬ (sGo m1 w1 sz p1).1 11 0 = 3 := by rw [e3]; split <;> decide
              rw [if_pos n3] at hrr0
              refine ⟨Or.inr (Or.inl (by rw [hrr0])), ?_⟩
              rw [zE_end e1 c15 (Or.inl (by rw [c13]; decide)), rLp, if_neg h11, hrr0, if_pos rfl]
              exact FO_bad h4 c1r rm2 (by split <;> rfl) e2
            · obtain ⟨x1, x2, x3, x4, x5, -, x7, x8⟩ := at_tok (op := some i) (w := w1) hs g1 hc1 hT1 c15 hend2
              have hps1 : p1 ≤ p1 + skc T sz 141 p1 := Nat.le_add_right _ _
              generalize hS1 : p1 + skc T sz 141 p1 = s1 at *
              obtain ⟨-, y2, -, -⟩ := tok_kind hs hc1 x1
              have hgt1 := tokE_gt C1 sz s1
              by_cases hk3 : rK T sz s1 = 3
              · have hkk := y2.mpr hk3
                have hnum := x7 hk3
                have htt1 : zTT (some i) C1 sz s1 (tokE C1 sz s1) = zTN (some i) C1 sz s1 (tokE C1 sz s1) := by
                  unfold zTT
                  rw [hkk, c13, if_pos rfl, if_neg (by decide), if_pos rfl]
                have n3 : ¬ ¬ (sGo m1 w1 sz p1).1 11 0 = 3 := fun z => z (by rw [x5]; exact hk3)
                rw [if_neg n3, hnum, w5, w6] at hrr0
                generalize hv : nmb C1 sz s1 (tokE C1 sz s1 - s1) = v at *
                by_cases hin : loR i ≤ v ∧ v ≤ hiR i
                · -- told
                  have htn1 : zTN (some i) C1 sz s1 (tokE C1 sz s1) = (some i, cu (cu (cu C1 5 0 i v) 3 0 2 (C1 3 0 2 + 1)) 3 0 3 3) := by
                    unfold zTN
                    dsimp only
                    rw [hv, if_pos hin]
                  rw [if_neg (fun z => z.elim (fun y => i_nlt.mpr hin.1 y) (fun y => y hin.2))] at hrr0
                  have hc2 : ∀ q, cAt (cu (cu (cu C1 5 0 i v) 3 0 2 (C1 3 0 2 + 1)) 3 0 3 3) sz q = tA T sz q := fun q => by
                    rw [cAt_r (c := C1) (by rw [cu_rw (by decide), cu_rw (by decide), cu_rw (by decide)])]
                    exact hc1 q
                  have hzz1 : zz sz p1 (some i) C1 = zz sz (tokE C1 sz s1) (some i) (cu (cu (cu C1 5 0 i v) 3 0 2 (C1 3 0 2 + 1)) 3 0 3 3) := by
                    rcases x8 with q | q
                    · rw [q, htt1, htn1]
                    · exact absurd (fun z => by rw [htt1, htn1]; exact hc2 z) q
                  have d33 : cu (cu (cu C1 5 0 i v) 3 0 2 (C1 3 0 2 + 1)) 3 0 3 3 3 0 3 = 3 := by rw [cu_at, if_pos ⟨rfl, rfl, rfl⟩]
                  have d35 : cu (cu (cu C1 5 0 i v) 3 0 2 (C1 3 0 2 + 1)) 3 0 3 3 3 0 5 = 0 := by rw [cu_at, if_neg (by omega), cu_at, if_neg (by omega), cu_at, if_neg (by omega)]; exact c15
                  have d32 : cu (cu (cu C1 5 0 i v) 3 0 2 (C1 3 0 2 + 1)) 3 0 3 3 3 0 2 = nI (n + 1) := by rw [cu_at, if_neg (by omega), cu_at, if_pos ⟨rfl, rfl, rfl⟩, c12]; exact (nI_p1 n).symm
                  have d5 : ∀ j, cu (cu (cu C1 5 0 i v) 3 0 2 (C1 3 0 2 + 1)) 3 0 3 3 5 0 j = if j = i then v else c 5 0 j := fun j => by
                    rw [cu_at, if_neg (by omega), cu_at, if_neg (by omega), cu_at, c1t]
                    by_cases z : j = i
                    · rw [if_pos ⟨rfl, rfl, z⟩, if_pos z]
                    · rw [if_neg (fun y => z y.2.2), if_neg z]
                  have dr : ∀ a, a ≠ 3 → a ≠ 5 → cu (cu (cu C1 5 0 i v) 3 0 2 (C1 3 0 2 + 1)) 3 0 3 3 a = c a := fun a z1 z2 => by
                    rw [cu_rw z1, cu_rw z1, cu_rw z2, c1r a z1 z2]
                  generalize hC2 : cu (cu (cu C1 5 0 i v) 3 0 2 (C1 3 0 2 + 1)) 3 0 3 3 = C2 at *
                  have hzE2 : zE sz p1 (some i) C1 = zE sz (tokE C1 sz s1) (some i) C2 := by
                    unfold zE
                    rw [hzz1]
                  rw [hzE2]
                  rw [← x3] at *
                  -- the second world, with the number kept
                  have b7 : rr2 m1 w1 sz p1 i 7 = upd (m 7) i v := by
                    unfold rr2 rr1
                    rw [mu_row (by decide), mu_row', hnum, r2 7 ⟨by decide, by decide, by decide, by decide⟩, r1 7 ⟨by decide, by decide, by decide, by decide⟩]
                  have b15 : rr2 m1 w1 sz p1 i 15 0 = m 15 0 ||| 1 <<< (nI i &&& 31) := by
                    unfold rr2 rr1
                    rw [mu_at, if_pos ⟨rfl, rfl⟩, r2 15 ⟨by decide, by decide, by decide, by decide⟩, m15]
                  have br : ∀ a, a ≠ 7 → goRow a → a ≠ 15 → rr2 m1 w1 sz p1 i a = m a := fun a z1 z2 z3 => by
                    unfold rr2 rr1
                    rw [mu_row z3, mu_row z1, r2 a z2, r1 a z2]
                  generalize hM2 : rr2 m1 w1 sz p1 i = M2 at *
                  generalize hP2 : goTo m1 sz p1 = p2 at *
                  generalize hW2 : (sGo m1 w1 sz p1).2 = w2 at *
                  have hT2 : M2 1 = T := by rw [br 1 (by decide) ⟨by decide, by decide, by decide, by decide⟩ (by decide), hT]
                  have r3 : ∀ a, goRow a → (sGo M2 w2 sz p2).1 a = M2 a := fun a h => sGo_r M2 w2 sz p2 h
                  have rm3 : ∀ a, a ≠ 7 → goRow a → a ≠ 15 → (sGo M2 w2 sz p2).1 a = m a := fun a z1 z2 z3 => by rw [r3 a z2, br a z1 z2 z3]
                  have g3 := goTo_le M2 sz p2 g2
                  by_cases hend3 : (120 < sz ∧ 120 ≤ p2 + skc T sz 141 p2) ∨ sz ≤ p2 + skc T sz 141 p2
                  · obtain ⟨e1, e2, e3, e4⟩ := at_end (op := some i) (w := w2) hs g2 hc2 hT2 d35 hend3
                    have n4 : ¬ (sGo M2 w2 sz p2).1 11 0 = 4 := by rw [e3]; split <;> decide
                    rw [if_neg n4] at hrr0
                    refine ⟨Or.inr (Or.inl (by rw [hrr0])), ?_⟩
                    rw [zE_end e1 d35 (Or.inl (by rw [d33]; decide)), rLp, if_neg h11, hrr0, if_pos rfl]
                    exact FO_bad h4 dr rm3 (by split <;> rfl) e2
                  · obtain ⟨z1, z2, z3, z4, z5, -, -, z8⟩ := at_tok (op := some i) (w := w2) hs g2 hc2 hT2 d35 hend3
                    have hps2 : p2 ≤ p2 + skc T sz 141 p2 := Nat.le_add_right _ _
                    generalize hS2 : p2 + skc T sz 141 p2 = s2 at *
                    obtain ⟨-, -, f3, -⟩ := tok_kind hs hc2 z1
                    have hgt2 := tokE_gt C2 sz s2
                    by_cases hk4 : rK T sz s2 = 4
                    · have hkk4 := f3.mpr hk4
                      have htt2 : zTT (some i) C2 sz s2 (tokE C2 sz s2) = (some i, cu C2 3 0 3 1) := by
                        unfold zTT
                        rw [hkk4, d33, if_pos rfl, if_neg (by decide), if_neg (by decide)]
                      rw [if_pos (by rw [z5]; exact hk4)] at hrr0
                      have hc3 : ∀ q, cAt (cu C2 3 0 3 1) sz q = tA T sz q := fun q => by
                        rw [cAt_r (c := C2) (cu_rw (by decide))]
                        exact hc2 q
                      have hzz2 : zz sz p2 (some i) C2 = zz sz (tokE C2 sz s2) (some i) (cu C2 3 0 3 1) := by
                        rcases z8 with q | q
                        · rw [q, htt2]
                        · exact absurd (fun y => by rw [htt2]; exact hc3 y) q
                      have hzE3 : zE sz p2 (some i) C2 = zE sz (tokE C2 sz s2) (some i) (cu C2 3 0 3 1) := by
                        unfold zE
                        rw [hzz2]
                      rw [hzE3]
                      rw [← z3] at *
                      have hg13 : goTo m1 sz p2 = goTo M2 sz p2 := goTo_eq (by rw [hT1, hT2]) sz p2
                      have hg14 : ∀ q, goTo m1 sz q = goTo (sGo M2 w2 sz p2).1 sz q := fun q => goTo_eq (by rw [hT1, r3 1 ⟨by decide, by decide, by decide, by decide⟩, hT2]) sz q
                      have hne : ¬ (sRR m1 w1 sz p1).1 = 0 := by rw [hrr0]; exact (by decide : ¬ (1 : Int32) = 0)
                      have ihh := ih (goTo M2 sz p2) (n + 1) (some i) (cu C2 3 0 3 1) (sGo M2 w2 sz p2).1 (sGo M2 w2 sz p2).2 (by omega) g3 hc3 (by rw [r3 1 ⟨by decide, by decide, by decide, by decide⟩, hT2]) (fun j hj => by
                          rw [rm3 5 (by decide) ⟨by decide, by decide, by decide, by decide⟩ (by decide), rm3 6 (by decide) ⟨by decide, by decide, by decide, by decide⟩ (by decide)]
                          exact hlh j hj) (fun j hj => by
                          rw [cu_rw (by decide), dr 4 (by decide) (by decide), rm3 3 (by decide) goR3 (by decide)]
                          exact h4 j hj) (by rw [cu_at, if_pos ⟨rfl, rfl, rfl⟩]) (by rw [cu_at, if_neg (by omega)]; exact d35) (by rw [rm3 13 (by decide) ⟨by decide, by decide, by decide, by decide⟩ (by decide)]; exact h13) (by
                          obtain ⟨⟨s1', s2'⟩, s3'⟩ := bit_set kb hkb i hi
                          refine ⟨by rw [cu_at, if_neg (by omega)]; exact d32, kb ||| 1 <<< i, s2', ?_, fun j hj => ?_⟩
                          · rw [r3 15 ⟨by decide, by decide, by decide, by decide⟩, b15, h15, s1']
                          · unfold TR
                            rw [r3 15 ⟨by decide, by decide, by decide, by decide⟩, r3 7 ⟨by decide, by decide, by decide, by decide⟩, b15, b7, h15, s1', s3' j hj, cu_rw (show 5 ≠ 3 by decide), d5 j]
                            by_cases e : j = i
                            · subst e
                              have hvn : ¬ v = -1 := fun z => (un_b j hj).2.2 (by rw [← z]; exact hin.1)
                              simp only [upd, if_true]
                              exact Or.inr ⟨hvn, by simp, by simp, by simpa using hin.1, by simpa using hin.2⟩
                            · have e2 : ¬ i = j := fun z => e z.symm
                              simp only [upd, e]
                              rw [if_neg (by simp)]
                              have old := hTR j hj
                              unfold TR at old
                              rw [h15] at old
                              simp only [e2, false_or]
                              exact old)
                      refine ⟨Or.inr (Or.inr ?_), ?_⟩
                      · rw [hrr0, hP2, hg13]
                        dsimp only
                        rw [hg14]
                        exact ihh.1
                      · rw [rLp, if_neg h11, if_neg hne, hrr0, hP2, hg13]
                        dsimp only
                        rw [hg14]
                        exact ihh.2.mono (fun a y1 y2 => by rw [cu_rw y1, dr a y1 y2]) (fun a y => by
                          obtain ⟨y1, y2, y3, y4, y5, y6⟩ := mRow_go y
                          exact rm3 a y2 y1 y5)
                    · have hkk4 : ¬ tokK C2 sz s2 (tokE C2 sz s2) = 3 := fun z => hk4 (f3.mp z)
                      have htt2 : zTT (some i) C2 sz s2 (tokE C2 sz s2) = (some i, cFt C2 1 s2) := by
                        unfold zTT
                        rw [d33, if_neg hkk4]
                      have n4 : ¬ (sGo M2 w2 sz p2).1 11 0 = 4 := by rw [z5]; exact hk4
                      rw [if_neg n4] at hrr0
                      have hzz2 : zz sz p2 (some i) C2 = (some i, cFt C2 1 s2) := by
                        rcases z8 with q | q
                        · rw [q, htt2, zz_out (Or.inr (fun y => absurd (cFt_5.symm.trans y) (by decide)))]
                        · exact absurd (fun y => by rw [htt2, cAt_r (cFt_r (by decide))]; exact hc2 y) q
                      refine ⟨Or.inr (Or.inl (by rw [hrr0])), ?_⟩
                      rw [zE_bad hzz2 (by decide), rLp, if_neg h11, hrr0, if_pos rfl]
                      exact FO_bad h4 dr rm3 (by split <;> rfl) z4
                · have htn1 : zTN (some i) C1 sz s1 (tokE C1 sz s1) = (some i, cFt C1 2 s1) := by
                    unfold zTN
                    dsimp only
                    rw [hv, if_neg hin]
                  have hout : v < loR i ∨ ¬ v ≤ hiR i := by
                    by_cases z : loR i ≤ v
                    · exact Or.inr (fun y => hin ⟨z, y⟩)
                    · exact Or.inl (i_nle.mp z)
                  rw [if_pos hout] at hrr0
                  have hzz1 : zz sz p1 (some i) C1 = (some i, cFt C1 2 s1) := by
                    rcases x8 with q | q
                    · rw [q, htt1, htn1, zz_out (Or.inr (fun y => absurd (cFt_5.symm.trans y) (by decide)))]
                    · exact absurd (fun y => by rw [htt1, htn1, cAt_r (cFt_r (by decide))]; exact hc1 y) q
                  refine ⟨Or.inr (Or.inl (by rw [hrr0])), ?_⟩
                  rw [zE_bad hzz1 (by decide), rLp, if_neg h11, hrr0, if_pos rfl]
                  exact FO_bad h4 c1r rm2 (if_neg (fun z => absurd ((x5.trans hk3).symm.trans z) (by decide))) x4
              · have hkk : ¬ tokK C1 sz s1 (tokE C1 sz s1) = 2 := fun z => hk3 (y2.mp z)
                have htt1 : zTT (some i) C1 sz s1 (tokE C1 sz s1) = (some i, cFt C1 1 s1) := by
                  unfold zTT
                  rw [c13, if_neg hkk]
                have n3 : ¬ (sGo m1 w1 sz p1).1 11 0 = 3 := by rw [x5]; exact hk3
                rw [if_pos n3] at hrr0
                have hzz1 : zz sz p1 (some i) C1 = (some i, cFt C1 1 s1) := by
                  rcases x8 with q | q
                  · rw [q, htt1, zz_out (Or.inr (fun y => absurd (cFt_5.symm.trans y) (by decide)))]
                  · exact absurd (fun y => by rw [htt1, cAt_r (cFt_r (by decide))]; exact hc1 y) q
                refine ⟨Or.inr (Or.inl (by rw [hrr0])), ?_⟩
                rw [zE_bad hzz1 (by decide), rLp, if_neg h11, hrr0, if_pos rfl]
                exact FO_bad h4 c1r rm2 (by split <;> rfl) x4
          · -- told already
            have htw : zTW c sz s (tokE c sz s) = (some i, cFt c 3 s) := by
              unfold zTW
              rw [u2, v1]
              dsimp only
              rw [if_neg q1]
            have hbit : m1 15 0 >>> (mRule m1 w1 &&& 31) &&& 1 = 1 := by rw [v2, m15]; exact q2
            have hrr : sRR m1 w1 sz (goTo m sz p) = (0, sBad m1 3, w1) := by
              unfold sRR
              rw [if_neg hmn, if_pos hbit]
            have hzz : zz sz p op c = (some i, cFt c 3 s) := by
              rcases t8 with q | q
              · rw [q, htt, htw, zz_out (Or.inr (fun y => absurd (cFt_5.symm.trans y) (by decide)))]
              · exact absurd (fun z => by rw [htt, htw, cAt_r (cFt_r (by decide))]; exact hc z) q
            refine ⟨Or.inr (Or.inl (by rw [hrr])), ?_⟩
            rw [zE_bad hzz (by decide), rLp, if_neg h11, hrr, if_pos rfl]
            exact FO_bad h4 (fun a _ _ => rfl) (fun a _ hg _ => r1 a hg) (by rw [t5, hk2]; rfl) t4
      · have hk : ¬ tokK c sz s (tokE c sz s) = 1 := fun z => hk2 (kk1.mp z)
        have htt : zTT op c sz s (tokE c sz s) = (op, cFt c 1 s) := by
          unfold zTT
          rw [ha, if_neg hk]
        have hmr : mRule m1 w1 = -1 := by
          unfold mRule isK
          rw [t5]
          simp [hk2]
        have hrr : sRR m1 w1 sz (goTo m sz p) = (0, sBad m1 1, w1) := by
          unfold sRR
          rw [if_pos hmr]
        have hzz : zz sz p op c = (op, cFt c 1 s) := by
          rcases t8 with q | q
          · rw [q, htt, zz_out (Or.inr (fun y => absurd (cFt_5.symm.trans y) (by decide)))]
          · exact absurd (fun z => by rw [htt, cAt_r (cFt_r (by decide))]; exact hc z) q
        refine ⟨Or.inr (Or.inl (by rw [hrr])), ?_⟩
        rw [zE_bad hzz (by decide), rLp, if_neg h11, hrr, if_pos rfl]
        exact FO_bad h4 (fun a _ _ => rfl) (fun a _ hg _ => r1 a hg) (by split <;> rfl) t4
end SIM2

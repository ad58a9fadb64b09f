abbrev goRow (a : Nat) : Prop := a ≠ 9 ∧ a ≠ 10 ∧ a ≠ 11 ∧ a ≠ 12
theorem sGo_r (m : Nat → Nat → Int32) (w : Int64) (sz p : Nat) {a : Nat} (h : goRow a) : (sGo m w sz p).1 a = m a := by
  obtain ⟨h9, h10, h11, h12⟩ := h
  have hA : ∀ K, goA m p K a = m a := fun K => by rw [goA, mu_r _ _ h10, sL_r m p h9]
  simp only [sGo]
  split
  · show mu (mu _ 10 0 120) 11 0 1 a = m a
    rw [mu_r _ _ h11, mu_r _ _ h10, hA]
  · split
    · show mu _ 11 0 0 a = m a
      rw [mu_r _ _ h11, hA]
    · split
      · show mu (mu _ 11 0 _) 9 0 _ a = m a
        rw [mu_r _ _ h9, mu_r _ _ h11, hA]
      · show mu (gL (mu _ 12 0 0) _ _ _) 11 0 _ a = m a
        rw [mu_r _ _ h11, gL_r _ _ _ h9 h12, mu_r _ _ h12, hA]
/-- where the reader stands behind a TOKEN -/
def goTo (m : Nat → Nat → Int32) (sz p : Nat) : Nat :=
  let s := p + skc (m 1) sz 141 p
  if (120 < sz ∧ 120 ≤ s) ∨ sz ≤ s then s else if ¬ isL (m 1 s) ∧ ¬ isDg (m 1 s) then s + 1 else s + rlen (m 1) sz 141 s
theorem skc_le (T : Nat → Int32) (sz : Nat) : ∀ f p, p ≤ sz → p + skc T sz f p ≤ sz
  | 0, p, h => h
  | f + 1, p, h => by
    rw [skc]
    split
    · have := skc_le T sz f (p + 1) (by omega)
      omega
    · exact h
theorem rlen_le (T : Nat → Int32) (sz : Nat) : ∀ f p, p ≤ sz → p + rlen T sz f p ≤ sz
  | 0, p, h => h
  | f + 1, p, h => by
    rw [rlen]
    split
    · rename_i hl
      have := isLD_lt hl
      have := rlen_le T sz f (p + 1) (by omega)
      omega
    · exact h
theorem goTo_le (m : Nat → Nat → Int32) (sz p : Nat) (hp : p ≤ sz) : goTo m sz p ≤ sz := by
  have h1 := skc_le (m 1) sz 141 p hp
  have h2 := rlen_le (m 1) sz 141 (p + skc (m 1) sz 141 p) h1
  simp only [goTo]
  split
  · exact h1
  · split <;> omega
theorem sGo_9 {m : Nat → Nat → Int32} (w : Int64) (sz : Nat) {p : Nat} (ht : m 9 0 = nI p) : (sGo m w sz p).1 9 0 = nI (goTo m sz p) := by
  simp only [sGo, goTo]
  split
  · rename_i h
    rw [if_pos (Or.inl h)]
    show mu (mu (goA m p _) 10 0 120) 11 0 1 9 0 = _
    rw [mu_r _ _ (by decide), mu_r _ _ (by decide), goA, mu_r _ _ (by decide), sL_9 ht]
  · rename_i h
    split
    · rename_i h2
      rw [if_pos (Or.inr h2)]
      show mu (goA m p _) 11 0 0 9 0 = _
      rw [mu_r _ _ (by decide), goA, mu_r _ _ (by decide), sL_9 ht]
    · rename_i h2
      rw [if_neg (show ¬ ((120 < sz ∧ 120 ≤ p + skc (m 1) sz 141 p) ∨ sz ≤ p + skc (m 1) sz 141 p) from fun h3 => h3.elim h h2)]
      split
      · simp only [mu_s]
      · dsimp only
        rw [mu_r _ _ (show (9 : Nat) ≠ 11 by decide)]
        exact gL_9 (by rw [mu_r _ _ (by decide), goA, mu_r _ _ (by decide), sL_9 ht]) _
/-- a RULE is read: whether it went, the state, the word -/
abbrev rr1 (m : Nat → Nat → Int32) (w : Int64) (sz p : Nat) : Nat → Nat → Int32 := (sGo m w sz p).1
abbrev rr2 (m : Nat → Nat → Int32) (w : Int64) (sz p j : Nat) : Nat → Nat → Int32 := mu (mu (rr1 m w sz p) 7 j (rr1 m w sz p 12 0)) 15 0 (rr1 m w sz p 15 0 ||| 1 <<< (nI j &&& 31))
def sRR (m : Nat → Nat → Int32) (w : Int64) (sz p : Nat) : Int32 × (Nat → Nat → Int32) × Int64 :=
  if mRule m w = -1 then (0, sBad m 1, w)
  else if m 15 0 >>> (mRule m w &&& 31) &&& 1 = 1 then (0, sBad m 3, w)
  else
    let j := tn (mRule m w)
    let w1 := (sGo m w sz p).2
    if ¬ rr1 m w sz p 11 0 = 3 then (0, sBad (rr1 m w sz p) 1, w1)
    else if rr1 m w sz p 12 0 < rr1 m w sz p 5 j ∨ ¬ rr1 m w sz p 12 0 ≤ rr1 m w sz p 6 j then (0, sBad (rr1 m w sz p) 2, w1)
    else
      let m3 := (sGo (rr2 m w sz p j) w1 sz (goTo m sz p)).1
      let w3 := (sGo (rr2 m w sz p j) w1 sz (goTo m sz p)).2
      if m3 11 0 = 4 then (1, m3, w3) else (0, sBad m3 1, w3)

set_option maxHeartbeats 4000000 in
set_option maxRecDepth 100000 in
theorem cm_readRule (l : Launch) (d : jD) (o : Nat) (q : Nat → Nat) (m : Nat → Nat → Int32) (w : Int64) (sz p : Nat) (hz : m 8 0 = nI sz) (hsz : sz ≤ 140) (ht : m 9 0 = nI p) (hp : p ≤ sz) : jMi noE d l yX10_readRule wsX10_readRule ({ frames := 2, cells := 0, slots := 0, locals := 45 } : Room) 0 0 [.ref o] (mW o q d m w) (fun r u => r = (sRR m w sz p).1 ∧ u = mW o q d (sRR m w sz p).2.1 (sRR m w sz p).2.2) := by
  refine jMi.mk noE_k (by decide) rfl (Nat.le_of_ble_eq_true rfl) (fun X A C hQ => ?_)
  have hin : ∀ w ∈ u_ws RX10 TX10 37, w ∈ wsX10_readRule := fun w h => List.mem_cons_of_mem _ (List.mem_append_right _ h)
  refine j_lvq (lv2 := [(0, .ref o)]) rfl ?_
  refine j_aload_n C 0 dX10_readRule_0 rfl rfl ?_
  refine j_callV_i C 0 0 (cm_ruleAtHand l d o q m w) rfl rfl gX10_readRule_X10_ruleAtHand rfl rfl rfl (by decide +kernel) ⟨(Nat.le_of_ble_eq_true rfl), (Nat.le_of_ble_eq_true rfl)⟩ ⟨(Nat.le_of_ble_eq_true rfl), (Nat.le_of_ble_eq_true rfl)⟩ rfl rfl (Nat.le_of_ble_eq_true rfl) dX10_readRule_1 (fun r1 u1 h1 => ?_)
  obtain ⟨rfl, rfl⟩ := h1
  refine j_istore_n C [(0, .ref o), (1, .int (mRule m w))] [1, 0] dX10_readRule_4 rfl (by decide) rfl ?_
  refine j_iload_n C 1 dX10_readRule_5 rfl rfl ?_
  refine j_iconst C (-1) dX10_readRule_6 (by decide) ?_
  refine j_icmp_ne C 16 dX10_readRule_7 (by decide) (fun c7 => ?_) (fun c7 => ?_)
  · obtain ⟨j, hj, hmj⟩ := (mRule_in m w).resolve_left c7
    have hj2 : tn (mRule m w) = j := by rw [hmj]; exact tn_nI (by omega)
    refine j_lvq (lv2 := [(0, .ref o), (1, .int (nI j))]) (by rw [hmj]) ?_
    refine j_aload_n C 0 dX10_readRule_16 rfl rfl ?_
    refine mg_told C hin (by decide +kernel) dX10_readRule_17 ?_
    refine j_iload_n C 1 dX10_readRule_20 rfl rfl ?_
    refine j_ishr C dX10_readRule_21 ?_
    refine j_iconst C 1 dX10_readRule_22 (by decide) ?_
    refine j_iand C dX10_readRule_23 ?_
    refine j_iconst C 1 dX10_readRule_24 (by decide) ?_
    refine j_icmp_ne C 34 dX10_readRule_25 (by decide) (fun c25 => ?_) (fun c25 => ?_)
    · refine j_aload_n C 0 dX10_readRule_34 rfl rfl ?_
      refine j_callV_v C 0 0 (cm_go l d o q m w sz p hz hsz ht hp) rfl rfl gX10_readRule_X10_go rfl rfl rfl (by decide +kernel) ⟨(Nat.le_of_ble_eq_true rfl), (Nat.le_of_ble_eq_true rfl)⟩ ⟨(Nat.le_of_ble_eq_true rfl), (Nat.le_of_ble_eq_true rfl)⟩ rfl rfl (Nat.le_of_ble_eq_true rfl) dX10_readRule_35 (fun u35 h35 => ?_)
      obtain rfl := h35
      refine j_aload_n C 0 dX10_readRule_38 rfl rfl ?_
      refine mg_kind C hin (by decide +kernel) dX10_readRule_39 ?_
      refine j_iconst C 3 dX10_readRule_42 (by decide) ?_
      refine j_icmp_eq C 52 dX10_readRule_43 (by decide) (fun c43 => ?_) (fun c43 => ?_)
      · refine j_aload_n C 0 dX10_readRule_52 rfl rfl ?_
        refine mg_number C hin (by decide +kernel) dX10_readRule_53 ?_
        refine j_aload_n C 0 dX10_readRule_56 rfl rfl ?_
        refine mg_low C hin (by decide +kernel) dX10_readRule_57 ?_
        refine j_iload_n C 1 dX10_readRule_60 rfl rfl ?_
        refine ml_low C j rfl (by omega) dX10_readRule_61 ?_
        refine j_icmp_lt C 78 dX10_readRule_62 (by decide) (fun c62 => ?_) (fun c62 => ?_)
        · refine j_aload_n C 0 dX10_readRule_78 rfl rfl ?_
          refine j_iconst C 2 dX10_readRule_79 (by decide) ?_
          refine j_callV_i C 1 0 (cm_bad l d o q (rr1 m w sz p) ((sGo m w sz p).2) 2) rfl rfl gX10_readRule_X10_bad rfl rfl rfl (by decide +kernel) ⟨(Nat.le_of_ble_eq_true rfl), (Nat.le_of_ble_eq_true rfl)⟩ ⟨(Nat.le_of_ble_eq_true rfl), (Nat.le_of_ble_eq_true rfl)⟩ rfl rfl (Nat.le_of_ble_eq_true rfl) dX10_readRule_80 (fun r80 u80 h80 => ?_)
          obtain ⟨rfl, rfl⟩ := h80
          exact j_zret C hQ rfl dX10_readRule_83 (⟨by rw [sRR, if_neg c7, if_neg (by rw [hmj]; exact c25)]; simp only [hj2]; rw [if_neg (fun h => h c43), if_pos (Or.inl c62)], by rw [sRR, if_neg c7, if_neg (by rw [hmj]; exact c25)]; simp only [hj2]; rw [if_neg (fun h => h c43), if_pos (Or.inl c62)]⟩)
        · refine j_aload_n C 0 dX10_readRule_65 rfl rfl ?_
          refine mg_number C hin (by decide +kernel) dX10_readRule_66 ?_
          refine j_aload_n C 0 dX10_readRule_69 rfl rfl ?_
          refine mg_high C hin (by decide +kernel) dX10_readRule_70 ?_
          refine j_iload_n C 1 dX10_readRule_73 rfl rfl ?_
          refine ml_high C j rfl (by omega) dX10_readRule_74 ?_
          refine j_icmp_le C 84 dX10_readRule_75 (by decide) (fun c75 => ?_) (fun c75 => ?_)
          · refine j_aload_n C 0 dX10_readRule_84 rfl rfl ?_
            refine mg_fresh C hin (by decide +kernel) dX10_readRule_85 ?_
            refine j_iload_n C 1 dX10_readRule_88 rfl rfl ?_
            refine j_aload_n C 0 dX10_readRule_89 rfl rfl ?_
            refine mg_number C hin (by decide +kernel) dX10_readRule_90 ?_
            refine ms_fresh C j rfl (by omega) dX10_readRule_93 ?_
            refine j_aload_n C 0 dX10_readRule_94 rfl rfl ?_
            refine j_dup C dX10_readRule_95 rfl ?_
            refine mg_told C hin (by decide +kernel) dX10_readRule_96 ?_
            refine j_st (st2 := [.int (rr1 m w sz p 15 0), .ref o]) rfl ?_
            refine j_iconst C 1 dX10_readRule_99 (by decide) ?_
            refine j_iload_n C 1 dX10_readRule_100 rfl rfl ?_
            refine j_ishl C dX10_readRule_101 ?_
            refine j_ior C dX10_readRule_102 ?_
            refine mp_told C hin (by decide +kernel) dX10_readRule_103 ?_
            refine j_aload_n C 0 dX10_readRule_106 rfl rfl ?_
            refine j_callV_v C 0 0 (cm_go l d o q (rr2 m w sz p j) (sGo m w sz p).2 sz (goTo m sz p) (show rr2 m w sz p j 8 0 = nI sz by rw [rr2, mu_r _ _ (by decide), mu_r _ _ (by decide), rr1, sGo_r m w sz p (by decide)]; exact hz) hsz (show rr2 m w sz p j 9 0 = nI (goTo m sz p) by rw [rr2, mu_r _ _ (by decide), mu_r _ _ (by decide)]; exact sGo_9 w sz ht) (goTo_le m sz p hp)) rfl rfl gX10_readRule_X10_go rfl rfl rfl (by decide +kernel) ⟨(Nat.le_of_ble_eq_true rfl), (Nat.le_of_ble_eq_true rfl)⟩ ⟨(Nat.le_of_ble_eq_true rfl), (Nat.le_of_ble_eq_true rfl)⟩ rfl rfl (Nat.le_of_ble_eq_true rfl) dX10_readRule_107 (fun u107 h107 => ?_)
            obtain rfl := h107
            refine j_aload_n C 0 dX10_readRule_110 rfl rfl ?_
            refine mg_kind C hin (by decide +kernel) dX10_readRule_111 ?_
            refine j_iconst C 4 dX10_readRule_114 (by decide) ?_
            refine j_icmp_eq C 126 dX10_readRule_115 (by decide) (fun c115 => ?_) (fun c115 => ?_)
            · refine j_iconst C 1 dX10_readRule_126 (by decide) ?_
              refine j_goto C 131 dX10_readRule_127 (by decide) ?_
              exact j_zret C hQ rfl dX10_readRule_131 (⟨by rw [sRR, if_neg c7, if_neg (by rw [hmj]; exact c25)]; simp only [hj2]; rw [if_neg (fun h => h c43), if_neg (fun h => h.elim c62 (fun h2 => h2 c75)), if_pos c115], by rw [sRR, if_neg c7, if_neg (by rw [hmj]; exact c25)]; simp only [hj2]; rw [if_neg (fun h => h c43), if_neg (fun h => h.elim c62 (fun h2 => h2 c75)), if_pos c115]⟩)
            · refine j_aload_n C 0 dX10_readRule_118 rfl rfl ?_
              refine j_iconst C 1 dX10_readRule_119 (by decide) ?_
              refine j_callV_i C 1 0 (cm_bad l d o q ((sGo (rr2 m w sz p j) (sGo m w sz p).2 sz (goTo m sz p)).1) ((sGo (rr2 m w sz p j) (sGo m w sz p).2 sz (goTo m sz p)).2) 1) rfl rfl gX10_readRule_X10_bad rfl rfl rfl (by decide +kernel) ⟨(Nat.le_of_ble_eq_true rfl), (Nat.le_of_ble_eq_true rfl)⟩ ⟨(Nat.le_of_ble_eq_true rfl), (Nat.le_of_ble_eq_true rfl)⟩ rfl rfl (Nat.le_of_ble_eq_true rfl) dX10_readRule_120 (fun r120 u120 h120 => ?_)
              obtain ⟨rfl, rfl⟩ := h120
              refine j_if_eq C 130 dX10_readRule_123 (by decide) (fun _ => ?_) (fun h => absurd h (by decide))
              refine j_iconst C 0 dX10_readRule_130 (by decide) ?_
              exact j_zret C hQ rfl dX10_readRule_131 (⟨by rw [sRR, if_neg c7, if_neg (by rw [hmj]; exact c25)]; simp only [hj2]; rw [if_neg (fun h => h c43), if_neg (fun h => h.elim c62 (fun h2 => h2 c75)), if_neg c115], by rw [sRR, if_neg c7, if_neg (by rw [hmj]; exact c25)]; simp only [hj2]; rw [if_neg (fun h => h c43), if_neg (fun h => h.elim c62 (fun h2 => h2 c75)), if_neg c115]⟩)
          · refine j_aload_n C 0 dX10_readRule_78 rfl rfl ?_
            refine j_iconst C 2 dX10_readRule_79 (by decide) ?_
            refine j_callV_i C 1 0 (cm_bad l d o q (rr1 m w sz p) ((sGo m w sz p).2) 2) rfl rfl gX10_readRule_X10_bad rfl rfl rfl (by decide +kernel) ⟨(Nat.le_of_ble_eq_true rfl), (Nat.le_of_ble_eq_true rfl)⟩ ⟨(Nat.le_of_ble_eq_true rfl), (Nat.le_of_ble_eq_true rfl)⟩ rfl rfl (Nat.le_of_ble_eq_true rfl) dX10_readRule_80 (fun r80 u80 h80 => ?_)
            obtain ⟨rfl, rfl⟩ := h80
            exact j_zret C hQ rfl dX10_readRule_83 (⟨by rw [sRR, if_neg c7, if_neg (by rw [hmj]; exact c25)]; simp only [hj2]; rw [if_neg (fun h => h c43), if_pos (Or.inr c75)], by rw [sRR, if_neg c7, if_neg (by rw [hmj]; exact c25)]; simp only [hj2]; rw [if_neg (fun h => h c43), if_pos (Or.inr c75)]⟩)
      · refine j_aload_n C 0 dX10_readRule_46 rfl rfl ?_
        refine j_iconst C 1 dX10_readRule_47 (by decide) ?_
        refine j_callV_i C 1 0 (cm_bad l d o q (rr1 m w sz p) ((sGo m w sz p).2) 1) rfl rfl gX10_readRule_X10_bad rfl rfl rfl (by decide +kernel) ⟨(Nat.le_of_ble_eq_true rfl), (Nat.le_of_ble_eq_true rfl)⟩ ⟨(Nat.le_of_ble_eq_true rfl), (Nat.le_of_ble_eq_true rfl)⟩ rfl rfl (Nat.le_of_ble_eq_true rfl) dX10_readRule_48 (fun r48 u48 h48 => ?_)
        obtain ⟨rfl, rfl⟩ := h48
        exact j_zret C hQ rfl dX10_readRule_51 (⟨by rw [sRR, if_neg c7, if_neg (by rw [hmj]; exact c25)]; simp only [hj2]; rw [if_pos c43], by rw [sRR, if_neg c7, if_neg (by rw [hmj]; exact c25)]; simp only [hj2]; rw [if_pos c43]⟩)
    · refine j_aload_n C 0 dX10_readRule_28 rfl rfl ?_
      refine j_iconst C 3 dX10_readRule_29 (by decide) ?_
      refine j_callV_i C 1 0 (cm_bad l d o q m w 3) rfl rfl gX10_readRule_X10_bad rfl rfl rfl (by decide +kernel) ⟨(Nat.le_of_ble_eq_true rfl), (Nat.le_of_ble_eq_true rfl)⟩ ⟨(Nat.le_of_ble_eq_true rfl), (Nat.le_of_ble_eq_true rfl)⟩ rfl rfl (Nat.le_of_ble_eq_true rfl) dX10_readRule_30 (fun r30 u30 h30 => ?_)
      obtain ⟨rfl, rfl⟩ := h30
      exact j_zret C hQ rfl dX10_readRule_33 (⟨by rw [sRR, if_neg c7, if_pos (by rw [hmj]; exact c25)], by rw [sRR, if_neg c7, if_pos (by rw [hmj]; exact c25)]⟩)
  · refine j_aload_n C 0 dX10_readRule_10 rfl rfl ?_
    refine j_iconst C 1 dX10_readRule_11 (by decide) ?_
    refine j_callV_i C 1 0 (cm_bad l d o q m w 1) rfl rfl gX10_readRule_X10_bad rfl rfl rfl (by decide +kernel) ⟨(Nat.le_of_ble_eq_true rfl), (Nat.le_of_ble_eq_true rfl)⟩ ⟨(Nat.le_of_ble_eq_true rfl), (Nat.le_of_ble_eq_true rfl)⟩ rfl rfl (Nat.le_of_ble_eq_true rfl) dX10_readRule_12 (fun r12 u12 h12 => ?_)
    obtain ⟨rfl, rfl⟩ := h12
    exact j_zret C hQ rfl dX10_readRule_15 (⟨by rw [sRR, if_pos c7], by rw [sRR, if_pos c7]⟩)


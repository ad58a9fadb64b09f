/-! rules in the reference -/
theorem goTo_eq {m m2 : Nat → Nat → Int32} (h : m2 1 = m 1) (sz p : Nat) : goTo m2 sz p = goTo m sz p := by simp only [goTo, h]
abbrev rrRow (a : Nat) : Prop := goRow a ∧ a ≠ 7 ∧ a ≠ 13 ∧ a ≠ 14 ∧ a ≠ 15
theorem sBad_r (m : Nat → Nat → Int32) (k : Int32) {a : Nat} (h1 : a ≠ 13) (h2 : a ≠ 14) : sBad m k a = m a := by rw [sBad, mu_r _ _ h2, mu_r _ _ h1]
theorem sRR_r (m : Nat → Nat → Int32) (w : Int64) (sz p : Nat) {a : Nat} (h : rrRow a) : (sRR m w sz p).2.1 a = m a := by
  obtain ⟨hg, h7, h13, h14, h15⟩ := h
  have h1 : rr1 m w sz p a = m a := sGo_r m w sz p hg
  have h2 : ∀ j, rr2 m w sz p j a = m a := fun j => by rw [rr2, mu_r _ _ h15, mu_r _ _ h7, h1]
  simp only [sRR]
  repeat' split
  · exact sBad_r m 1 h13 h14
  · exact sBad_r m 3 h13 h14
  · exact (sBad_r _ 1 h13 h14).trans h1
  · exact (sBad_r _ 2 h13 h14).trans h1
  · exact (sGo_r _ _ _ _ hg).trans (h2 _)
  · exact (sBad_r _ 1 h13 h14).trans ((sGo_r _ _ _ _ hg).trans (h2 _))
theorem sRR_9 {m : Nat → Nat → Int32} (w : Int64) (sz : Nat) {p : Nat} (ht : m 9 0 = nI p) (h : ¬ (sRR m w sz p).1 = 0) : (sRR m w sz p).2.1 9 0 = nI (goTo m sz (goTo m sz p)) := by
  have h2 : ∀ j, (sGo (rr2 m w sz p j) (sGo m w sz p).2 sz (goTo m sz p)).1 9 0 = nI (goTo m sz (goTo m sz p)) := fun j => by
    rw [sGo_9 _ sz (show rr2 m w sz p j 9 0 = nI (goTo m sz p) by rw [rr2, mu_r _ _ (by decide), mu_r _ _ (by decide)]; exact sGo_9 w sz ht), goTo_eq (m := m)]
    rw [rr2, mu_r _ _ (by decide), mu_r _ _ (by decide)]
    exact sGo_r m w sz p (by decide)
  revert h
  simp only [sRR]
  repeat' split
  · exact fun h => absurd rfl h
  · exact fun h => absurd rfl h
  · exact fun h => absurd rfl h
  · exact fun h => absurd rfl h
  · exact fun _ => h2 _
  · exact fun h => absurd rfl h
def mF6 (m : Nat → Nat → Int32) : Nat → Nat → Nat → Int32
  | 0 => m
  | k + 1 => mu (mF6 m k) 7 k (mF6 m k 4 k)
theorem mF6_r (m : Nat → Nat → Int32) {a : Nat} (ha : a ≠ 7) : ∀ k, mF6 m k a = m a
  | 0 => rfl
  | k + 1 => by rw [mF6, mu_r _ _ ha, mF6_r m ha k]
def mF7 (m : Nat → Nat → Int32) : Nat → Nat → Nat → Int32
  | 0 => m
  | k + 1 => mu (mF7 m k) 3 k (mF7 m k 7 k)
theorem mF7_r (m : Nat → Nat → Int32) {a : Nat} (ha : a ≠ 3) : ∀ k, mF7 m k a = m a
  | 0 => rfl
  | k + 1 => by rw [mF7, mu_r _ _ ha, mF7_r m ha k]
def rLp (sz : Nat) : Nat → (Nat → Nat → Int32) → Int64 → Nat → Nat → Int32 × (Nat → Nat → Int32) × Int64
  | 0, m, w, _, n => (nI n, m, w)
  | f + 1, m, w, p, n => if m 11 0 = 0 then (nI n, mF7 m 6, w)
    else if (sRR m w sz p).1 = 0 then (-1 - (sRR m w sz p).2.1 14 0, (sRR m w sz p).2.1, (sRR m w sz p).2.2)
    else rLp sz f (sGo (sRR m w sz p).2.1 (sRR m w sz p).2.2 sz (goTo m sz (goTo m sz p))).1 (sGo (sRR m w sz p).2.1 (sRR m w sz p).2.2 sz (goTo m sz (goTo m sz p))).2 (goTo m sz (goTo m sz (goTo m sz p))) (n + 1)
def rLpE (sz : Nat) : Nat → (Nat → Nat → Int32) → Int64 → Nat → Prop
  | 0, _, _, _ => False
  | f + 1, m, w, p => m 11 0 = 0 ∨ (sRR m w sz p).1 = 0 ∨ rLpE sz f (sGo (sRR m w sz p).2.1 (sRR m w sz p).2.2 sz (goTo m sz (goTo m sz p))).1 (sGo (sRR m w sz p).2.1 (sRR m w sz p).2.2 sz (goTo m sz (goTo m sz p))).2 (goTo m sz (goTo m sz (goTo m sz p)))
abbrev ru0 (m : Nat → Nat → Int32) (tp : Nat) : Nat → Nat → Int32 := mu (mu (mu (mu (mu m 0 0 0) 8 0 (nI tp)) 2 0 0) 13 0 0) 15 0 0
abbrev ru1 (m : Nat → Nat → Int32) (tp : Nat) : Nat → Nat → Int32 := mu (mF6 (ru0 m tp) 6) 9 0 0
def sRules (m : Nat → Nat → Int32) (w : Int64) (tp F : Nat) : Int32 × (Nat → Nat → Int32) × Int64 := rLp tp F (sGo (ru1 m tp) w tp 0).1 (sGo (ru1 m tp) w tp 0).2 (goTo (ru1 m tp) tp 0) 0
def okRules (m : Nat → Nat → Int32) (w : Int64) (tp F : Nat) : Prop := rLpE tp F (sGo (ru1 m tp) w tp 0).1 (sGo (ru1 m tp) w tp 0).2 (goTo (ru1 m tp) tp 0)

set_option maxHeartbeats 4000000 in
set_option maxRecDepth 100000 in
theorem cm_rules (l : Launch) (d : jD) (o : Nat) (q : Nat → Nat) (m : Nat → Nat → Int32) (w : Int64) (tp F : Nat) (hT : m 2 0 = nI tp) (htp : tp ≤ 140) (hok : okRules m w tp F) : jMi noE d l yX10_rules wsX10_rules ({ frames := 3, cells := 0, slots := 0, locals := 66 } : Room) 0 0 [.ref o] (mW o q d m w) (fun r u => r = (sRules m w tp F).1 ∧ u = mW o q d (sRules m w tp F).2.1 (sRules m w tp F).2.2) := by
  refine jMi.mk noE_k (by decide) rfl (Nat.le_of_ble_eq_true rfl) (fun X A C hQ => ?_)
  have hin : ∀ w ∈ u_ws RX10 TX10 37, w ∈ wsX10_rules := fun w h => List.mem_cons_of_mem _ (List.mem_append_right _ h)
  refine j_lvq (lv2 := [(0, .ref o)]) rfl ?_
  have t98 : ∀ (Z : Nat → Nat → Int32) (v : Int64) (n : Nat), (nI n = (sRules m w tp F).1 ∧ mF7 Z 6 = (sRules m w tp F).2.1 ∧ v = (sRules m w tp F).2.2) → jJ X l d A 3 0 0 (mW o q d Z v) [(0, .ref o), (1, .int (nI n))] 96 [] := by
    intro Z v n hz
    have loop : ∀ fz i : Nat, i ≤ 6 → 6 - i < fz → jJ X l d A 3 0 0 (mW o q d (mF7 Z i) v) [(0, .ref o), (1, .int (nI n)), (2, .int (nI i))] 98 [] := by
      intro fz
      induction fz with
      | zero => intro i _ h; exact absurd h (Nat.not_lt_zero _)
      | succ fz ih =>
        intro i hi hn
        refine j_iload_n C 2 dX10_rules_98 rfl rfl ?_
        refine j_bipush C 6 dX10_rules_99 (by decide) ?_
        refine j_icmp_ge C 122 dX10_rules_101 (by decide) (fun c101 => ?_) (fun c101 => ?_)
        · have c101 := (nI_leI (a := 6) (b := i) (by omega) (by omega)).mp c101
          obtain rfl : i = 6 := by omega
          refine j_iload_n C 1 dX10_rules_122 rfl rfl ?_
          exact j_iret C hQ dX10_rules_123 (⟨hz.1, by rw [hz.2.1, hz.2.2]⟩)
        · have c101 : ¬ (6 ≤ i) := fun h => c101 ((nI_leI (a := 6) (b := i) (by omega) (by omega)).mpr h)
          refine j_aload_n C 0 dX10_rules_104 rfl rfl ?_
          refine mg_rule C hin (by decide +kernel) dX10_rules_105 ?_
          refine j_iload_n C 2 dX10_rules_108 rfl rfl ?_
          refine j_aload_n C 0 dX10_rules_109 rfl rfl ?_
          refine mg_fresh C hin (by decide +kernel) dX10_rules_110 ?_
          refine j_iload_n C 2 dX10_rules_113 rfl rfl ?_
          refine ml_fresh C i rfl (by omega) dX10_rules_114 ?_
          refine ms_rule C i rfl (by omega) dX10_rules_115 ?_
          refine j_iinc C (nI (i + 1)) [(0, .ref o), (1, .int (nI n)), (2, .int (nI (i + 1)))] 2 [1, 2, 0] dX10_rules_116 rfl (nI_1 i) (by decide) rfl ?_
          refine j_goto C 98 dX10_rules_119 (by decide) ?_
          exact ih (i + 1) (by omega) (by omega)
    refine j_iconst C 0 dX10_rules_96 (by decide) ?_
    refine j_istore_n C [(0, .ref o), (1, .int (nI n)), (2, .int 0)] [1, 2, 0] dX10_rules_97 rfl (by decide) rfl ?_
    exact loop _ 0 (Nat.zero_le _) (Nat.lt_succ_self _)
  have main : ∀ (f : Nat) (Z : Nat → Nat → Int32) (v : Int64) (p n : Nat), Z 8 0 = nI tp → Z 9 0 = nI p → p ≤ tp → rLpE tp f Z v p → rLp tp f Z v p n = sRules m w tp F → jJ X l d A 3 0 0 (mW o q d Z v) [(0, .ref o), (1, .int (nI n))] 65 [] := by
    intro f
    induction f with
    | zero => intro Z v p n _ _ _ h; exact absurd h id
    | succ f ih =>
      intro Z v p n hz ht hp hO hE
      refine j_aload_n C 0 dX10_rules_65 rfl rfl ?_
      refine mg_kind C hin (by decide +kernel) dX10_rules_66 ?_
      refine j_if_eq C 96 dX10_rules_69 (by decide) (fun c69 => ?_) (fun c69 => ?_)
      · refine t98 Z v n ?_
        rw [rLp, if_pos c69] at hE
        exact ⟨by rw [← hE], by rw [← hE], by rw [← hE]⟩
      · refine j_aload_n C 0 dX10_rules_72 rfl rfl ?_
        refine j_callV_i C 0 0 (cm_readRule l d o q Z v tp p hz htp ht hp) rfl rfl gX10_rules_X10_readRule rfl rfl rfl (by decide +kernel) ⟨(Nat.le_of_ble_eq_true rfl), (Nat.le_of_ble_eq_true rfl)⟩ ⟨(Nat.le_of_ble_eq_true rfl), (Nat.le_of_ble_eq_true rfl)⟩ rfl rfl (Nat.le_of_ble_eq_true rfl) dX10_rules_73 (fun r73 u73 h73 => ?_)
        obtain ⟨rfl, rfl⟩ := h73
        refine j_if_ne C 86 dX10_rules_76 (by decide) (fun c76 => ?_) (fun c76 => ?_)
        · refine j_iinc C (nI (n + 1)) [(0, .ref o), (1, .int (nI (n + 1)))] 1 [1, 0] dX10_rules_86 rfl (nI_1 n) (by decide) rfl ?_
          refine j_aload_n C 0 dX10_rules_89 rfl rfl ?_
          refine j_callV_v C 0 0 (cm_go l d o q (sRR Z v tp p).2.1 (sRR Z v tp p).2.2 tp (goTo Z tp (goTo Z tp p)) (show (sRR Z v tp p).2.1 8 0 = nI tp by rw [sRR_r Z v tp p (by decide)]; exact hz) htp (sRR_9 v tp ht c76) (goTo_le Z tp _ (goTo_le Z tp p hp))) rfl rfl gX10_rules_X10_go rfl rfl rfl (by decide +kernel) ⟨(Nat.le_of_ble_eq_true rfl), (Nat.le_of_ble_eq_true rfl)⟩ ⟨(Nat.le_of_ble_eq_true rfl), (Nat.le_of_ble_eq_true rfl)⟩ rfl rfl (Nat.le_of_ble_eq_true rfl) dX10_rules_90 (fun u90 h90 => ?_)
          obtain rfl := h90
          refine j_goto C 65 dX10_rules_93 (by decide) ?_
          exact ih (sGo (sRR Z v tp p).2.1 (sRR Z v tp p).2.2 tp (goTo Z tp (goTo Z tp p))).1 (sGo (sRR Z v tp p).2.1 (sRR Z v tp p).2.2 tp (goTo Z tp (goTo Z tp p))).2 (goTo Z tp (goTo Z tp (goTo Z tp p))) (n + 1) (by rw [sGo_r _ _ _ _ (by decide), sRR_r Z v tp p (by decide)]; exact hz) (by rw [sGo_9 _ tp (sRR_9 v tp ht c76), goTo_eq (m := Z) (sRR_r Z v tp p (by decide))]) (goTo_le Z tp _ (goTo_le Z tp _ (goTo_le Z tp p hp))) ((hO.resolve_left c69).resolve_left c76) (by rw [rLp, if_neg c69, if_neg c76] at hE; exact hE)
        · refine j_iconst C (-1) dX10_rules_79 (by decide) ?_
          refine j_aload_n C 0 dX10_rules_80 rfl rfl ?_
          refine mg_place C hin (by decide +kernel) dX10_rules_81 ?_
          refine j_isub C dX10_rules_84 ?_
          exact j_iret C hQ dX10_rules_85 (⟨by rw [← hE, rLp, if_neg c69, if_pos c76], by rw [← hE, rLp, if_neg c69, if_pos c76]⟩)
  have loop : ∀ fz i : Nat, i ≤ 6 → 6 - i < fz → jJ X l d A 3 0 0 (mW o q d (mF6 (ru0 m tp) i) w) [(0, .ref o), (1, .int (nI i))] 30 [] := by
    intro fz
    induction fz with
    | zero => intro i _ h; exact absurd h (Nat.not_lt_zero _)
    | succ fz ih =>
      intro i hi hn
      refine j_iload_n C 1 dX10_rules_30 rfl rfl ?_
      refine j_bipush C 6 dX10_rules_31 (by decide) ?_
      refine j_icmp_ge C 54 dX10_rules_33 (by decide) (fun c33 => ?_) (fun c33 => ?_)
      · have c33 := (nI_leI (a := 6) (b := i) (by omega) (by omega)).mp c33
        obtain rfl : i = 6 := by omega
        refine j_iconst C 0 dX10_rules_54 (by decide) ?_
        refine j_istore_n C [(0, .ref o), (1, .int 0)] [1, 0] dX10_rules_55 rfl (by decide) rfl ?_
        refine j_aload_n C 0 dX10_rules_56 rfl rfl ?_
        refine j_iconst C 0 dX10_rules_57 (by decide) ?_
        refine mp_to C hin (by decide +kernel) dX10_rules_58 ?_
        refine j_aload_n C 0 dX10_rules_61 rfl rfl ?_
        refine j_callV_v C 0 0 (cm_go l d o q (ru1 m tp) w tp 0 (by rw [ru1, mu_r _ _ (by decide), mF6_r _ (by decide)]; rfl) htp rfl (Nat.zero_le _)) rfl rfl gX10_rules_X10_go rfl rfl rfl (by decide +kernel) ⟨(Nat.le_of_ble_eq_true rfl), (Nat.le_of_ble_eq_true rfl)⟩ ⟨(Nat.le_of_ble_eq_true rfl), (Nat.le_of_ble_eq_true rfl)⟩ rfl rfl (Nat.le_of_ble_eq_true rfl) dX10_rules_62 (fun u62 h62 => ?_)
        obtain rfl := h62
        exact main F _ _ (goTo (ru1 m tp) tp 0) 0 (by rw [sGo_r _ _ _ _ (by decide), ru1, mu_r _ _ (by decide), mF6_r _ (by decide)]; rfl) (sGo_9 w tp rfl) (goTo_le _ tp 0 (Nat.zero_le _)) hok rfl
      · have c33 : ¬ (6 ≤ i) := fun h => c33 ((nI_leI (a := 6) (b := i) (by omega) (by omega)).mpr h)
        refine j_aload_n C 0 dX10_rules_36 rfl rfl ?_
        refine mg_fresh C hin (by decide +kernel) dX10_rules_37 ?_
        refine j_iload_n C 1 dX10_rules_40 rfl rfl ?_
        refine j_aload_n C 0 dX10_rules_41 rfl rfl ?_
        refine mg_usual C hin (by decide +kernel) dX10_rules_42 ?_
        refine j_iload_n C 1 dX10_rules_45 rfl rfl ?_
        refine ml_usual C i rfl (by omega) dX10_rules_46 ?_
        refine ms_fresh C i rfl (by omega) dX10_rules_47 ?_
        refine j_iinc C (nI (i + 1)) [(0, .ref o), (1, .int (nI (i + 1)))] 1 [1, 0] dX10_rules_48 rfl (nI_1 i) (by decide) rfl ?_
        refine j_goto C 30 dX10_rules_51 (by decide) ?_
        exact ih (i + 1) (by omega) (by omega)
  refine j_aload_n C 0 dX10_rules_0 rfl rfl ?_
  refine j_iconst C 0 dX10_rules_1 (by decide) ?_
  refine mp_thrown C hin (by decide +kernel) dX10_rules_2 ?_
  refine j_aload_n C 0 dX10_rules_5 rfl rfl ?_
  refine j_aload_n C 0 dX10_rules_6 rfl rfl ?_
  refine mg_taped C hin (by decide +kernel) dX10_rules_7 ?_
  refine j_st (st2 := [.int (nI tp), .ref o]) (congrArg (fun z => Value.int z :: _) hT) ?_
  refine mp_size C hin (by decide +kernel) dX10_rules_10 ?_
  refine j_aload_n C 0 dX10_rules_13 rfl rfl ?_
  refine j_iconst C 0 dX10_rules_14 (by decide) ?_
  refine mp_taped C hin (by decide +kernel) dX10_rules_15 ?_
  refine j_aload_n C 0 dX10_rules_18 rfl rfl ?_
  refine j_iconst C 0 dX10_rules_19 (by decide) ?_
  refine mp_fault C hin (by decide +kernel) dX10_rules_20 ?_
  refine j_aload_n C 0 dX10_rules_23 rfl rfl ?_
  refine j_iconst C 0 dX10_rules_24 (by decide) ?_
  refine mp_told C hin (by decide +kernel) dX10_rules_25 ?_
  refine j_iconst C 0 dX10_rules_28 (by decide) ?_
  refine j_istore_n C [(0, .ref o), (1, .int 0)] [1, 0] dX10_rules_29 rfl (by decide) rfl ?_
  exact loop _ 0 (Nat.zero_le _) (Nat.lt_succ_self _)


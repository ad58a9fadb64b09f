def stp (tp : Nat) : Nat := if 120 < tp then 120 else tp
def nxt (c : Nat → Nat → Nat → Int32) (tp q : Nat) : Nat := if q + 1 < tokE c tp q then tokE c tp q else q + 1
def zRd (tp stop : Nat) : Nat → Nat → Option Nat → (Nat → Nat → Nat → Int32) → Option Nat × (Nat → Nat → Nat → Int32)
  | 0, _, op, c => (op, c)
  | f + 1, q, op, c => if q < stop ∧ c 3 0 5 = 0 then (if cAt c tp q = 32 ∨ cAt c tp q = 10 then zRd tp stop f (nxt c tp q) op c else zRd tp stop f (nxt (zTT op c tp q (tokE c tp q)).2 tp q) (zTT op c tp q (tokE c tp q)).1 (zTT op c tp q (tokE c tp q)).2) else (op, c)
def zFt (tp : Nat) (c : Nat → Nat → Nat → Int32) : Nat → Nat → Nat → Int32 := if c 3 0 5 = 0 ∧ (¬ c 3 0 3 = 1 ∨ 120 < tp) then cFt c 1 (stp tp) else c
def zFin (op : Option Nat) (c : Nat → Nat → Nat → Int32) : Int32 × Option Nat × (Nat → Nat → Nat → Int32) := if c 3 0 5 = 0 then (cPf c 6 3 0 2, op, cPf c 6) else (-1 - c 3 0 6, op, c)
def zRead (c : Nat → Nat → Nat → Int32) (tp : Nat) : Int32 × Option Nat × (Nat → Nat → Nat → Int32) := zFin (zRd tp (stp tp) 121 0 none (cBeg c)).1 (zFt tp (zRd tp (stp tp) 121 0 none (cBeg c)).2)
theorem mx_nI {a b : Nat} (ha : a < 1000) (hb : b < 1000) : (if nI a < nI b then nI b else nI a) = nI (if a < b then b else a) := by
  by_cases h : a < b
  · rw [if_pos h, if_pos ((nI_ltI (by omega) (by omega)).mpr h)]
  · rw [if_neg h, if_neg (fun q => h ((nI_ltI (by omega) (by omega)).mp q))]
theorem mn_nI {a b : Nat} (ha : a < 1000) (hb : b < 1000) : (if nI b < nI a then nI b else nI a) = nI (if b < a then b else a) := by
  by_cases h : b < a
  · rw [if_pos h, if_pos ((nI_ltI (by omega) (by omega)).mpr h)]
  · rw [if_neg h, if_neg (fun q => h ((nI_ltI (by omega) (by omega)).mp q))]
theorem cBg_T (c : Nat → Nat → Nat → Int32) : ∀ k, cBg c k 1 0 1 = c 1 0 1
  | 0 => rfl
  | k + 1 => by rw [cBg, cu_at, if_neg (by simp), cBg_T c k]
theorem cBeg_T (c : Nat → Nat → Nat → Int32) : cBeg c 1 0 1 = c 1 0 1 := by
  simp only [cBeg, cu_at]
  exact cBg_T c 6
theorem cPf_T (c : Nat → Nat → Nat → Int32) : ∀ k, cPf c k 1 0 1 = c 1 0 1
  | 0 => rfl
  | k + 1 => by rw [cPf, cu_at, if_neg (by simp), cPf_T c k]
theorem cFt_5 {c : Nat → Nat → Nat → Int32} {k : Int32} {p : Nat} : cFt c k p 3 0 5 = k := by simp [cFt, cu_at]
theorem nxt_b {c : Nat → Nat → Nat → Int32} {tp q : Nat} (h : q < tp) : q < nxt c tp q ∧ nxt c tp q ≤ tp := by
  have := tokE_b (c := c) h
  unfold nxt
  split <;> omega

abbrev bkP (x : Int32) : Prop := x = 32 ∨ x = 10

set_option maxHeartbeats 4000000 in
set_option maxRecDepth 100000 in
theorem cc_X6_read (l : Launch) (d : jD) (ad adK adV : Nat → Nat) (al : Nat) (a : Nat → Nat → Nat) (n : Nat → Nat) (op : Option Nat) (c : Nat → Nat → Nat → Int32) (hn : nOK n) (tp : Nat) (hT : c 1 0 1 = nI tp) (htp : tp ≤ 140) : jMi (cEf ad adK adV al) d l yX6_read wsX6_read ({ frames := 8, cells := 0, slots := 0, locals := 182 } : Room) 0 0 [.ref (a 3 0), .ref (a 1 0)] (cW a d n op ad c) (fun r u => r = (zRead c tp).1 ∧ u = cW a d n (zRead c tp).2.1 ad (zRead c tp).2.2) := by
  refine jMi.mk (cEf_k ad adK adV al) (by decide) rfl (Nat.le_of_ble_eq_true rfl) (fun X A C hQ => ?_)
  have hinX6 : ∀ w ∈ u_ws RX6 TX6 7, w ∈ wsX6_read := fun w h => List.mem_cons_of_mem _ (List.mem_append_right _ h)
  have hinX7 : ∀ w ∈ u_ws RX7 TX7 2, w ∈ wsX6_read := fun w h => List.mem_cons_of_mem _ (List.mem_append_left _ (List.mem_append_right _ h))
  have hB : cBeg c 1 0 1 = nI tp := (cBeg_T c).trans hT
  have hs1 : stp tp ≤ 120 := by unfold stp; split <;> omega
  refine j_lvq (lv2 := [(0, .ref (a 3 0)), (1, .ref (a 1 0))]) rfl ?_
  have exit : ∀ (q : Nat) (o2 : Option Nat) (c2 : Nat → Nat → Nat → Int32), c2 1 0 1 = nI tp → zRead c tp = zFin o2 (zFt tp c2) → jJ X l d A 4 0 0 (cW a d n o2 ad c2) [(0, .ref (a 3 0)), (1, .ref (a 1 0)), (2, .int (nI (stp tp))), (3, .int (nI q))] 65 [] := by
    intro q o2 c2 hT2 hF
    refine j_aload_n C 0 dX6_read_65 rfl rfl ?_
    refine kg_3_faultKind C hinX6 (by decide +kernel) dX6_read_66 ?_
    refine j_if_ne C 95 dX6_read_69 (by decide) (fun c69 => ?_) (fun c69 => ?_)
    · have hz : zFt tp c2 = c2 := if_neg (fun h => c69 h.1)
      refine j_aload_n C 0 dX6_read_95 rfl rfl ?_
      refine kg_3_faultKind C hinX6 (by decide +kernel) dX6_read_96 ?_
      refine j_if_eq C 109 dX6_read_99 (by decide) (fun c99 => ?_) (fun c99 => ?_)
      · refine j_aload_n C 0 dX6_read_109 rfl rfl ?_
        refine j_callV_v C 0 3 (cc_X6_putInForce l d ad adK adV al a n o2 c2 hn) cG_3 rfl gX6_read_X6_putInForce rfl rfl rfl (by decide +kernel) ⟨(Nat.le_of_ble_eq_true rfl), (Nat.le_of_ble_eq_true rfl)⟩ ⟨(Nat.le_of_ble_eq_true rfl), (Nat.le_of_ble_eq_true rfl)⟩ rfl rfl (Nat.le_of_ble_eq_true rfl) dX6_read_110 (fun u110 h110 => ?_)
        obtain rfl := h110
        refine j_aload_n C 0 dX6_read_113 rfl rfl ?_
        refine kg_3_toldCount C hinX6 (by decide +kernel) dX6_read_114 ?_
        exact j_iret C hQ dX6_read_117 (⟨by rw [hF, hz]; rw [zFin, if_pos c99], by rw [hF, hz]; rw [zFin, if_pos c99]⟩)
      · refine j_iconst C (-1) dX6_read_102 (by decide) ?_
        refine j_aload_n C 0 dX6_read_103 rfl rfl ?_
        refine kg_3_faultPlace C hinX6 (by decide +kernel) dX6_read_104 ?_
        refine j_isub C dX6_read_107 ?_
        exact j_iret C hQ dX6_read_108 (⟨by rw [hF, hz]; rw [zFin, if_neg c99], by rw [hF, hz]; rw [zFin, if_neg c99]⟩)
    · refine j_aload_n C 0 dX6_read_72 rfl rfl ?_
      refine kg_3_awaited C hinX6 (by decide +kernel) dX6_read_73 ?_
      refine j_iconst C 1 dX6_read_76 (by decide) ?_
      refine j_icmp_ne C 89 dX6_read_77 (by decide) (fun c77 => ?_) (fun c77 => ?_)
      · have hw : ¬ c2 3 0 3 = 1 ∨ 120 < tp := Or.inl c77
        refine j_aload_n C 0 dX6_read_89 rfl rfl ?_
        refine j_iconst C 1 dX6_read_90 (by decide) ?_
        refine j_iload_n C 2 dX6_read_91 rfl rfl ?_
        refine j_callV_v C 2 3 (cc_X6_setFault l d ad adK adV al a n o2 c2 hn 1 (stp tp)) cG_3 rfl gX6_read_X6_setFault rfl rfl rfl (by decide +kernel) ⟨(Nat.le_of_ble_eq_true rfl), (Nat.le_of_ble_eq_true rfl)⟩ ⟨(Nat.le_of_ble_eq_true rfl), (Nat.le_of_ble_eq_true rfl)⟩ rfl rfl (Nat.le_of_ble_eq_true rfl) dX6_read_92 (fun u92 h92 => ?_)
        obtain rfl := h92
        have hz : zFt tp c2 = cFt c2 1 (stp tp) := if_pos ⟨c69, hw⟩
        refine j_aload_n C 0 dX6_read_95 rfl rfl ?_
        refine kg_3_faultKind C hinX6 (by decide +kernel) dX6_read_96 ?_
        refine j_if_eq C 109 dX6_read_99 (by decide) (fun c99 => absurd c99 (show ¬ (1 : Int32) = 0 by decide)) (fun c99 => ?_)
        refine j_iconst C (-1) dX6_read_102 (by decide) ?_
        refine j_aload_n C 0 dX6_read_103 rfl rfl ?_
        refine kg_3_faultPlace C hinX6 (by decide +kernel) dX6_read_104 ?_
        refine j_isub C dX6_read_107 ?_
        exact j_iret C hQ dX6_read_108 (⟨by rw [hF, hz]; rw [zFin, if_neg (show ¬ cFt c2 1 (stp tp) 3 0 5 = 0 from by rw [cFt_5]; decide)], by rw [hF, hz]; rw [zFin, if_neg (show ¬ cFt c2 1 (stp tp) 3 0 5 = 0 from by rw [cFt_5]; decide)]⟩)
      · refine j_aload_n C 1 dX6_read_80 rfl rfl ?_
        refine kgN_1_length C hinX7 nst_X6_34 dX6_read_81 ?_
        refine j_st (st2 := [.int (nI tp)]) (congrArg (fun z => Value.int z :: _) hT2) ?_
        refine j_bipush C 120 dX6_read_84 (by decide) ?_
        refine j_icmp_le C 95 dX6_read_86 (by decide) (fun c86 => ?_) (fun c86 => ?_)
        · have c86 := (nI_leI (a := tp) (b := 120) (by omega) (by omega)).mp c86
          have hz : zFt tp c2 = c2 := if_neg (fun h => h.2.elim (fun q => q c77) (fun q => by omega))
          refine j_aload_n C 0 dX6_read_95 rfl rfl ?_
          refine kg_3_faultKind C hinX6 (by decide +kernel) dX6_read_96 ?_
          refine j_if_eq C 109 dX6_read_99 (by decide) (fun c99 => ?_) (fun c99 => ?_)
          · refine j_aload_n C 0 dX6_read_109 rfl rfl ?_
            refine j_callV_v C 0 3 (cc_X6_putInForce l d ad adK adV al a n o2 c2 hn) cG_3 rfl gX6_read_X6_putInForce rfl rfl rfl (by decide +kernel) ⟨(Nat.le_of_ble_eq_true rfl), (Nat.le_of_ble_eq_true rfl)⟩ ⟨(Nat.le_of_ble_eq_true rfl), (Nat.le_of_ble_eq_true rfl)⟩ rfl rfl (Nat.le_of_ble_eq_true rfl) dX6_read_110 (fun u110 h110 => ?_)
            obtain rfl := h110
            refine j_aload_n C 0 dX6_read_113 rfl rfl ?_
            refine kg_3_toldCount C hinX6 (by decide +kernel) dX6_read_114 ?_
            exact j_iret C hQ dX6_read_117 (⟨by rw [hF, hz]; rw [zFin, if_pos c99], by rw [hF, hz]; rw [zFin, if_pos c99]⟩)
          · refine j_iconst C (-1) dX6_read_102 (by decide) ?_
            refine j_aload_n C 0 dX6_read_103 rfl rfl ?_
            refine kg_3_faultPlace C hinX6 (by decide +kernel) dX6_read_104 ?_
            refine j_isub C dX6_read_107 ?_
            exact j_iret C hQ dX6_read_108 (⟨by rw [hF, hz]; rw [zFin, if_neg c99], by rw [hF, hz]; rw [zFin, if_neg c99]⟩)
        · have c86 : ¬ (tp ≤ 120) := fun h => c86 ((nI_leI (a := tp) (b := 120) (by omega) (by omega)).mpr h)
          have hw : ¬ c2 3 0 3 = 1 ∨ 120 < tp := Or.inr (by omega)
          refine j_aload_n C 0 dX6_read_89 rfl rfl ?_
          refine j_iconst C 1 dX6_read_90 (by decide) ?_
          refine j_iload_n C 2 dX6_read_91 rfl rfl ?_
          refine j_callV_v C 2 3 (cc_X6_setFault l d ad adK adV al a n o2 c2 hn 1 (stp tp)) cG_3 rfl gX6_read_X6_setFault rfl rfl rfl (by decide +kernel) ⟨(Nat.le_of_ble_eq_true rfl), (Nat.le_of_ble_eq_true rfl)⟩ ⟨(Nat.le_of_ble_eq_true rfl), (Nat.le_of_ble_eq_true rfl)⟩ rfl rfl (Nat.le_of_ble_eq_true rfl) dX6_read_92 (fun u92 h92 => ?_)
          obtain rfl := h92
          have hz : zFt tp c2 = cFt c2 1 (stp tp) := if_pos ⟨c69, hw⟩
          refine j_aload_n C 0 dX6_read_95 rfl rfl ?_
          refine kg_3_faultKind C hinX6 (by decide +kernel) dX6_read_96 ?_
          refine j_if_eq C 109 dX6_read_99 (by decide) (fun c99 => absurd c99 (show ¬ (1 : Int32) = 0 by decide)) (fun c99 => ?_)
          refine j_iconst C (-1) dX6_read_102 (by decide) ?_
          refine j_aload_n C 0 dX6_read_103 rfl rfl ?_
          refine kg_3_faultPlace C hinX6 (by decide +kernel) dX6_read_104 ?_
          refine j_isub C dX6_read_107 ?_
          exact j_iret C hQ dX6_read_108 (⟨by rw [hF, hz]; rw [zFin, if_neg (show ¬ cFt c2 1 (stp tp) 3 0 5 = 0 from by rw [cFt_5]; decide)], by rw [hF, hz]; rw [zFin, if_neg (show ¬ cFt c2 1 (stp tp) 3 0 5 = 0 from by rw [cFt_5]; decide)]⟩)
  have loop : ∀ (f q : Nat) (o2 : Option Nat) (c2 : Nat → Nat → Nat → Int32), stp tp ≤ q + f → q ≤ 140 → c2 1 0 1 = nI tp → (∀ i, o2 = some i → i < 6) → zFin (zRd tp (stp tp) f q o2 c2).1 (zFt tp (zRd tp (stp tp) f q o2 c2).2) = zRead c tp → jJ X l d A 4 0 0 (cW a d n o2 ad c2) [(0, .ref (a 3 0)), (1, .ref (a 1 0)), (2, .int (nI (stp tp))), (3, .int (nI q))] 16 [] := by
    intro f
    induction f with
    | zero =>
      intro q o2 c2 hsq hq hT2 ho2 hE
      refine j_iload_n C 3 dX6_read_16 rfl rfl ?_
      refine j_iload_n C 2 dX6_read_17 rfl rfl ?_
      refine j_icmp_ge C 65 dX6_read_18 (by decide) (fun _ => ?_) (fun h => absurd ((nI_leI (a := stp tp) (b := q) (by omega) (by omega)).mpr (by omega)) h)
      exact exit q o2 c2 hT2 hE.symm
    | succ f ih =>
      intro q o2 c2 hsq hq hT2 ho2 hE
      refine j_iload_n C 3 dX6_read_16 rfl rfl ?_
      refine j_iload_n C 2 dX6_read_17 rfl rfl ?_
      refine j_icmp_ge C 65 dX6_read_18 (by decide) (fun c18 => ?_) (fun c18 => ?_)
      · have c18 := (nI_leI (a := stp tp) (b := q) (by omega) (by omega)).mp c18
        exact exit q o2 c2 hT2 (by rw [← hE, zRd, if_neg (fun h => by have := h.1; omega)])
      · have c18 : ¬ ((stp tp) ≤ q) := fun h => c18 ((nI_leI (a := stp tp) (b := q) (by omega) (by omega)).mpr h)
        have hqt : q < tp := by unfold stp at c18; split at c18 <;> omega
        have hb := tokE_b (c := c2) hqt
        refine j_aload_n C 0 dX6_read_21 rfl rfl ?_
        refine kg_3_faultKind C hinX6 (by decide +kernel) dX6_read_22 ?_
        refine j_if_ne C 65 dX6_read_25 (by decide) (fun c25 => ?_) (fun c25 => ?_)
        · exact exit q o2 c2 hT2 (by rw [← hE, zRd, if_neg (fun h => c25 h.2)])
        · have hlp : q < stp tp ∧ c2 3 0 5 = 0 := ⟨by omega, c25⟩
          refine j_aload_n C 1 dX6_read_28 rfl rfl ?_
          refine j_iload_n C 3 dX6_read_29 rfl rfl ?_
          refine j_callV_i C 1 1 (cc_X7_at l d ad adK adV al a n o2 c2 hn q tp (by omega) hT2 htp) cG_1 rfl gX6_read_X7_at rfl rfl rfl (by decide +kernel) ⟨(Nat.le_of_ble_eq_true rfl), (Nat.le_of_ble_eq_true rfl)⟩ ⟨(Nat.le_of_ble_eq_true rfl), (Nat.le_of_ble_eq_true rfl)⟩ rfl rfl (Nat.le_of_ble_eq_true rfl) dX6_read_30 (fun r30 u30 h30 => ?_)
          obtain ⟨rfl, rfl⟩ := h30
          refine j_callS_i C 1 (cc_X6_isBlank (cEf ad adK adV al) (cEf_k ad adK adV al) l d _ (cAt c2 tp q)) gX6_read_X6_isBlank rfl rfl rfl (by decide +kernel) ⟨(Nat.le_of_ble_eq_true rfl), (Nat.le_of_ble_eq_true rfl)⟩ ⟨(Nat.le_of_ble_eq_true rfl), (Nat.le_of_ble_eq_true rfl)⟩ rfl rfl (Nat.le_of_ble_eq_true rfl) dX6_read_33 (fun r33 u33 h33 => ?_)
          obtain ⟨rfl, rfl⟩ := h33
          refine j_if_ne C 50 dX6_read_36 (by decide) (fun c36 => ?_) (fun c36 => ?_)
          · have c36 := bI_n0.mp c36
            refine j_iload_n C 3 dX6_read_50 rfl rfl ?_
            refine j_iconst C 1 dX6_read_51 (by decide) ?_
            refine j_iaddN C q 1 dX6_read_52 ?_
            refine j_aload_n C 1 dX6_read_53 rfl rfl ?_
            refine j_iload_n C 3 dX6_read_54 rfl rfl ?_
            refine j_callS_i C 2 (cc_X6_tokenEnd l d ad adK adV al a n o2 c2 hn tp hT2 htp q (by omega)) gX6_read_X6_tokenEnd rfl rfl rfl (by decide +kernel) ⟨(Nat.le_of_ble_eq_true rfl), (Nat.le_of_ble_eq_true rfl)⟩ ⟨(Nat.le_of_ble_eq_true rfl), (Nat.le_of_ble_eq_true rfl)⟩ rfl rfl (Nat.le_of_ble_eq_true rfl) dX6_read_55 (fun r55 u55 h55 => ?_)
            obtain ⟨rfl, rfl⟩ := h55
            refine j_mmax C (by decide +kernel) (by decide +kernel) (by decide +kernel) (by decide +kernel) ⟨(Nat.le_of_ble_eq_true rfl), (Nat.le_of_ble_eq_true rfl)⟩ (Nat.le_of_ble_eq_true rfl) ⟨(Nat.le_of_ble_eq_true rfl), (Nat.le_of_ble_eq_true rfl)⟩ dX6_read_58 ?_
            refine j_st (st2 := [.int (nI (nxt c2 tp q))]) (congrArg (fun z => [Value.int z]) (mx_nI (by omega) (by have := tokE_b (c := c2) hqt; omega))) ?_
            refine j_istore_n C [(0, .ref (a 3 0)), (1, .ref (a 1 0)), (2, .int (nI (stp tp))), (3, .int (nI (nxt c2 tp q)))] [1, 2, 3, 0] dX6_read_61 rfl (by decide) rfl ?_
            refine j_goto C 16 dX6_read_62 (by decide) ?_
            have hnb := nxt_b (c := c2) hqt
            exact ih (nxt c2 tp q) o2 c2 (by omega) (by omega) hT2 ho2 (by rw [← hE, zRd, if_pos hlp, if_pos c36])
          · have c36 := bI_0.mp c36
            refine j_aload_n C 0 dX6_read_39 rfl rfl ?_
            refine j_aload_n C 1 dX6_read_40 rfl rfl ?_
            refine j_iload_n C 3 dX6_read_41 rfl rfl ?_
            refine j_aload_n C 1 dX6_read_42 rfl rfl ?_
            refine j_iload_n C 3 dX6_read_43 rfl rfl ?_
            refine j_callS_i C 2 (cc_X6_tokenEnd l d ad adK adV al a n o2 c2 hn tp hT2 htp q (by omega)) gX6_read_X6_tokenEnd rfl rfl rfl (by decide +kernel) ⟨(Nat.le_of_ble_eq_true rfl), (Nat.le_of_ble_eq_true rfl)⟩ ⟨(Nat.le_of_ble_eq_true rfl), (Nat.le_of_ble_eq_true rfl)⟩ rfl rfl (Nat.le_of_ble_eq_true rfl) dX6_read_44 (fun r44 u44 h44 => ?_)
            obtain ⟨rfl, rfl⟩ := h44
            refine j_callV_v C 3 3 (cc_X6_takeToken l d ad adK adV al a n o2 c2 hn tp hT2 htp ho2 q (tokE c2 tp q) (by omega) (by omega)) cG_3 rfl gX6_read_X6_takeToken rfl rfl rfl (by decide +kernel) ⟨(Nat.le_of_ble_eq_true rfl), (Nat.le_of_ble_eq_true rfl)⟩ ⟨(Nat.le_of_ble_eq_true rfl), (Nat.le_of_ble_eq_true rfl)⟩ rfl rfl (Nat.le_of_ble_eq_true rfl) dX6_read_47 (fun u47 h47 => ?_)
            obtain rfl := h47
            have hT3 : (zTT o2 c2 tp q (tokE c2 tp q)).2 1 0 1 = nI tp := zTT_T.trans hT2
            refine j_iload_n C 3 dX6_read_50 rfl rfl ?_
            refine j_iconst C 1 dX6_read_51 (by decide) ?_
            refine j_iaddN C q 1 dX6_read_52 ?_
            refine j_aload_n C 1 dX6_read_53 rfl rfl ?_
            refine j_iload_n C 3 dX6_read_54 rfl rfl ?_
            refine j_callS_i C 2 (cc_X6_tokenEnd l d ad adK adV al a n ((zTT o2 c2 tp q (tokE c2 tp q)).1) ((zTT o2 c2 tp q (tokE c2 tp q)).2) hn tp hT3 htp q (by omega)) gX6_read_X6_tokenEnd rfl rfl rfl (by decide +kernel) ⟨(Nat.le_of_ble_eq_true rfl), (Nat.le_of_ble_eq_true rfl)⟩ ⟨(Nat.le_of_ble_eq_true rfl), (Nat.le_of_ble_eq_true rfl)⟩ rfl rfl (Nat.le_of_ble_eq_true rfl) dX6_read_55 (fun r55 u55 h55 => ?_)
            obtain ⟨rfl, rfl⟩ := h55
            refine j_mmax C (by decide +kernel) (by decide +kernel) (by decide +kernel) (by decide +kernel) ⟨(Nat.le_of_ble_eq_true rfl), (Nat.le_of_ble_eq_true rfl)⟩ (Nat.le_of_ble_eq_true rfl) ⟨(Nat.le_of_ble_eq_true rfl), (Nat.le_of_ble_eq_true rfl)⟩ dX6_read_58 ?_
            refine j_st (st2 := [.int (nI (nxt ((zTT o2 c2 tp q (tokE c2 tp q)).2) tp q))]) (congrArg (fun z => [Value.int z]) (mx_nI (by omega) (by have := tokE_b (c := (zTT o2 c2 tp q (tokE c2 tp q)).2) hqt; omega))) ?_
            refine j_istore_n C [(0, .ref (a 3 0)), (1, .ref (a 1 0)), (2, .int (nI (stp tp))), (3, .int (nI (nxt ((zTT o2 c2 tp q (tokE c2 tp q)).2) tp q)))] [1, 2, 3, 0] dX6_read_61 rfl (by decide) rfl ?_
            refine j_goto C 16 dX6_read_62 (by decide) ?_
            have hnb := nxt_b (c := (zTT o2 c2 tp q (tokE c2 tp q)).2) hqt
            exact ih (nxt (zTT o2 c2 tp q (tokE c2 tp q)).2 tp q) (zTT o2 c2 tp q (tokE c2 tp q)).1 (zTT o2 c2 tp q (tokE c2 tp q)).2 (by omega) (by omega) hT3 (zTT_o ho2) (by rw [← hE, zRd, if_pos hlp, if_neg c36])
  refine j_aload_n C 0 dX6_read_0 rfl rfl ?_
  refine j_callV_v C 0 3 (cc_X6_begin l d ad adK adV al a n op c hn) cG_3 rfl gX6_read_X6_begin rfl rfl rfl (by decide +kernel) ⟨(Nat.le_of_ble_eq_true rfl), (Nat.le_of_ble_eq_true rfl)⟩ ⟨(Nat.le_of_ble_eq_true rfl), (Nat.le_of_ble_eq_true rfl)⟩ rfl rfl (Nat.le_of_ble_eq_true rfl) dX6_read_1 (fun u1 h1 => ?_)
  obtain rfl := h1
  refine j_aload_n C 1 dX6_read_4 rfl rfl ?_
  refine kgN_1_length C hinX7 nst_X6_34 dX6_read_5 ?_
  refine j_st (st2 := [.int (nI tp)]) (congrArg (fun z => Value.int z :: _) hB) ?_
  refine j_bipush C 120 dX6_read_8 (by decide) ?_
  refine j_mmin C (by decide +kernel) (by decide +kernel) (by decide +kernel) (by decide +kernel) ⟨(Nat.le_of_ble_eq_true rfl), (Nat.le_of_ble_eq_true rfl)⟩ (Nat.le_of_ble_eq_true rfl) ⟨(Nat.le_of_ble_eq_true rfl), (Nat.le_of_ble_eq_true rfl)⟩ dX6_read_10 ?_
  refine j_st (st2 := [.int (nI (stp tp))]) (congrArg (fun z => [Value.int z]) (mn_nI (a := tp) (b := 120) (by omega) (by decide))) ?_
  refine j_istore_n C [(0, .ref (a 3 0)), (1, .ref (a 1 0)), (2, .int (nI (stp tp)))] [1, 2, 0] dX6_read_13 rfl (by decide) rfl ?_
  refine j_iconst C 0 dX6_read_14 (by decide) ?_
  refine j_istore_n C [(0, .ref (a 3 0)), (1, .ref (a 1 0)), (2, .int (nI (stp tp))), (3, .int 0)] [1, 2, 3, 0] dX6_read_15 rfl (by decide) rfl ?_
  exact loop 121 0 none (cBeg c) (by omega) (by omega) hB (fun i h => by cases h) rfl

theorem zFin_T {op : Option Nat} {c : Nat → Nat → Nat → Int32} : (zFin op c).2.2 1 0 1 = c 1 0 1 := by
  unfold zFin
  split
  · exact cPf_T c 6
  · rfl
def zRules (c : Nat → Nat → Nat → Int32) (tp : Nat) : Int32 × Option Nat × (Nat → Nat → Nat → Int32) := ((zRead c tp).1, (zRead c tp).2.1, if 0 ≤ (0 : Int32) ∧ 0 ≤ (zRead c tp).2.2 1 0 1 then cu (zRead c tp).2.2 1 0 1 0 else (zRead c tp).2.2)

set_option maxHeartbeats 4000000 in
set_option maxRecDepth 100000 in
theorem cc_X9_rules (l : Launch) (d : jD) (ad adK adV : Nat → Nat) (al : Nat) (a : Nat → Nat → Nat) (n : Nat → Nat) (op : Option Nat) (c : Nat → Nat → Nat → Int32) (hn : nOK n) (tp : Nat) (hT : c 1 0 1 = nI tp) (htp : tp ≤ 140) : jMi (cEf ad adK adV al) d l yX9_rules wsX9_rules ({ frames := 9, cells := 0, slots := 0, locals := 205 } : Room) 0 0 [.ref (a 0 0)] (cW a d n op ad c) (fun r u => r = (zRules c tp).1 ∧ u = cW a d n (zRules c tp).2.1 ad (zRules c tp).2.2) := by
  refine jMi.mk (cEf_k ad adK adV al) (by decide) rfl (Nat.le_of_ble_eq_true rfl) (fun X A C hQ => ?_)
  have hinX9 : ∀ w ∈ u_ws RX9 TX9 11, w ∈ wsX9_rules := fun w h => List.mem_cons_of_mem _ (List.mem_append_left _ (List.mem_append_left _ (List.mem_append_right _ h)))
  refine j_lvq (lv2 := [(0, .ref (a 0 0))]) rfl ?_
  refine j_aload_n C 0 dX9_rules_0 rfl rfl ?_
  refine kg_0_ruleText C hinX9 (by decide +kernel) dX9_rules_1 ?_
  refine j_aload_n C 0 dX9_rules_4 rfl rfl ?_
  refine kg_0_tape C hinX9 (by decide +kernel) dX9_rules_5 ?_
  refine j_callV_i C 1 3 (cc_X6_read l d ad adK adV al a n op c hn tp hT htp) cG_3 rfl gX9_rules_X6_read rfl rfl rfl (by decide +kernel) ⟨(Nat.le_of_ble_eq_true rfl), (Nat.le_of_ble_eq_true rfl)⟩ ⟨(Nat.le_of_ble_eq_true rfl), (Nat.le_of_ble_eq_true rfl)⟩ rfl rfl (Nat.le_of_ble_eq_true rfl) dX9_rules_8 (fun r8 u8 h8 => ?_)
  obtain ⟨rfl, rfl⟩ := h8
  refine j_istore_n C [(0, .ref (a 0 0)), (1, .int ((zRead c tp).1))] [1, 0] dX9_rules_11 rfl (by decide) rfl ?_
  refine j_aload_n C 0 dX9_rules_12 rfl rfl ?_
  refine kg_0_tape C hinX9 (by decide +kernel) dX9_rules_13 ?_
  refine j_iconst C 0 dX9_rules_16 (by decide) ?_
  refine j_callV_i C 1 1 (cc_X7_shortenTo l d ad adK adV al a n ((zRead c tp).2.1) ((zRead c tp).2.2) hn 0) cG_1 rfl gX9_rules_X7_shortenTo rfl rfl rfl (by decide +kernel) ⟨(Nat.le_of_ble_eq_true rfl), (Nat.le_of_ble_eq_true rfl)⟩ ⟨(Nat.le_of_ble_eq_true rfl), (Nat.le_of_ble_eq_true rfl)⟩ rfl rfl (Nat.le_of_ble_eq_true rfl) dX9_rules_17 (fun r17 u17 h17 => ?_)
  obtain ⟨rfl, rfl⟩ := h17
  refine j_pop C dX9_rules_20 rfl ?_
  refine j_iload_n C 1 dX9_rules_21 rfl rfl ?_
  exact j_iret C hQ dX9_rules_22 (⟨rfl, rfl⟩)


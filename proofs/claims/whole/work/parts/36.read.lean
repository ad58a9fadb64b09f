set_option maxHeartbeats 4000000 in
set_option maxRecDepth 100000 in
theorem cc_X6_isLetter (Ef : jE) (hk : jKp Ef) (l : Launch) (d : jD) (ws : va_W) (x : Int32) : jMi Ef d l yX6_isLetter wsX6_isLetter ({ frames := 0, cells := 0, slots := 0, locals := 0 } : Room) 0 0 [.int x] ws (fun r u => r = bI (97 ≤ x ∧ x ≤ 122) ∧ u = ws) := by
  refine jMi.mk hk (by decide) rfl (Nat.le_of_ble_eq_true rfl) (fun X A C hQ => ?_)
  refine j_lvq (lv2 := [(0, .int x)]) rfl ?_
  refine j_iload_n C 0 dX6_isLetter_0 rfl rfl ?_
  refine j_bipush C 97 dX6_isLetter_1 (by decide) ?_
  refine j_icmp_lt C 16 dX6_isLetter_3 (by decide) (fun c3 => ?_) (fun c3 => ?_)
  · refine j_iconst C 0 dX6_isLetter_16 (by decide) ?_
    exact j_zret C hQ rfl dX6_isLetter_17 (⟨bI_f (fun h => absurd h.1 (i_nle.mpr c3)), rfl⟩)
  · refine j_iload_n C 0 dX6_isLetter_6 rfl rfl ?_
    refine j_bipush C 122 dX6_isLetter_7 (by decide) ?_
    refine j_icmp_gt C 16 dX6_isLetter_9 (by decide) (fun c9 => ?_) (fun c9 => ?_)
    · refine j_iconst C 0 dX6_isLetter_16 (by decide) ?_
      exact j_zret C hQ rfl dX6_isLetter_17 (⟨bI_f (fun h => absurd h.2 (i_nle.mpr c9)), rfl⟩)
    · refine j_iconst C 1 dX6_isLetter_12 (by decide) ?_
      refine j_goto C 17 dX6_isLetter_13 (by decide) ?_
      exact j_zret C hQ rfl dX6_isLetter_17 (⟨bI_t ⟨i_nlt.mp c3, i_nlt.mp c9⟩, rfl⟩)

set_option maxHeartbeats 4000000 in
set_option maxRecDepth 100000 in
theorem cc_X6_isDigit (Ef : jE) (hk : jKp Ef) (l : Launch) (d : jD) (ws : va_W) (x : Int32) : jMi Ef d l yX6_isDigit wsX6_isDigit ({ frames := 0, cells := 0, slots := 0, locals := 0 } : Room) 0 0 [.int x] ws (fun r u => r = bI (48 ≤ x ∧ x ≤ 57) ∧ u = ws) := by
  refine jMi.mk hk (by decide) rfl (Nat.le_of_ble_eq_true rfl) (fun X A C hQ => ?_)
  refine j_lvq (lv2 := [(0, .int x)]) rfl ?_
  refine j_iload_n C 0 dX6_isDigit_0 rfl rfl ?_
  refine j_bipush C 48 dX6_isDigit_1 (by decide) ?_
  refine j_icmp_lt C 16 dX6_isDigit_3 (by decide) (fun c3 => ?_) (fun c3 => ?_)
  · refine j_iconst C 0 dX6_isDigit_16 (by decide) ?_
    exact j_zret C hQ rfl dX6_isDigit_17 (⟨bI_f (fun h => absurd h.1 (i_nle.mpr c3)), rfl⟩)
  · refine j_iload_n C 0 dX6_isDigit_6 rfl rfl ?_
    refine j_bipush C 57 dX6_isDigit_7 (by decide) ?_
    refine j_icmp_gt C 16 dX6_isDigit_9 (by decide) (fun c9 => ?_) (fun c9 => ?_)
    · refine j_iconst C 0 dX6_isDigit_16 (by decide) ?_
      exact j_zret C hQ rfl dX6_isDigit_17 (⟨bI_f (fun h => absurd h.2 (i_nle.mpr c9)), rfl⟩)
    · refine j_iconst C 1 dX6_isDigit_12 (by decide) ?_
      refine j_goto C 17 dX6_isDigit_13 (by decide) ?_
      exact j_zret C hQ rfl dX6_isDigit_17 (⟨bI_t ⟨i_nlt.mp c3, i_nlt.mp c9⟩, rfl⟩)

set_option maxHeartbeats 4000000 in
set_option maxRecDepth 100000 in
theorem cc_X6_isBlank (Ef : jE) (hk : jKp Ef) (l : Launch) (d : jD) (ws : va_W) (x : Int32) : jMi Ef d l yX6_isBlank wsX6_isBlank ({ frames := 0, cells := 0, slots := 0, locals := 0 } : Room) 0 0 [.int x] ws (fun r u => r = bI (x = 32 ∨ x = 10) ∧ u = ws) := by
  refine jMi.mk hk (by decide) rfl (Nat.le_of_ble_eq_true rfl) (fun X A C hQ => ?_)
  refine j_lvq (lv2 := [(0, .int x)]) rfl ?_
  refine j_iload_n C 0 dX6_isBlank_0 rfl rfl ?_
  refine j_bipush C 32 dX6_isBlank_1 (by decide) ?_
  refine j_icmp_eq C 12 dX6_isBlank_3 (by decide) (fun c3 => ?_) (fun c3 => ?_)
  · refine j_iconst C 1 dX6_isBlank_12 (by decide) ?_
    refine j_goto C 17 dX6_isBlank_13 (by decide) ?_
    exact j_zret C hQ rfl dX6_isBlank_17 (⟨bI_t (Or.inl c3), rfl⟩)
  · refine j_iload_n C 0 dX6_isBlank_6 rfl rfl ?_
    refine j_bipush C 10 dX6_isBlank_7 (by decide) ?_
    refine j_icmp_ne C 16 dX6_isBlank_9 (by decide) (fun c9 => ?_) (fun c9 => ?_)
    · refine j_iconst C 0 dX6_isBlank_16 (by decide) ?_
      exact j_zret C hQ rfl dX6_isBlank_17 (⟨bI_f (fun h => h.elim c3 c9), rfl⟩)
    · refine j_iconst C 1 dX6_isBlank_12 (by decide) ?_
      refine j_goto C 17 dX6_isBlank_13 (by decide) ?_
      exact j_zret C hQ rfl dX6_isBlank_17 (⟨bI_t (Or.inr c9), rfl⟩)

abbrev ltP (x : Int32) : Prop := 97 ≤ x ∧ x ≤ 122
abbrev dgP (x : Int32) : Prop := 48 ≤ x ∧ x ≤ 57
abbrev wnP (x : Int32) : Prop := ltP x ∨ dgP x

set_option maxHeartbeats 4000000 in
set_option maxRecDepth 100000 in
theorem cc_X6_isOfWordOrNumber (Ef : jE) (hk : jKp Ef) (l : Launch) (d : jD) (ws : va_W) (x : Int32) : jMi Ef d l yX6_isOfWordOrNumber wsX6_isOfWordOrNumber ({ frames := 1, cells := 0, slots := 0, locals := 20 } : Room) 0 0 [.int x] ws (fun r u => r = bI (wnP x) ∧ u = ws) := by
  refine jMi.mk hk (by decide) rfl (Nat.le_of_ble_eq_true rfl) (fun X A C hQ => ?_)
  refine j_lvq (lv2 := [(0, .int x)]) rfl ?_
  refine j_iload_n C 0 dX6_isOfWordOrNumber_0 rfl rfl ?_
  refine j_callS_i C 1 (cc_X6_isLetter Ef hk l d _ x) gX6_isOfWordOrNumber_X6_isLetter rfl rfl rfl (by decide +kernel) ⟨(Nat.le_of_ble_eq_true rfl), (Nat.le_of_ble_eq_true rfl)⟩ ⟨(Nat.le_of_ble_eq_true rfl), (Nat.le_of_ble_eq_true rfl)⟩ rfl rfl (Nat.le_of_ble_eq_true rfl) dX6_isOfWordOrNumber_1 (fun r1 u1 h1 => ?_)
  obtain ⟨rfl, rfl⟩ := h1
  refine j_if_ne C 14 dX6_isOfWordOrNumber_4 (by decide) (fun c4 => ?_) (fun c4 => ?_)
  · refine j_iconst C 1 dX6_isOfWordOrNumber_14 (by decide) ?_
    refine j_goto C 19 dX6_isOfWordOrNumber_15 (by decide) ?_
    exact j_zret C hQ rfl dX6_isOfWordOrNumber_19 (⟨bI_t (Or.inl (bI_n0.mp c4)), rfl⟩)
  · refine j_iload_n C 0 dX6_isOfWordOrNumber_7 rfl rfl ?_
    refine j_callS_i C 1 (cc_X6_isDigit Ef hk l d _ x) gX6_isOfWordOrNumber_X6_isDigit rfl rfl rfl (by decide +kernel) ⟨(Nat.le_of_ble_eq_true rfl), (Nat.le_of_ble_eq_true rfl)⟩ ⟨(Nat.le_of_ble_eq_true rfl), (Nat.le_of_ble_eq_true rfl)⟩ rfl rfl (Nat.le_of_ble_eq_true rfl) dX6_isOfWordOrNumber_8 (fun r8 u8 h8 => ?_)
    obtain ⟨rfl, rfl⟩ := h8
    refine j_if_eq C 18 dX6_isOfWordOrNumber_11 (by decide) (fun c11 => ?_) (fun c11 => ?_)
    · refine j_iconst C 0 dX6_isOfWordOrNumber_18 (by decide) ?_
      exact j_zret C hQ rfl dX6_isOfWordOrNumber_19 (⟨bI_f (fun h => h.elim (bI_0.mp c4) (bI_0.mp c11)), rfl⟩)
    · refine j_iconst C 1 dX6_isOfWordOrNumber_14 (by decide) ?_
      refine j_goto C 19 dX6_isOfWordOrNumber_15 (by decide) ?_
      exact j_zret C hQ rfl dX6_isOfWordOrNumber_19 (⟨bI_t (Or.inr (bI_n0.mp c11)), rfl⟩)

def tEnd (c : Nat → Nat → Nat → Int32) (tp : Nat) : Nat → Nat → Nat
  | 0, q => q
  | k + 1, q => if wnP (cAt c tp q) then tEnd c tp k (q + 1) else q
theorem tEnd_b (c : Nat → Nat → Nat → Int32) (tp : Nat) : ∀ k q, q ≤ tEnd c tp k q ∧ tEnd c tp k q ≤ q + k
  | 0, q => ⟨Nat.le_refl _, Nat.le_refl _⟩
  | k + 1, q => by
    rw [tEnd]
    have := tEnd_b c tp k (q + 1)
    split <;> omega
def tokE (c : Nat → Nat → Nat → Int32) (tp p : Nat) : Nat := if tEnd c tp (tp - p) p < p + 1 then p + 1 else tEnd c tp (tp - p) p
theorem tokE_b {c : Nat → Nat → Nat → Int32} {tp p : Nat} (h : p < tp) : p + 1 ≤ tokE c tp p ∧ tokE c tp p ≤ tp := by
  have := tEnd_b c tp (tp - p) p
  unfold tokE
  split <;> omega
theorem tokE_of {c : Nat → Nat → Nat → Int32} {tp p E : Nat} (hE : E = tEnd c tp (tp - p) p) (hb : p < tp) (ht : tp ≤ 140) : (if nI E < nI (p + 1) then nI (p + 1) else nI E) = nI (tokE c tp p) := by
  have := tEnd_b c tp (tp - p) p
  unfold tokE
  rw [← hE]
  by_cases h : E < p + 1
  · rw [if_pos h, if_pos ((nI_ltI (by omega) (by omega)).mpr h)]
  · rw [if_neg h, if_neg (fun q => h ((nI_ltI (by omega) (by omega)).mp q))]
def kL (c : Nat → Nat → Nat → Int32) (tp p : Nat) : Nat → Nat
  | 0 => 0
  | k + 1 => kL c tp p k + (if ltP (cAt c tp (p + k)) then 1 else 0)
def kD (c : Nat → Nat → Nat → Int32) (tp p : Nat) : Nat → Nat
  | 0 => 0
  | k + 1 => kD c tp p k + (if dgP (cAt c tp (p + k)) then 1 else 0)
theorem kL_le (c : Nat → Nat → Nat → Int32) (tp p : Nat) : ∀ k, kL c tp p k ≤ k
  | 0 => Nat.le_refl 0
  | k + 1 => by
    rw [kL]
    have := kL_le c tp p k
    split <;> omega
theorem kD_le (c : Nat → Nat → Nat → Int32) (tp p : Nat) : ∀ k, kD c tp p k ≤ k
  | 0 => Nat.le_refl 0
  | k + 1 => by
    rw [kD]
    have := kD_le c tp p k
    split <;> omega
def tokK (c : Nat → Nat → Nat → Int32) (tp p e : Nat) : Int32 := if kL c tp p (e - p) = e - p then 1 else if kD c tp p (e - p) = e - p ∧ kD c tp p (e - p) ≤ 4 then 2 else if cAt c tp p = 59 then 3 else 0
abbrev splW (c : Nat → Nat → Nat → Int32) (tp p e i : Nat) : Prop := lenR.getD i 0 = e - p ∧ ∀ j, j < lenR.getD i 0 → cAt c tp (p + j) = (bytR.getD i []).getD j 0
def rF (c : Nat → Nat → Nat → Int32) (tp p e : Nat) : Nat → Nat → Option Nat
  | 0, _ => none
  | k + 1, i => if splW c tp p e i then some i else rF c tp p e k (i + 1)
theorem rF_lt {c : Nat → Nat → Nat → Int32} {tp p e : Nat} : ∀ (k i : Nat) {j : Nat}, rF c tp p e k i = some j → j < i + k
  | 0, i, j, h => by simp [rF] at h
  | k + 1, i, j, h => by
    rw [rF] at h
    split at h
    · cases h; omega
    · have := rF_lt k (i + 1) h; omega
def cFt (c : Nat → Nat → Nat → Int32) (k : Int32) (p : Nat) : Nat → Nat → Nat → Int32 := cu (cu c 3 0 5 k) 3 0 6 (nI p)
def zTW (c : Nat → Nat → Nat → Int32) (tp p e : Nat) : Option Nat × (Nat → Nat → Nat → Int32) := match rF c tp p e 6 0 with
  | none => (none, cFt c 1 p)
  | some i => if c 5 0 i = -1 then (some i, cu c 3 0 3 2) else (some i, cFt c 3 p)
def nmb (c : Nat → Nat → Nat → Int32) (tp p : Nat) : Nat → Int32
  | 0 => 0
  | k + 1 => nmb c tp p k * 10 + cAt c tp (p + k) - 48
def zTN (op : Option Nat) (c : Nat → Nat → Nat → Int32) (tp p e : Nat) : Option Nat × (Nat → Nat → Nat → Int32) := match op with
  | none => (none, cFt c 2 p)
  | some i => if loR i ≤ nmb c tp p (e - p) ∧ nmb c tp p (e - p) ≤ hiR i then (some i, cu (cu (cu c 5 0 i (nmb c tp p (e - p))) 3 0 2 (c 3 0 2 + 1)) 3 0 3 3) else (some i, cFt c 2 p)
def zTT (op : Option Nat) (c : Nat → Nat → Nat → Int32) (tp p e : Nat) : Option Nat × (Nat → Nat → Nat → Int32) := if tokK c tp p e = c 3 0 3 then (if tokK c tp p e = 1 then zTW c tp p e else if tokK c tp p e = 2 then zTN op c tp p e else (op, cu c 3 0 3 1)) else (op, cFt c 1 p)
theorem zTT_T {op : Option Nat} {c : Nat → Nat → Nat → Int32} {tp p e : Nat} : (zTT op c tp p e).2 1 0 1 = c 1 0 1 := by
  unfold zTT zTW zTN cFt
  repeat' split
  all_goals simp [cu_at]
theorem zTT_o {op : Option Nat} {c : Nat → Nat → Nat → Int32} {tp p e : Nat} (h : ∀ i, op = some i → i < 6) : ∀ i, (zTT op c tp p e).1 = some i → i < 6 := by
  intro j hj
  unfold zTT at hj
  split at hj
  · split at hj
    · unfold zTW at hj
      cases hr : rF c tp p e 6 0 with
      | none => rw [hr] at hj; cases hj
      | some i =>
        have := rF_lt 6 0 hr
        rw [hr] at hj
        dsimp only at hj
        split at hj <;> (cases hj; omega)
    · split at hj
      · unfold zTN at hj
        cases op with
        | none => cases hj
        | some i =>
          dsimp only at hj
          split at hj <;> (cases hj; exact h _ rfl)
      · exact h _ hj
  · exact h _ hj
theorem kp_3_open {Ef : jE} {X : jX} {l : Launch} {d : jD} {A : Nat → Prop} {cc : ByteArray} {nL cells slots : Nat} {Ts : List Cond} {own : String} {rm : Room} {ret : Option FieldType} {lv : List (Nat × Value)} {pc idx : Nat} {st : List Value} {a : Nat → Nat → Nat} {n : Nat → Nat} {op : Option Nat} {ad : Nat → Nat} {c : Nat → Nat → Nat → Int32} (C : jC Ef X l d A cc nL Ts own rm ret) (o : Option Nat) (hin : ∀ w ∈ u_ws RX6 TX6 7, w ∈ Ts) (hlink : Cond.fieldLink own idx "CouponSale$RuleText" "open" "LCouponSale$Rule;" ∈ Ts) (hdg : decode cc pc = .ok (.putfield idx, 3)) (kk : jJ X l d A nL cells slots (cW a d n o ad c) lv (pc + 3) st) : jJ X l d A nL cells slots (cW a d n op ad c) lv pc (va_re ad o :: .ref (a 3 0) :: st) := j_put C hin tyX6_ok nmX6 3 4 cG_3 rfl (by decide) hlink rfl (ty := .object "CouponSale$Rule") rfl (by cases o <;> rfl) (by cases o <;> rfl) (by decide : 4 < 7) rfl hdg kk

set_option maxHeartbeats 4000000 in
set_option maxRecDepth 100000 in
theorem cc_X6_tokenEnd (l : Launch) (d : jD) (ad adK adV : Nat → Nat) (al : Nat) (a : Nat → Nat → Nat) (n : Nat → Nat) (op : Option Nat) (c : Nat → Nat → Nat → Int32) (hn : nOK n) (tp : Nat) (hT : c 1 0 1 = nI tp) (htp : tp ≤ 140) (p : Nat) (hp : p < tp) : jMi (cEf ad adK adV al) d l yX6_tokenEnd wsX6_tokenEnd ({ frames := 2, cells := 0, slots := 0, locals := 40 } : Room) 0 0 [.ref (a 1 0), .int (nI p)] (cW a d n op ad c) (fun r u => r = nI (tokE c tp p) ∧ u = cW a d n op ad c) := by
  refine jMi.mk (cEf_k ad adK adV al) (by decide) rfl (Nat.le_of_ble_eq_true rfl) (fun X A C hQ => ?_)
  have hinX7 : ∀ w ∈ u_ws RX7 TX7 2, w ∈ wsX6_tokenEnd := fun w h => List.mem_cons_of_mem _ (List.mem_append_right _ h)
  refine j_lvq (lv2 := [(0, .ref (a 1 0)), (1, .int (nI p))]) rfl ?_
  have loop : ∀ k q : Nat, q + k = tp → tEnd c tp k q = tEnd c tp (tp - p) p → jJ X l d A 3 0 0 (cW a d n op ad c) [(0, .ref (a 1 0)), (1, .int (nI p)), (2, .int (nI q))] 2 [] := by
    intro k
    induction k with
    | zero =>
      intro q hq hE
      refine j_iload_n C 2 dX6_tokenEnd_2 rfl rfl ?_
      refine j_aload_n C 0 dX6_tokenEnd_3 rfl rfl ?_
      refine kgN_1_length C hinX7 nst_X6_34 dX6_tokenEnd_4 ?_
      refine j_st (st2 := [.int (nI tp), .int (nI q)]) (congrArg (fun z => Value.int z :: _) hT) ?_
      refine j_icmp_ge C 27 dX6_tokenEnd_7 (by decide) (fun c7 => ?_) (fun c7 => absurd ((nI_leI (a := tp) (b := q) (by omega) (by omega)).mpr (by omega)) c7)
      refine j_iload_n C 2 dX6_tokenEnd_27 rfl rfl ?_
      refine j_iload_n C 1 dX6_tokenEnd_28 rfl rfl ?_
      refine j_iconst C 1 dX6_tokenEnd_29 (by decide) ?_
      refine j_iaddN C p 1 dX6_tokenEnd_30 ?_
      refine j_mmax C (by decide +kernel) (by decide +kernel) (by decide +kernel) (by decide +kernel) ⟨(Nat.le_of_ble_eq_true rfl), (Nat.le_of_ble_eq_true rfl)⟩ (Nat.le_of_ble_eq_true rfl) ⟨(Nat.le_of_ble_eq_true rfl), (Nat.le_of_ble_eq_true rfl)⟩ dX6_tokenEnd_31 ?_
      exact j_iret C hQ dX6_tokenEnd_34 (⟨tokE_of hE (by omega) htp, rfl⟩)
    | succ k ih =>
      intro q hq hE
      refine j_iload_n C 2 dX6_tokenEnd_2 rfl rfl ?_
      refine j_aload_n C 0 dX6_tokenEnd_3 rfl rfl ?_
      refine kgN_1_length C hinX7 nst_X6_34 dX6_tokenEnd_4 ?_
      refine j_st (st2 := [.int (nI tp), .int (nI q)]) (congrArg (fun z => Value.int z :: _) hT) ?_
      refine j_icmp_ge C 27 dX6_tokenEnd_7 (by decide) (fun c7 => absurd c7 (fun h => by have := (nI_leI (a := tp) (b := q) (by omega) (by omega)).mp h; omega)) (fun c7 => ?_)
      refine j_aload_n C 0 dX6_tokenEnd_10 rfl rfl ?_
      refine j_iload_n C 2 dX6_tokenEnd_11 rfl rfl ?_
      refine j_callV_i C 1 1 (cc_X7_at l d ad adK adV al a n op c hn q tp (by omega) hT htp) cG_1 rfl gX6_tokenEnd_X7_at rfl rfl rfl (by decide +kernel) ⟨(Nat.le_of_ble_eq_true rfl), (Nat.le_of_ble_eq_true rfl)⟩ ⟨(Nat.le_of_ble_eq_true rfl), (Nat.le_of_ble_eq_true rfl)⟩ rfl rfl (Nat.le_of_ble_eq_true rfl) dX6_tokenEnd_12 (fun r12 u12 h12 => ?_)
      obtain ⟨rfl, rfl⟩ := h12
      refine j_callS_i C 1 (cc_X6_isOfWordOrNumber (cEf ad adK adV al) (cEf_k ad adK adV al) l d _ (cAt c tp q)) gX6_tokenEnd_X6_isOfWordOrNumber rfl rfl rfl (by decide +kernel) ⟨(Nat.le_of_ble_eq_true rfl), (Nat.le_of_ble_eq_true rfl)⟩ ⟨(Nat.le_of_ble_eq_true rfl), (Nat.le_of_ble_eq_true rfl)⟩ rfl rfl (Nat.le_of_ble_eq_true rfl) dX6_tokenEnd_15 (fun r15 u15 h15 => ?_)
      obtain ⟨rfl, rfl⟩ := h15
      refine j_if_eq C 27 dX6_tokenEnd_18 (by decide) (fun c18 => ?_) (fun c18 => ?_)
      · have c18 := bI_0.mp c18
        refine j_iload_n C 2 dX6_tokenEnd_27 rfl rfl ?_
        refine j_iload_n C 1 dX6_tokenEnd_28 rfl rfl ?_
        refine j_iconst C 1 dX6_tokenEnd_29 (by decide) ?_
        refine j_iaddN C p 1 dX6_tokenEnd_30 ?_
        refine j_mmax C (by decide +kernel) (by decide +kernel) (by decide +kernel) (by decide +kernel) ⟨(Nat.le_of_ble_eq_true rfl), (Nat.le_of_ble_eq_true rfl)⟩ (Nat.le_of_ble_eq_true rfl) ⟨(Nat.le_of_ble_eq_true rfl), (Nat.le_of_ble_eq_true rfl)⟩ dX6_tokenEnd_31 ?_
        exact j_iret C hQ dX6_tokenEnd_34 (⟨tokE_of (by rw [← hE, tEnd, if_neg c18]) (by omega) htp, rfl⟩)
      · have c18 := bI_n0.mp c18
        refine j_iinc C (nI (q + 1)) [(0, .ref (a 1 0)), (1, .int (nI p)), (2, .int (nI (q + 1)))] 2 [1, 2, 0] dX6_tokenEnd_21 rfl (nI_1 q) (by decide) rfl ?_
        refine j_goto C 2 dX6_tokenEnd_24 (by decide) ?_
        exact ih (q + 1) (by omega) (by rw [← hE, tEnd, if_pos c18])
  refine j_iload_n C 1 dX6_tokenEnd_0 rfl rfl ?_
  refine j_istore_n C [(0, .ref (a 1 0)), (1, .int (nI p)), (2, .int (nI p))] [1, 2, 0] dX6_tokenEnd_1 rfl (by decide) rfl ?_
  exact loop (tp - p) p (by omega) rfl

set_option maxHeartbeats 4000000 in
set_option maxRecDepth 100000 in
theorem cc_X6_tokenKind (l : Launch) (d : jD) (ad adK adV : Nat → Nat) (al : Nat) (a : Nat → Nat → Nat) (n : Nat → Nat) (op : Option Nat) (c : Nat → Nat → Nat → Int32) (hn : nOK n) (tp : Nat) (hT : c 1 0 1 = nI tp) (htp : tp ≤ 140) (p e : Nat) (hp : p < e) (he : e ≤ tp) : jMi (cEf ad adK adV al) d l yX6_tokenKind wsX6_tokenKind ({ frames := 1, cells := 0, slots := 0, locals := 21 } : Room) 0 0 [.ref (a 1 0), .int (nI p), .int (nI e)] (cW a d n op ad c) (fun r u => r = tokK c tp p e ∧ u = cW a d n op ad c) := by
  refine jMi.mk (cEf_k ad adK adV al) (by decide) rfl (Nat.le_of_ble_eq_true rfl) (fun X A C hQ => ?_)
  refine j_lvq (lv2 := [(0, .ref (a 1 0)), (1, .int (nI p)), (2, .int (nI e))]) rfl ?_
  have loop : ∀ fz k : Nat, k ≤ e - p → e - p - k < fz → jJ X l d A 6 0 0 (cW a d n op ad c) [(0, .ref (a 1 0)), (1, .int (nI p)), (2, .int (nI e)), (3, .int (nI (kL c tp p k))), (4, .int (nI (kD c tp p k))), (5, .int (nI (p + k)))] 8 [] := by
    intro fz
    induction fz with
    | zero => intro k _ h; exact absurd h (Nat.not_lt_zero _)
    | succ fz ih =>
      intro k hk hfz
      have hL := kL_le c tp p k
      have hD := kD_le c tp p k
      refine j_iload C 5 dX6_tokenKind_8 rfl ?_
      refine j_iload_n C 2 dX6_tokenKind_10 rfl rfl ?_
      refine j_icmp_ge C 62 dX6_tokenKind_11 (by decide) (fun c11 => ?_) (fun c11 => ?_)
      · have c11 := (nI_leI (a := e) (b := p + k) (by omega) (by omega)).mp c11
        obtain rfl : k = e - p := by omega
        refine j_iload_n C 3 dX6_tokenKind_62 rfl rfl ?_
        refine j_iload_n C 2 dX6_tokenKind_63 rfl rfl ?_
        refine j_iload_n C 1 dX6_tokenKind_64 rfl rfl ?_
        refine j_isubN C e p (by omega) dX6_tokenKind_65 ?_
        refine j_icmp_ne C 71 dX6_tokenKind_66 (by decide) (fun c66 => ?_) (fun c66 => ?_)
        · have c66 : ¬ ((kL c tp p (e - p)) = (e - p)) := fun h => c66 ((nI_eq (a := kL c tp p (e - p)) (b := e - p) (by omega) (by omega)).mpr h)
          refine j_iload C 4 dX6_tokenKind_71 rfl ?_
          refine j_iload_n C 2 dX6_tokenKind_73 rfl rfl ?_
          refine j_iload_n C 1 dX6_tokenKind_74 rfl rfl ?_
          refine j_isubN C e p (by omega) dX6_tokenKind_75 ?_
          refine j_icmp_ne C 87 dX6_tokenKind_76 (by decide) (fun c76 => ?_) (fun c76 => ?_)
          · have c76 : ¬ ((kD c tp p (e - p)) = (e - p)) := fun h => c76 ((nI_eq (a := kD c tp p (e - p)) (b := e - p) (by omega) (by omega)).mpr h)
            refine j_aload_n C 0 dX6_tokenKind_87 rfl rfl ?_
            refine j_iload_n C 1 dX6_tokenKind_88 rfl rfl ?_
            refine j_callV_i C 1 1 (cc_X7_at l d ad adK adV al a n op c hn p tp (by omega) hT htp) cG_1 rfl gX6_tokenKind_X7_at rfl rfl rfl (by decide +kernel) ⟨(Nat.le_of_ble_eq_true rfl), (Nat.le_of_ble_eq_true rfl)⟩ ⟨(Nat.le_of_ble_eq_true rfl), (Nat.le_of_ble_eq_true rfl)⟩ rfl rfl (Nat.le_of_ble_eq_true rfl) dX6_tokenKind_89 (fun r89 u89 h89 => ?_)
            obtain ⟨rfl, rfl⟩ := h89
            refine j_bipush C 59 dX6_tokenKind_92 (by decide) ?_
            refine j_icmp_ne C 101 dX6_tokenKind_94 (by decide) (fun c94 => ?_) (fun c94 => ?_)
            · refine j_iconst C 0 dX6_tokenKind_101 (by decide) ?_
              exact j_iret C hQ dX6_tokenKind_102 (⟨by rw [tokK, if_neg c66, if_neg (fun h => c76 h.1), if_neg c94], rfl⟩)
            · refine j_iconst C 3 dX6_tokenKind_97 (by decide) ?_
              refine j_goto C 102 dX6_tokenKind_98 (by decide) ?_
              exact j_iret C hQ dX6_tokenKind_102 (⟨by rw [tokK, if_neg c66, if_neg (fun h => c76 h.1), if_pos c94], rfl⟩)
          · have c76 := (nI_eq (a := kD c tp p (e - p)) (b := e - p) (by omega) (by omega)).mp c76
            refine j_iload C 4 dX6_tokenKind_79 rfl ?_
            refine j_iconst C 4 dX6_tokenKind_81 (by decide) ?_
            refine j_icmp_gt C 87 dX6_tokenKind_82 (by decide) (fun c82 => ?_) (fun c82 => ?_)
            · have c82 := (nI_ltI (a := 4) (b := kD c tp p (e - p)) (by omega) (by omega)).mp c82
              refine j_aload_n C 0 dX6_tokenKind_87 rfl rfl ?_
              refine j_iload_n C 1 dX6_tokenKind_88 rfl rfl ?_
              refine j_callV_i C 1 1 (cc_X7_at l d ad adK adV al a n op c hn p tp (by omega) hT htp) cG_1 rfl gX6_tokenKind_X7_at rfl rfl rfl (by decide +kernel) ⟨(Nat.le_of_ble_eq_true rfl), (Nat.le_of_ble_eq_true rfl)⟩ ⟨(Nat.le_of_ble_eq_true rfl), (Nat.le_of_ble_eq_true rfl)⟩ rfl rfl (Nat.le_of_ble_eq_true rfl) dX6_tokenKind_89 (fun r89 u89 h89 => ?_)
              obtain ⟨rfl, rfl⟩ := h89
              refine j_bipush C 59 dX6_tokenKind_92 (by decide) ?_
              refine j_icmp_ne C 101 dX6_tokenKind_94 (by decide) (fun c94 => ?_) (fun c94 => ?_)
              · refine j_iconst C 0 dX6_tokenKind_101 (by decide) ?_
                exact j_iret C hQ dX6_tokenKind_102 (⟨by rw [tokK, if_neg c66, if_neg (fun h => by have := h.2; omega), if_neg c94], rfl⟩)
              · refine j_iconst C 3 dX6_tokenKind_97 (by decide) ?_
                refine j_goto C 102 dX6_tokenKind_98 (by decide) ?_
                exact j_iret C hQ dX6_tokenKind_102 (⟨by rw [tokK, if_neg c66, if_neg (fun h => by have := h.2; omega), if_pos c94], rfl⟩)
            · have c82 : ¬ (4 < (kD c tp p (e - p))) := fun h => c82 ((nI_ltI (a := 4) (b := kD c tp p (e - p)) (by omega) (by omega)).mpr h)
              refine j_iconst C 2 dX6_tokenKind_85 (by decide) ?_
              exact j_iret C hQ dX6_tokenKind_86 (⟨by rw [tokK, if_neg c66, if_pos ⟨c76, by omega⟩], rfl⟩)
        · have c66 := (nI_eq (a := kL c tp p (e - p)) (b := e - p) (by omega) (by omega)).mp c66
          refine j_iconst C 1 dX6_tokenKind_69 (by decide) ?_
          exact j_iret C hQ dX6_tokenKind_70 (⟨by rw [tokK, if_pos c66], rfl⟩)
      · have c11 : ¬ (e ≤ (p + k)) := fun h => c11 ((nI_leI (a := e) (b := p + k) (by omega) (by omega)).mpr h)
        refine j_iload_n C 3 dX6_tokenKind_14 rfl rfl ?_
        refine j_aload_n C 0 dX6_tokenKind_15 rfl rfl ?_
        refine j_iload C 5 dX6_tokenKind_16 rfl ?_
        refine j_callV_i C 1 1 (cc_X7_at l d ad adK adV al a n op c hn (p + k) tp (by omega) hT htp) cG_1 rfl gX6_tokenKind_X7_at rfl rfl rfl (by decide +kernel) ⟨(Nat.le_of_ble_eq_true rfl), (Nat.le_of_ble_eq_true rfl)⟩ ⟨(Nat.le_of_ble_eq_true rfl), (Nat.le_of_ble_eq_true rfl)⟩ rfl rfl (Nat.le_of_ble_eq_true rfl) dX6_tokenKind_18 (fun r18 u18 h18 => ?_)
        obtain ⟨rfl, rfl⟩ := h18
        refine j_callS_i C 1 (cc_X6_isLetter (cEf ad adK adV al) (cEf_k ad adK adV al) l d _ (cAt c tp (p + k))) gX6_tokenKind_X6_isLetter rfl rfl rfl (by decide +kernel) ⟨(Nat.le_of_ble_eq_true rfl), (Nat.le_of_ble_eq_true rfl)⟩ ⟨(Nat.le_of_ble_eq_true rfl), (Nat.le_of_ble_eq_true rfl)⟩ rfl rfl (Nat.le_of_ble_eq_true rfl) dX6_tokenKind_21 (fun r21 u21 h21 => ?_)
        obtain ⟨rfl, rfl⟩ := h21
        refine j_if_eq C 31 dX6_tokenKind_24 (by decide) (fun c24 => ?_) (fun c24 => ?_)
        · have c24 := bI_0.mp c24
          refine j_iconst C 0 dX6_tokenKind_31 (by decide) ?_
          refine j_iaddN C (kL c tp p k) 0 dX6_tokenKind_32 ?_
          refine j_istore_n C [(0, .ref (a 1 0)), (1, .int (nI p)), (2, .int (nI e)), (3, .int (nI (kL c tp p k + 0))), (4, .int (nI (kD c tp p k))), (5, .int (nI (p + k)))] [1, 2, 3, 0, 4, 5] dX6_tokenKind_33 rfl (by decide) rfl ?_
          refine j_iload C 4 dX6_tokenKind_34 rfl ?_
          refine j_aload_n C 0 dX6_tokenKind_36 rfl rfl ?_
          refine j_iload C 5 dX6_tokenKind_37 rfl ?_
          refine j_callV_i C 1 1 (cc_X7_at l d ad adK adV al a n op c hn (p + k) tp (by omega) hT htp) cG_1 rfl gX6_tokenKind_X7_at rfl rfl rfl (by decide +kernel) ⟨(Nat.le_of_ble_eq_true rfl), (Nat.le_of_ble_eq_true rfl)⟩ ⟨(Nat.le_of_ble_eq_true rfl), (Nat.le_of_ble_eq_true rfl)⟩ rfl rfl (Nat.le_of_ble_eq_true rfl) dX6_tokenKind_39 (fun r39 u39 h39 => ?_)
          obtain ⟨rfl, rfl⟩ := h39
          refine j_callS_i C 1 (cc_X6_isDigit (cEf ad adK adV al) (cEf_k ad adK adV al) l d _ (cAt c tp (p + k))) gX6_tokenKind_X6_isDigit rfl rfl rfl (by decide +kernel) ⟨(Nat.le_of_ble_eq_true rfl), (Nat.le_of_ble_eq_true rfl)⟩ ⟨(Nat.le_of_ble_eq_true rfl), (Nat.le_of_ble_eq_true rfl)⟩ rfl rfl (Nat.le_of_ble_eq_true rfl) dX6_tokenKind_42 (fun r42 u42 h42 => ?_)
          obtain ⟨rfl, rfl⟩ := h42
          refine j_if_eq C 52 dX6_tokenKind_45 (by decide) (fun c45 => ?_) (fun c45 => ?_)
          · have c45 := bI_0.mp c45
            refine j_iconst C 0 dX6_tokenKind_52 (by decide) ?_
            refine j_iaddN C (kD c tp p k) 0 dX6_tokenKind_53 ?_
            refine j_istore C [(0, .ref (a 1 0)), (1, .int (nI p)), (2, .int (nI e)), (3, .int (nI (kL c tp p k + 0))), (4, .int (nI (kD c tp p k + 0))), (5, .int (nI (p + k)))] [1, 2, 3, 4, 0, 5] dX6_tokenKind_54 (by decide) rfl ?_
            refine j_iinc C (nI (p + k + 1)) [(0, .ref (a 1 0)), (1, .int (nI p)), (2, .int (nI e)), (3, .int (nI (kL c tp p k + 0))), (4, .int (nI (kD c tp p k + 0))), (5, .int (nI (p + k + 1)))] 5 [1, 2, 3, 4, 5, 0] dX6_tokenKind_56 rfl (nI_1 (p + k)) (by decide) rfl ?_
            refine j_goto C 8 dX6_tokenKind_59 (by decide) ?_
            refine j_lvq (lv2 := [(0, .ref (a 1 0)), (1, .int (nI p)), (2, .int (nI e)), (3, .int (nI (kL c tp p (k + 1)))), (4, .int (nI (kD c tp p (k + 1)))), (5, .int (nI (p + (k + 1))))]) (by rw [kL, kD, if_neg c24, if_neg c45]; rfl) ?_
            exact ih (k + 1) (by omega) (by omega)
          · have c45 := bI_n0.mp c45
            refine j_iconst C 1 dX6_tokenKind_48 (by decide) ?_
            refine j_goto C 53 dX6_tokenKind_49 (by decide) ?_
            refine j_iaddN C (kD c tp p k) 1 dX6_tokenKind_53 ?_
            refine j_istore C [(0, .ref (a 1 0)), (1, .int (nI p)), (2, .int (nI e)), (3, .int (nI (kL c tp p k + 0))), (4, .int (nI (kD c tp p k + 1))), (5, .int (nI (p + k)))] [1, 2, 3, 4, 0, 5] dX6_tokenKind_54 (by decide) rfl ?_
            refine j_iinc C (nI (p + k + 1)) [(0, .ref (a 1 0)), (1, .int (nI p)), (2, .int (nI e)), (3, .int (nI (kL c tp p k + 0))), (4, .int (nI (kD c tp p k + 1))), (5, .int (nI (p + k + 1)))] 5 [1, 2, 3, 4, 5, 0] dX6_tokenKind_56 rfl (nI_1 (p + k)) (by decide) rfl ?_
            refine j_goto C 8 dX6_tokenKind_59 (by decide) ?_
            refine j_lvq (lv2 := [(0, .ref (a 1 0)), (1, .int (nI p)), (2, .int (nI e)), (3, .int (nI (kL c tp p (k + 1)))), (4, .int (nI (kD c tp p (k + 1)))), (5, .int (nI (p + (k + 1))))]) (by rw [kL, kD, if_neg c24, if_pos c45]; rfl) ?_
            exact ih (k + 1) (by omega) (by omega)
        · have c24 := bI_n0.mp c24
          refine j_iconst C 1 dX6_tokenKind_27 (by decide) ?_
          refine j_goto C 32 dX6_tokenKind_28 (by decide) ?_
          refine j_iaddN C (kL c tp p k) 1 dX6_tokenKind_32 ?_
          refine j_istore_n C [(0, .ref (a 1 0)), (1, .int (nI p)), (2, .int (nI e)), (3, .int (nI (kL c tp p k + 1))), (4, .int (nI (kD c tp p k))), (5, .int (nI (p + k)))] [1, 2, 3, 0, 4, 5] dX6_tokenKind_33 rfl (by decide) rfl ?_
          refine j_iload C 4 dX6_tokenKind_34 rfl ?_
          refine j_aload_n C 0 dX6_tokenKind_36 rfl rfl ?_
          refine j_iload C 5 dX6_tokenKind_37 rfl ?_
          refine j_callV_i C 1 1 (cc_X7_at l d ad adK adV al a n op c hn (p + k) tp (by omega) hT htp) cG_1 rfl gX6_tokenKind_X7_at rfl rfl rfl (by decide +kernel) ⟨(Nat.le_of_ble_eq_true rfl), (Nat.le_of_ble_eq_true rfl)⟩ ⟨(Nat.le_of_ble_eq_true rfl), (Nat.le_of_ble_eq_true rfl)⟩ rfl rfl (Nat.le_of_ble_eq_true rfl) dX6_tokenKind_39 (fun r39 u39 h39 => ?_)
          obtain ⟨rfl, rfl⟩ := h39
          refine j_callS_i C 1 (cc_X6_isDigit (cEf ad adK adV al) (cEf_k ad adK adV al) l d _ (cAt c tp (p + k))) gX6_tokenKind_X6_isDigit rfl rfl rfl (by decide +kernel) ⟨(Nat.le_of_ble_eq_true rfl), (Nat.le_of_ble_eq_true rfl)⟩ ⟨(Nat.le_of_ble_eq_true rfl), (Nat.le_of_ble_eq_true rfl)⟩ rfl rfl (Nat.le_of_ble_eq_true rfl) dX6_tokenKind_42 (fun r42 u42 h42 => ?_)
          obtain ⟨rfl, rfl⟩ := h42
          refine j_if_eq C 52 dX6_tokenKind_45 (by decide) (fun c45 => ?_) (fun c45 => ?_)
          · have c45 := bI_0.mp c45
            refine j_iconst C 0 dX6_tokenKind_52 (by decide) ?_
            refine j_iaddN C (kD c tp p k) 0 dX6_tokenKind_53 ?_
            refine j_istore C [(0, .ref (a 1 0)), (1, .int (nI p)), (2, .int (nI e)), (3, .int (nI (kL c tp p k + 1))), (4, .int (nI (kD c tp p k + 0))), (5, .int (nI (p + k)))] [1, 2, 3, 4, 0, 5] dX6_tokenKind_54 (by decide) rfl ?_
            refine j_iinc C (nI (p + k + 1)) [(0, .ref (a 1 0)), (1, .int (nI p)), (2, .int (nI e)), (3, .int (nI (kL c tp p k + 1))), (4, .int (nI (kD c tp p k + 0))), (5, .int (nI (p + k + 1)))] 5 [1, 2, 3, 4, 5, 0] dX6_tokenKind_56 rfl (nI_1 (p + k)) (by decide) rfl ?_
            refine j_goto C 8 dX6_tokenKind_59 (by decide) ?_
            refine j_lvq (lv2 := [(0, .ref (a 1 0)), (1, .int (nI p)), (2, .int (nI e)), (3, .int (nI (kL c tp p (k + 1)))), (4, .int (nI (kD c tp p (k + 1)))), (5, .int (nI (p + (k + 1))))]) (by rw [kL, kD, if_pos c24, if_neg c45]; rfl) ?_
            exact ih (k + 1) (by omega) (by omega)
          · have c45 := bI_n0.mp c45
            refine j_iconst C 1 dX6_tokenKind_48 (by decide) ?_
            refine j_goto C 53 dX6_tokenKind_49 (by decide) ?_
            refine j_iaddN C (kD c tp p k) 1 dX6_tokenKind_53 ?_
            refine j_istore C [(0, .ref (a 1 0)), (1, .int (nI p)), (2, .int (nI e)), (3, .int (nI (kL c tp p k + 1))), (4, .int (nI (kD c tp p k + 1))), (5, .int (nI (p + k)))] [1, 2, 3, 4, 0, 5] dX6_tokenKind_54 (by decide) rfl ?_
            refine j_iinc C (nI (p + k + 1)) [(0, .ref (a 1 0)), (1, .int (nI p)), (2, .int (nI e)), (3, .int (nI (kL c tp p k + 1))), (4, .int (nI (kD c tp p k + 1))), (5, .int (nI (p + k + 1)))] 5 [1, 2, 3, 4, 5, 0] dX6_tokenKind_56 rfl (nI_1 (p + k)) (by decide) rfl ?_
            refine j_goto C 8 dX6_tokenKind_59 (by decide) ?_
            refine j_lvq (lv2 := [(0, .ref (a 1 0)), (1, .int (nI p)), (2, .int (nI e)), (3, .int (nI (kL c tp p (k + 1)))), (4, .int (nI (kD c tp p (k + 1)))), (5, .int (nI (p + (k + 1))))]) (by rw [kL, kD, if_pos c24, if_pos c45]; rfl) ?_
            exact ih (k + 1) (by omega) (by omega)
  refine j_iconst C 0 dX6_tokenKind_0 (by decide) ?_
  refine j_istore_n C [(0, .ref (a 1 0)), (1, .int (nI p)), (2, .int (nI e)), (3, .int 0)] [1, 2, 3, 0] dX6_tokenKind_1 rfl (by decide) rfl ?_
  refine j_iconst C 0 dX6_tokenKind_2 (by decide) ?_
  refine j_istore C [(0, .ref (a 1 0)), (1, .int (nI p)), (2, .int (nI e)), (3, .int 0), (4, .int 0)] [1, 2, 3, 4, 0] dX6_tokenKind_3 (by decide) rfl ?_
  refine j_iload_n C 1 dX6_tokenKind_5 rfl rfl ?_
  refine j_istore C [(0, .ref (a 1 0)), (1, .int (nI p)), (2, .int (nI e)), (3, .int 0), (4, .int 0), (5, .int (nI p))] [1, 2, 3, 4, 5, 0] dX6_tokenKind_6 (by decide) rfl ?_
  exact loop _ 0 (Nat.zero_le _) (Nat.lt_succ_self _)

set_option maxHeartbeats 4000000 in
set_option maxRecDepth 100000 in
theorem cc_X6_spells (l : Launch) (d : jD) (ad adK adV : Nat → Nat) (al : Nat) (a : Nat → Nat → Nat) (n : Nat → Nat) (op : Option Nat) (c : Nat → Nat → Nat → Int32) (hn : nOK n) (tp : Nat) (hT : c 1 0 1 = nI tp) (htp : tp ≤ 140) (p e i : Nat) (hp : p < e) (he : e ≤ tp) (hi : i < 6) : jMi (cEf ad adK adV al) d l yX6_spells wsX6_spells ({ frames := 4, cells := 0, slots := 0, locals := 85 } : Room) 0 0 [.ref (a 1 0), .int (nI p), .int (nI e), .ref (adK i)] (cW a d n op ad c) (fun r u => r = bI (splW c tp p e i) ∧ u = cW a d n op ad c) := by
  refine jMi.mk (cEf_k ad adK adV al) (by decide) rfl (Nat.le_of_ble_eq_true rfl) (fun X A C hQ => ?_)
  refine j_lvq (lv2 := [(0, .ref (a 1 0)), (1, .int (nI p)), (2, .int (nI e)), (3, .ref (adK i))]) rfl ?_
  have hl8 := lenR_lt i hi
  refine j_aload_n C 3 dX6_spells_0 rfl rfl ?_
  refine j_callK_i C 0 i hi (cc_J0_length_8abf5 l d ad adK adV al _ i hi) gX6_spells_J0_length_8abf5 rfl rfl rfl (by decide +kernel) ⟨(Nat.le_of_ble_eq_true rfl), (Nat.le_of_ble_eq_true rfl)⟩ ⟨(Nat.le_of_ble_eq_true rfl), (Nat.le_of_ble_eq_true rfl)⟩ rfl rfl (Nat.le_of_ble_eq_true rfl) dX6_spells_1 (fun r1 u1 h1 => ?_)
  obtain ⟨rfl, rfl⟩ := h1
  refine j_iload_n C 2 dX6_spells_4 rfl rfl ?_
  refine j_iload_n C 1 dX6_spells_5 rfl rfl ?_
  refine j_isubN C e p (by omega) dX6_spells_6 ?_
  refine j_icmp_eq C 12 dX6_spells_7 (by decide) (fun c7 => ?_) (fun c7 => ?_)
  · have c7 := (nI_eq (a := lenR.getD i 0) (b := e - p) (by omega) (by omega)).mp c7
    have hlen : lenR.getD i 0 = e - p := c7
    have loop : ∀ fz j : Nat, j ≤ lenR.getD i 0 → (∀ j2, j2 < j → cAt c tp (p + j2) = (bytR.getD i []).getD j2 0) → lenR.getD i 0 - j < fz → jJ X l d A 5 0 0 (cW a d n op ad c) [(0, .ref (a 1 0)), (1, .int (nI p)), (2, .int (nI e)), (3, .ref (adK i)), (4, .int (nI j))] 15 [] := by
      intro fz
      induction fz with
      | zero => intro j _ _ h; exact absurd h (Nat.not_lt_zero _)
      | succ fz ih =>
        intro j hj hm hfz
        refine j_iload C 4 dX6_spells_15 rfl ?_
        refine j_aload_n C 3 dX6_spells_17 rfl rfl ?_
        refine j_callK_i C 0 i hi (cc_J0_length_8abf5 l d ad adK adV al _ i hi) gX6_spells_J0_length_8abf5 rfl rfl rfl (by decide +kernel) ⟨(Nat.le_of_ble_eq_true rfl), (Nat.le_of_ble_eq_true rfl)⟩ ⟨(Nat.le_of_ble_eq_true rfl), (Nat.le_of_ble_eq_true rfl)⟩ rfl rfl (Nat.le_of_ble_eq_true rfl) dX6_spells_18 (fun r18 u18 h18 => ?_)
        obtain ⟨rfl, rfl⟩ := h18
        refine j_icmp_ge C 49 dX6_spells_21 (by decide) (fun c21 => ?_) (fun c21 => ?_)
        · have c21 := (nI_leI (a := lenR.getD i 0) (b := j) (by omega) (by omega)).mp c21
          refine j_iconst C 1 dX6_spells_49 (by decide) ?_
          exact j_zret C hQ rfl dX6_spells_50 (⟨bI_t ⟨hlen, fun j2 hj2 => hm j2 (by omega)⟩, rfl⟩)
        · have c21 : ¬ ((lenR.getD i 0) ≤ j) := fun h => c21 ((nI_leI (a := lenR.getD i 0) (b := j) (by omega) (by omega)).mpr h)
          refine j_aload_n C 0 dX6_spells_24 rfl rfl ?_
          refine j_iload_n C 1 dX6_spells_25 rfl rfl ?_
          refine j_iload C 4 dX6_spells_26 rfl ?_
          refine j_iaddN C p j dX6_spells_28 ?_
          refine j_callV_i C 1 1 (cc_X7_at l d ad adK adV al a n op c hn (p + j) tp (by omega) hT htp) cG_1 rfl gX6_spells_X7_at rfl rfl rfl (by decide +kernel) ⟨(Nat.le_of_ble_eq_true rfl), (Nat.le_of_ble_eq_true rfl)⟩ ⟨(Nat.le_of_ble_eq_true rfl), (Nat.le_of_ble_eq_true rfl)⟩ rfl rfl (Nat.le_of_ble_eq_true rfl) dX6_spells_29 (fun r29 u29 h29 => ?_)
          obtain ⟨rfl, rfl⟩ := h29
          refine j_aload_n C 3 dX6_spells_32 rfl rfl ?_
          refine j_iload C 4 dX6_spells_33 rfl ?_
          refine j_callK_i C 1 i hi (cc_J0_charAt_5068e l d ad adK adV al _ i hi j (by omega)) gX6_spells_J0_charAt_5068e rfl rfl rfl (by decide +kernel) ⟨(Nat.le_of_ble_eq_true rfl), (Nat.le_of_ble_eq_true rfl)⟩ ⟨(Nat.le_of_ble_eq_true rfl), (Nat.le_of_ble_eq_true rfl)⟩ rfl rfl (Nat.le_of_ble_eq_true rfl) dX6_spells_35 (fun r35 u35 h35 => ?_)
          obtain ⟨rfl, rfl⟩ := h35
          refine j_icmp_eq C 43 dX6_spells_38 (by decide) (fun c38 => ?_) (fun c38 => ?_)
          · refine j_iinc C (nI (j + 1)) [(0, .ref (a 1 0)), (1, .int (nI p)), (2, .int (nI e)), (3, .ref (adK i)), (4, .int (nI (j + 1)))] 4 [1, 2, 3, 4, 0] dX6_spells_43 rfl (nI_1 j) (by decide) rfl ?_
            refine j_goto C 15 dX6_spells_46 (by decide) ?_
            exact ih (j + 1) (by omega) (fun j2 hj2 => (Nat.lt_succ_iff_lt_or_eq.mp hj2).elim (fun h => hm j2 h) (fun h => by rw [h]; exact c38)) (by omega)
          · refine j_iconst C 0 dX6_spells_41 (by decide) ?_
            exact j_zret C hQ rfl dX6_spells_42 (⟨bI_f (fun h => c38 (h.2 j (by omega))), rfl⟩)
    refine j_iconst C 0 dX6_spells_12 (by decide) ?_
    refine j_istore C [(0, .ref (a 1 0)), (1, .int (nI p)), (2, .int (nI e)), (3, .ref (adK i)), (4, .int 0)] [1, 2, 3, 4, 0] dX6_spells_13 (by decide) rfl ?_
    exact loop _ 0 (Nat.zero_le _) (fun _ h => absurd h (Nat.not_lt_zero _)) (Nat.lt_succ_self _)
  · have c7 : ¬ ((lenR.getD i 0) = (e - p)) := fun h => c7 ((nI_eq (a := lenR.getD i 0) (b := e - p) (by omega) (by omega)).mpr h)
    refine j_iconst C 0 dX6_spells_10 (by decide) ?_
    exact j_zret C hQ rfl dX6_spells_11 (⟨bI_f (fun h => c7 h.1), rfl⟩)

set_option maxHeartbeats 4000000 in
set_option maxRecDepth 100000 in
theorem cc_X6_ruleOf (l : Launch) (d : jD) (ad adK adV : Nat → Nat) (al : Nat) (a : Nat → Nat → Nat) (n : Nat → Nat) (op : Option Nat) (c : Nat → Nat → Nat → Int32) (hn : nOK n) (tp : Nat) (hT : c 1 0 1 = nI tp) (htp : tp ≤ 140) (p e : Nat) (hp : p < e) (he : e ≤ tp) : jMq (cEf ad adK adV al) d l yX6_ruleOf wsX6_ruleOf ({ frames := 5, cells := 0, slots := 0, locals := 109 } : Room) 0 0 [.ref (a 1 0), .int (nI p), .int (nI e)] (cW a d n op ad c) (fun r u => r = Option.map ad (rF c tp p e 6 0) ∧ u = cW a d n op ad c) := by
  refine jMq.mk (cEf_k ad adK adV al) (by decide) rfl (Nat.le_of_ble_eq_true rfl) (fun X A C hQ => ?_)
  refine j_lvq (lv2 := [(0, .ref (a 1 0)), (1, .int (nI p)), (2, .int (nI e))]) rfl ?_
  have loop : ∀ k i : Nat, i + k = 6 → rF c tp p e k i = rF c tp p e 6 0 → jJ X l d A 7 0 0 (cW a d n op ad c) [(0, .ref (a 1 0)), (1, .int (nI p)), (2, .int (nI e)), (3, .ref al), (4, .int 6), (5, .int (nI i))] 11 [] := by
    intro k
    induction k with
    | zero =>
      intro i hq hE
      refine j_iload C 5 dX6_ruleOf_11 rfl ?_
      refine j_iload C 4 dX6_ruleOf_13 rfl ?_
      refine j_icmp_ge C 47 dX6_ruleOf_15 (by decide) (fun c15 => ?_) (fun c15 => absurd ((nI_leI (a := 6) (b := i) (by omega) (by omega)).mpr (by omega)) c15)
      refine j_null C dX6_ruleOf_47 ?_
      exact j_aret (r := none) C hQ dX6_ruleOf_48 ⟨by rw [← hE]; rfl, rfl⟩
    | succ k ih =>
      intro i hq hE
      refine j_iload C 5 dX6_ruleOf_11 rfl ?_
      refine j_iload C 4 dX6_ruleOf_13 rfl ?_
      refine j_icmp_ge C 47 dX6_ruleOf_15 (by decide) (fun c15 => absurd c15 (fun h => by have := (nI_leI (a := 6) (b := i) (by omega) (by omega)).mp h; omega)) (fun c15 => ?_)
      refine j_aload_n C 3 dX6_ruleOf_18 rfl rfl ?_
      refine j_iload C 5 dX6_ruleOf_19 rfl ?_
      refine je_ald C i (by omega) dX6_ruleOf_21 ?_
      refine j_astore C [(0, .ref (a 1 0)), (1, .int (nI p)), (2, .int (nI e)), (3, .ref al), (4, .int 6), (5, .int (nI i)), (6, .ref (ad i))] [1, 2, 3, 4, 5, 6, 0] dX6_ruleOf_22 (by decide) rfl ?_
      refine j_aload_n C 0 dX6_ruleOf_24 rfl rfl ?_
      refine j_iload_n C 1 dX6_ruleOf_25 rfl rfl ?_
      refine j_iload_n C 2 dX6_ruleOf_26 rfl rfl ?_
      refine j_aload C 6 dX6_ruleOf_27 rfl ?_
      refine je_word C i (by omega) nst_X6_120 dX6_ruleOf_29 ?_
      refine j_callS_i C 4 (cc_X6_spells l d ad adK adV al a n op c hn tp hT htp p e i hp he (by omega)) gX6_ruleOf_X6_spells rfl rfl rfl (by decide +kernel) ⟨(Nat.le_of_ble_eq_true rfl), (Nat.le_of_ble_eq_true rfl)⟩ ⟨(Nat.le_of_ble_eq_true rfl), (Nat.le_of_ble_eq_true rfl)⟩ rfl rfl (Nat.le_of_ble_eq_true rfl) dX6_ruleOf_32 (fun r32 u32 h32 => ?_)
      obtain ⟨rfl, rfl⟩ := h32
      refine j_if_eq C 41 dX6_ruleOf_35 (by decide) (fun c35 => ?_) (fun c35 => ?_)
      · have c35 := bI_0.mp c35
        refine j_iinc C (nI (i + 1)) [(0, .ref (a 1 0)), (1, .int (nI p)), (2, .int (nI e)), (3, .ref al), (4, .int 6), (5, .int (nI (i + 1))), (6, .ref (ad i))] 5 [1, 2, 3, 4, 5, 0, 6] dX6_ruleOf_41 rfl (nI_1 i) (by decide) rfl ?_
        refine j_goto C 11 dX6_ruleOf_44 (by decide) ?_
        refine j_lv [0, 1, 2, 3, 4, 5] rfl ?_
        exact ih (i + 1) (by omega) (by rw [← hE, rF, if_neg c35])
      · have c35 := bI_n0.mp c35
        refine j_aload C 6 dX6_ruleOf_38 rfl ?_
        exact j_aret (r := some (ad i)) C hQ dX6_ruleOf_40 ⟨by rw [← hE, rF, if_pos c35]; rfl, rfl⟩
  refine je_all C nst_X6_9 dX6_ruleOf_0 ?_
  refine j_astore_n C [(0, .ref (a 1 0)), (1, .int (nI p)), (2, .int (nI e)), (3, .ref al)] [1, 2, 3, 0] dX6_ruleOf_3 rfl (by decide) rfl ?_
  refine j_aload_n C 3 dX6_ruleOf_4 rfl rfl ?_
  refine je_len C dX6_ruleOf_5 ?_
  refine j_istore C [(0, .ref (a 1 0)), (1, .int (nI p)), (2, .int (nI e)), (3, .ref al), (4, .int 6)] [1, 2, 3, 4, 0] dX6_ruleOf_6 (by decide) rfl ?_
  refine j_iconst C 0 dX6_ruleOf_8 (by decide) ?_
  refine j_istore C [(0, .ref (a 1 0)), (1, .int (nI p)), (2, .int (nI e)), (3, .ref al), (4, .int 6), (5, .int 0)] [1, 2, 3, 4, 5, 0] dX6_ruleOf_9 (by decide) rfl ?_
  exact loop 6 0 rfl rfl


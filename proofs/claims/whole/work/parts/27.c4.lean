abbrev loR (i : Nat) : Int32 := ([0, 1, 0, 100, 1, 1] : List Int32).getD i 0
abbrev hiR (i : Nat) : Int32 := ([50, 100, 300, 999, 100, 9999] : List Int32).getD i 0
abbrev unR (i : Nat) : Int32 := ([10, 50, 25, 200, 50, 1] : List Int32).getD i 0
theorem numR {i : Nat} (h : i < 6) : ([0, 1, 2, 3, 4, 5] : List Int32).getD i 0 = nI i := by
  rcases (by omega : i = 0 ∨ i = 1 ∨ i = 2 ∨ i = 3 ∨ i = 4 ∨ i = 5) with rfl | rfl | rfl | rfl | rfl | rfl <;> rfl

set_option maxHeartbeats 4000000 in
set_option maxRecDepth 100000 in
theorem cc_X6_valueOf (l : Launch) (d : jD) (ad adK adV : Nat → Nat) (al : Nat) (a : Nat → Nat → Nat) (n : Nat → Nat) (op : Option Nat) (c : Nat → Nat → Nat → Int32) (hn : nOK n) (i : Nat) (hi : i < 6) : jMi (cEf ad adK adV al) d l yX6_valueOf wsX6_valueOf ({ frames := 0, cells := 0, slots := 0, locals := 0 } : Room) 0 0 [.ref (a 3 0), .ref (ad i)] (cW a d n op ad c) (fun r u => r = c 4 0 i ∧ u = cW a d n op ad c) := by
  refine jMi.mk (cEf_k ad adK adV al) (by decide) rfl (Nat.le_of_ble_eq_true rfl) (fun X A C hQ => ?_)
  have hinX6 : ∀ w ∈ u_ws RX6 TX6 7, w ∈ wsX6_valueOf := fun w h => List.mem_cons_of_mem _ (List.mem_append_right _ h)
  refine j_lvq (lv2 := [(0, .ref (a 3 0)), (1, .ref (ad i))]) rfl ?_
  refine j_aload_n C 0 dX6_valueOf_0 rfl rfl ?_
  refine kg_3_values C hinX6 (by decide +kernel) dX6_valueOf_1 ?_
  refine j_aload_n C 1 dX6_valueOf_4 rfl rfl ?_
  refine je_get C i 0 hi rfl nst_X6_24 dX6_valueOf_5 ?_
  refine j_st (st2 := [.int (nI i), .ref (a 4 0)]) (congrArg (fun z => Value.int z :: _) (numR hi)) ?_
  refine kl_4 C i rfl (by omega) dX6_valueOf_8 ?_
  exact j_iret C hQ dX6_valueOf_9 (⟨rfl, rfl⟩)

/-- the first of the greatest among f 0 .. f k -/
def gB (f : Nat → Int32) : Nat → Nat
  | 0 => 0
  | k + 1 => if f (k + 1) ≤ f (gB f k) then gB f k else k + 1
theorem gB_le (f : Nat → Int32) : ∀ k, gB f k ≤ k
  | 0 => Nat.le_refl 0
  | k + 1 => by
    rw [gB]
    have := gB_le f k
    split <;> omega
def cG1 (c : Nat → Nat → Nat → Int32) : Nat → Nat → Nat → Int32 := cu (cu c 11 0 (gB (c 12 0) 27) (c 11 0 (gB (c 12 0) 27) + 1)) 12 0 (gB (c 12 0) 27) (-1)

set_option maxHeartbeats 4000000 in
set_option maxRecDepth 100000 in
theorem cc_X0_giveOneToGreatestRest (l : Launch) (d : jD) (ad adK adV : Nat → Nat) (al : Nat) (a : Nat → Nat → Nat) (n : Nat → Nat) (op : Option Nat) (c : Nat → Nat → Nat → Int32) (hn : nOK n) : jMv (cEf ad adK adV al) d l yX0_giveOneToGreatestRest wsX0_giveOneToGreatestRest ({ frames := 0, cells := 0, slots := 0, locals := 0 } : Room) 0 0 [.ref (a 9 0)] (cW a d n op ad c) (fun u => u = cW a d n op ad (cG1 c)) := by
  refine jMv.mk (cEf_k ad adK adV al) (by decide) rfl (Nat.le_of_ble_eq_true rfl) (fun X A C hQ => ?_)
  have hinX0 : ∀ w ∈ u_ws RX0 TX0 3, w ∈ wsX0_giveOneToGreatestRest := fun w h => List.mem_cons_of_mem _ (List.mem_append_right _ h)
  refine j_lvq (lv2 := [(0, .ref (a 9 0))]) rfl ?_
  have loop : ∀ fz k : Nat, k ≤ 27 → 27 - k < fz → jJ X l d A 3 0 0 (cW a d n op ad c) [(0, .ref (a 9 0)), (1, .int (nI (gB (c 12 0) k))), (2, .int (nI (k + 1)))] 4 [] := by
    intro fz
    induction fz with
    | zero => intro k _ h; exact absurd h (Nat.not_lt_zero _)
    | succ fz ih =>
      intro k hi hfz
      refine j_iload_n C 2 dX0_giveOneToGreatestRest_4 rfl rfl ?_
      refine j_bipush C 28 dX0_giveOneToGreatestRest_5 (by decide) ?_
      refine j_icmp_ge C 33 dX0_giveOneToGreatestRest_7 (by decide) (fun c7 => ?_) (fun c7 => ?_)
      · have c7 := (nI_leI (a := 28) (b := k + 1) (by omega) (by omega)).mp c7
        obtain rfl : k = 27 := by omega
        have hgb := gB_le (c 12 0) 27
        refine j_aload_n C 0 dX0_giveOneToGreatestRest_33 rfl rfl ?_
        refine kg_9_won C hinX0 (by decide +kernel) dX0_giveOneToGreatestRest_34 ?_
        refine j_iload_n C 1 dX0_giveOneToGreatestRest_37 rfl rfl ?_
        refine j_dup2 C dX0_giveOneToGreatestRest_38 rfl rfl ?_
        refine kl_11 C (gB (c 12 0) 27) rfl (by omega) dX0_giveOneToGreatestRest_39 ?_
        refine j_iconst C 1 dX0_giveOneToGreatestRest_40 (by decide) ?_
        refine j_iadd C dX0_giveOneToGreatestRest_41 ?_
        refine ks_11 C (gB (c 12 0) 27) rfl (by omega) dX0_giveOneToGreatestRest_42 ?_
        refine j_aload_n C 0 dX0_giveOneToGreatestRest_43 rfl rfl ?_
        refine kg_9_rests C hinX0 (by decide +kernel) dX0_giveOneToGreatestRest_44 ?_
        refine j_iload_n C 1 dX0_giveOneToGreatestRest_47 rfl rfl ?_
        refine j_iconst C (-1) dX0_giveOneToGreatestRest_48 (by decide) ?_
        refine ks_12 C (gB (c 12 0) 27) rfl (by omega) dX0_giveOneToGreatestRest_49 ?_
        exact j_vret C hQ dX0_giveOneToGreatestRest_50 rfl
      · have c7 : ¬ (28 ≤ (k + 1)) := fun h => c7 ((nI_leI (a := 28) (b := k + 1) (by omega) (by omega)).mpr h)
        have hgb := gB_le (c 12 0) k
        refine j_aload_n C 0 dX0_giveOneToGreatestRest_10 rfl rfl ?_
        refine kg_9_rests C hinX0 (by decide +kernel) dX0_giveOneToGreatestRest_11 ?_
        refine j_iload_n C 2 dX0_giveOneToGreatestRest_14 rfl rfl ?_
        refine kl_12 C (k + 1) rfl (by omega) dX0_giveOneToGreatestRest_15 ?_
        refine j_aload_n C 0 dX0_giveOneToGreatestRest_16 rfl rfl ?_
        refine kg_9_rests C hinX0 (by decide +kernel) dX0_giveOneToGreatestRest_17 ?_
        refine j_iload_n C 1 dX0_giveOneToGreatestRest_20 rfl rfl ?_
        refine kl_12 C (gB (c 12 0) k) rfl (by omega) dX0_giveOneToGreatestRest_21 ?_
        refine j_icmp_le C 27 dX0_giveOneToGreatestRest_22 (by decide) (fun c22 => ?_) (fun c22 => ?_)
        · refine j_iinc C (nI (k + 1 + 1)) [(0, .ref (a 9 0)), (1, .int (nI (gB (c 12 0) k))), (2, .int (nI (k + 1 + 1)))] 2 [1, 2, 0] dX0_giveOneToGreatestRest_27 rfl (nI_1 (k + 1)) (by decide) rfl ?_
          refine j_goto C 4 dX0_giveOneToGreatestRest_30 (by decide) ?_
          refine j_lvq (lv2 := [(0, .ref (a 9 0)), (1, .int (nI (gB (c 12 0) (k + 1)))), (2, .int (nI (k + 1 + 1)))]) (by rw [show gB (c 12 0) (k + 1) = gB (c 12 0) k from if_pos c22]) ?_
          exact ih (k + 1) (by omega) (by omega)
        · refine j_iload_n C 2 dX0_giveOneToGreatestRest_25 rfl rfl ?_
          refine j_istore_n C [(0, .ref (a 9 0)), (1, .int (nI (k + 1))), (2, .int (nI (k + 1)))] [1, 0, 2] dX0_giveOneToGreatestRest_26 rfl (by decide) rfl ?_
          refine j_iinc C (nI (k + 1 + 1)) [(0, .ref (a 9 0)), (1, .int (nI (k + 1))), (2, .int (nI (k + 1 + 1)))] 2 [1, 2, 0] dX0_giveOneToGreatestRest_27 rfl (nI_1 (k + 1)) (by decide) rfl ?_
          refine j_goto C 4 dX0_giveOneToGreatestRest_30 (by decide) ?_
          refine j_lvq (lv2 := [(0, .ref (a 9 0)), (1, .int (nI (gB (c 12 0) (k + 1)))), (2, .int (nI (k + 1 + 1)))]) (by rw [show gB (c 12 0) (k + 1) = k + 1 from if_neg c22]) ?_
          exact ih (k + 1) (by omega) (by omega)
  refine j_iconst C 0 dX0_giveOneToGreatestRest_0 (by decide) ?_
  refine j_istore_n C [(0, .ref (a 9 0)), (1, .int 0)] [1, 0] dX0_giveOneToGreatestRest_1 rfl (by decide) rfl ?_
  refine j_iconst C 1 dX0_giveOneToGreatestRest_2 (by decide) ?_
  refine j_istore_n C [(0, .ref (a 9 0)), (1, .int 0), (2, .int 1)] [1, 2, 0] dX0_giveOneToGreatestRest_3 rfl (by decide) rfl ?_
  exact loop _ 0 (Nat.zero_le _) (Nat.lt_succ_self _)

def cGn (c : Nat → Nat → Nat → Int32) : Nat → Nat → Nat → Nat → Int32
  | 0 => c
  | t + 1 => cG1 (cGn c t)
def cC1 (c : Nat → Nat → Nat → Int32) (mo all : Int32) : Nat → Nat → Nat → Nat → Int32
  | 0 => c
  | k + 1 => cu (cu (cC1 c mo all k) 11 0 k (if all ≤ 0 then 0 else cC1 c mo all k 10 0 k * mo / all)) 12 0 k (if all ≤ 0 then 0 else cC1 c mo all k 10 0 k * mo - cC1 c mo all k 10 0 k * mo / all * all)
def cOut (c : Nat → Nat → Nat → Int32) (mo all : Int32) : Nat → Int32
  | 0 => 0
  | k + 1 => cOut c mo all k + (if all ≤ 0 then 0 else cC1 c mo all k 10 0 k * mo / all)
abbrev cAllW (c : Nat → Nat → Nat → Int32) : Int32 := sumA (c 10 0) 28
abbrev cMost (c : Nat → Nat → Nat → Int32) (x : Int32) : Int32 := if cAllW c < x then cAllW c else x
def okCut (c : Nat → Nat → Nat → Int32) (x : Int32) (o1 o2 : Nat) : Prop := cOut c (cMost c x) (cAllW c) 28 = nI o1 ∧ cMost c x = nI o2 ∧ o1 ≤ o2 ∧ o2 < 2 ^ 31
def zCut (c : Nat → Nat → Nat → Int32) (x : Int32) (o1 o2 : Nat) : Nat → Nat → Nat → Int32 := cGn (cC1 c (cMost c x) (cAllW c) 28) (o2 - o1)

set_option maxHeartbeats 4000000 in
set_option maxRecDepth 100000 in
theorem cc_X0_cutBackTo (l : Launch) (d : jD) (ad adK adV : Nat → Nat) (al : Nat) (a : Nat → Nat → Nat) (n : Nat → Nat) (op : Option Nat) (c : Nat → Nat → Nat → Int32) (hn : nOK n) (x : Int32) (o1 o2 : Nat) (hok : okCut c x o1 o2) : jMv (cEf ad adK adV al) d l yX0_cutBackTo wsX0_cutBackTo ({ frames := 1, cells := 0, slots := 0, locals := 25 } : Room) 0 0 [.ref (a 9 0), .int x] (cW a d n op ad c) (fun u => u = cW a d n op ad (zCut c x o1 o2)) := by
  refine jMv.mk (cEf_k ad adK adV al) (by decide) rfl (Nat.le_of_ble_eq_true rfl) (fun X A C hQ => ?_)
  have hinX0 : ∀ w ∈ u_ws RX0 TX0 3, w ∈ wsX0_cutBackTo := fun w h => List.mem_cons_of_mem _ (List.mem_append_right _ h)
  refine j_lvq (lv2 := [(0, .ref (a 9 0)), (1, .int x)]) rfl ?_
  have ho := hok.2.2
  have loop2 : ∀ fz t : Nat, t ≤ o2 - o1 → o2 - o1 - t < fz → jJ X l d A 7 0 0 (cW a d n op ad (cGn (cC1 c (cMost c x) (cAllW c) 28) t)) [(0, .ref (a 9 0)), (1, .int x), (2, .int (cAllW c)), (3, .int (nI o2)), (4, .int (nI o1)), (5, .int (nI (o1 + t)))] 98 [] := by
    intro fz
    induction fz with
    | zero => intro t _ h; exact absurd h (Nat.not_lt_zero _)
    | succ fz ih =>
      intro t hi hfz
      refine j_iload C 5 dX0_cutBackTo_98 rfl ?_
      refine j_iload_n C 3 dX0_cutBackTo_100 rfl rfl ?_
      refine j_icmp_ge C 114 dX0_cutBackTo_101 (by decide) (fun c101 => ?_) (fun c101 => ?_)
      · have c101 := (nI_leI (a := o2) (b := o1 + t) (by omega) (by omega)).mp c101
        exact j_vret C hQ dX0_cutBackTo_114 (by rw [zCut, show t = o2 - o1 by omega])
      · have c101 : ¬ (o2 ≤ (o1 + t)) := fun h => c101 ((nI_leI (a := o2) (b := o1 + t) (by omega) (by omega)).mpr h)
        refine j_aload_n C 0 dX0_cutBackTo_104 rfl rfl ?_
        refine j_callV_v C 0 9 (cc_X0_giveOneToGreatestRest l d ad adK adV al a n op (cGn (cC1 c (cMost c x) (cAllW c) 28) t) hn) cG_9 rfl gX0_cutBackTo_X0_giveOneToGreatestRest rfl rfl rfl (by decide +kernel) ⟨(Nat.le_of_ble_eq_true rfl), (Nat.le_of_ble_eq_true rfl)⟩ ⟨(Nat.le_of_ble_eq_true rfl), (Nat.le_of_ble_eq_true rfl)⟩ rfl rfl (Nat.le_of_ble_eq_true rfl) dX0_cutBackTo_105 (fun u105 h105 => ?_)
        obtain rfl := h105
        refine j_iinc C (nI (o1 + t + 1)) [(0, .ref (a 9 0)), (1, .int x), (2, .int (cAllW c)), (3, .int (nI o2)), (4, .int (nI o1)), (5, .int (nI (o1 + t + 1)))] 5 [1, 2, 3, 4, 5, 0] dX0_cutBackTo_108 rfl (nI_1 (o1 + t)) (by decide) rfl ?_
        refine j_goto C 98 dX0_cutBackTo_111 (by decide) ?_
        exact ih (t + 1) (by omega) (by omega)
  have loop : ∀ fz k : Nat, k ≤ 28 → 28 - k < fz → jJ X l d A 7 0 0 (cW a d n op ad (cC1 c (cMost c x) (cAllW c) k)) [(0, .ref (a 9 0)), (1, .int x), (2, .int (cAllW c)), (3, .int (cMost c x)), (4, .int (cOut c (cMost c x) (cAllW c) k)), (5, .int (nI k))] 20 [] := by
    intro fz
    induction fz with
    | zero => intro k _ h; exact absurd h (Nat.not_lt_zero _)
    | succ fz ih =>
      intro k hi hfz
      refine j_iload C 5 dX0_cutBackTo_20 rfl ?_
      refine j_bipush C 28 dX0_cutBackTo_22 (by decide) ?_
      refine j_icmp_ge C 94 dX0_cutBackTo_24 (by decide) (fun c24 => ?_) (fun c24 => ?_)
      · have c24 := (nI_leI (a := 28) (b := k) (by omega) (by omega)).mp c24
        obtain rfl : k = 28 := by omega
        refine j_iload C 4 dX0_cutBackTo_94 rfl ?_
        refine j_istore C [(0, .ref (a 9 0)), (1, .int x), (2, .int (cAllW c)), (3, .int (cMost c x)), (4, .int (cOut c (cMost c x) (cAllW c) 28)), (5, .int (cOut c (cMost c x) (cAllW c) 28))] [1, 2, 3, 4, 5, 0] dX0_cutBackTo_96 (by decide) rfl ?_
        refine j_lv (lv' := [(0, .ref (a 9 0)), (1, .int x), (2, .int (cAllW c)), (3, .int (cMost c x)), (4, .int (cOut c (cMost c x) (cAllW c) 28)), (5, .int (cOut c (cMost c x) (cAllW c) 28))]) [0, 1, 2, 3, 4, 5] rfl ?_
        refine j_lvq (lv2 := [(0, .ref (a 9 0)), (1, .int x), (2, .int (cAllW c)), (3, .int (nI o2)), (4, .int (nI o1)), (5, .int (nI o1))]) (by rw [hok.1, hok.2.1]) ?_
        exact loop2 _ 0 (Nat.zero_le _) (Nat.lt_succ_self _)
      · have c24 : ¬ (28 ≤ k) := fun h => c24 ((nI_leI (a := 28) (b := k) (by omega) (by omega)).mpr h)
        refine j_aload_n C 0 dX0_cutBackTo_27 rfl rfl ?_
        refine kg_9_wanted C hinX0 (by decide +kernel) dX0_cutBackTo_28 ?_
        refine j_iload C 5 dX0_cutBackTo_31 rfl ?_
        refine kl_10 C k rfl (by omega) dX0_cutBackTo_33 ?_
        refine j_iload_n C 3 dX0_cutBackTo_34 rfl rfl ?_
        refine j_imul C dX0_cutBackTo_35 ?_
        refine j_istore C [(0, .ref (a 9 0)), (1, .int x), (2, .int (cAllW c)), (3, .int (cMost c x)), (4, .int (cOut c (cMost c x) (cAllW c) k)), (5, .int (nI k)), (6, .int ((cC1 c (cMost c x) (cAllW c) k 10 0 k) * (cMost c x)))] [1, 2, 3, 4, 5, 6, 0] dX0_cutBackTo_36 (by decide) rfl ?_
        refine j_aload_n C 0 dX0_cutBackTo_38 rfl rfl ?_
        refine kg_9_won C hinX0 (by decide +kernel) dX0_cutBackTo_39 ?_
        refine j_iload C 5 dX0_cutBackTo_42 rfl ?_
        refine j_iload_n C 2 dX0_cutBackTo_44 rfl rfl ?_
        refine j_if_le C 55 dX0_cutBackTo_45 (by decide) (fun c45 => ?_) (fun c45 => ?_)
        · refine j_iconst C 0 dX0_cutBackTo_55 (by decide) ?_
          refine ks_11 C k rfl (by omega) dX0_cutBackTo_56 ?_
          refine j_aload_n C 0 dX0_cutBackTo_57 rfl rfl ?_
          refine kg_9_rests C hinX0 (by decide +kernel) dX0_cutBackTo_58 ?_
          refine j_iload C 5 dX0_cutBackTo_61 rfl ?_
          refine j_iload_n C 2 dX0_cutBackTo_63 rfl rfl ?_
          refine j_if_le C 74 dX0_cutBackTo_64 (by decide) (fun c64 => ?_) (fun c64 => absurd c45 c64)
          refine j_iconst C 0 dX0_cutBackTo_74 (by decide) ?_
          refine ks_12 C k rfl (by omega) dX0_cutBackTo_75 ?_
          refine j_iload C 4 dX0_cutBackTo_76 rfl ?_
          refine j_aload_n C 0 dX0_cutBackTo_78 rfl rfl ?_
          refine kg_9_won C hinX0 (by decide +kernel) dX0_cutBackTo_79 ?_
          refine j_iload C 5 dX0_cutBackTo_82 rfl ?_
          refine kl_11 C k rfl (by omega) dX0_cutBackTo_84 ?_
          refine j_st (st2 := [.int 0, .int (cOut c (cMost c x) (cAllW c) k)]) (congrArg (fun z => Value.int z :: _) (cu_same (cC1 c (cMost c x) (cAllW c) k) 11 0 k 0)) ?_
          refine j_iadd C dX0_cutBackTo_85 ?_
          refine j_istore C [(0, .ref (a 9 0)), (1, .int x), (2, .int (cAllW c)), (3, .int (cMost c x)), (4, .int ((cOut c (cMost c x) (cAllW c) k) + 0)), (5, .int (nI k)), (6, .int ((cC1 c (cMost c x) (cAllW c) k 10 0 k) * (cMost c x)))] [1, 2, 3, 4, 0, 5, 6] dX0_cutBackTo_86 (by decide) rfl ?_
          refine j_iinc C (nI (k + 1)) [(0, .ref (a 9 0)), (1, .int x), (2, .int (cAllW c)), (3, .int (cMost c x)), (4, .int ((cOut c (cMost c x) (cAllW c) k) + 0)), (5, .int (nI (k + 1))), (6, .int ((cC1 c (cMost c x) (cAllW c) k 10 0 k) * (cMost c x)))] 5 [1, 2, 3, 4, 5, 0, 6] dX0_cutBackTo_88 rfl (nI_1 k) (by decide) rfl ?_
          refine j_goto C 20 dX0_cutBackTo_91 (by decide) ?_
          refine j_lv (lv' := [(0, .ref (a 9 0)), (1, .int x), (2, .int (cAllW c)), (3, .int (cMost c x)), (4, .int ((cOut c (cMost c x) (cAllW c) k) + 0)), (5, .int (nI (k + 1)))]) [0, 1, 2, 3, 4, 5] rfl ?_
          refine j_ws (ws2 := cW a d n op ad (cC1 c (cMost c x) (cAllW c) (k + 1))) (by rw [cC1, if_pos c45, if_pos c45]) ?_
          refine j_lvq (lv2 := [(0, .ref (a 9 0)), (1, .int x), (2, .int (cAllW c)), (3, .int (cMost c x)), (4, .int (cOut c (cMost c x) (cAllW c) (k + 1))), (5, .int (nI (k + 1)))]) (by rw [show cOut c (cMost c x) (cAllW c) (k + 1) = (cOut c (cMost c x) (cAllW c) k) + 0 by rw [cOut, if_pos c45]]) ?_
          exact ih (k + 1) (by omega) (by omega)
        · refine j_iload C 6 dX0_cutBackTo_48 rfl ?_
          refine j_iload_n C 2 dX0_cutBackTo_50 rfl rfl ?_
          refine j_idiv C dX0_cutBackTo_51 (fun h => c45 (by rw [h]; decide)) ?_
          refine j_goto C 56 dX0_cutBackTo_52 (by decide) ?_
          refine ks_11 C k rfl (by omega) dX0_cutBackTo_56 ?_
          refine j_aload_n C 0 dX0_cutBackTo_57 rfl rfl ?_
          refine kg_9_rests C hinX0 (by decide +kernel) dX0_cutBackTo_58 ?_
          refine j_iload C 5 dX0_cutBackTo_61 rfl ?_
          refine j_iload_n C 2 dX0_cutBackTo_63 rfl rfl ?_
          refine j_if_le C 74 dX0_cutBackTo_64 (by decide) (fun c64 => absurd c64 c45) (fun c64 => ?_)
          refine j_iload C 6 dX0_cutBackTo_67 rfl ?_
          refine j_iload_n C 2 dX0_cutBackTo_69 rfl rfl ?_
          refine j_irem C dX0_cutBackTo_70 (fun h => c45 (by rw [h]; decide)) ?_
          refine j_goto C 75 dX0_cutBackTo_71 (by decide) ?_
          refine ks_12 C k rfl (by omega) dX0_cutBackTo_75 ?_
          refine j_iload C 4 dX0_cutBackTo_76 rfl ?_
          refine j_aload_n C 0 dX0_cutBackTo_78 rfl rfl ?_
          refine kg_9_won C hinX0 (by decide +kernel) dX0_cutBackTo_79 ?_
          refine j_iload C 5 dX0_cutBackTo_82 rfl ?_
          refine kl_11 C k rfl (by omega) dX0_cutBackTo_84 ?_
          refine j_st (st2 := [.int (((cC1 c (cMost c x) (cAllW c) k 10 0 k) * (cMost c x)) / (cAllW c)), .int (cOut c (cMost c x) (cAllW c) k)]) (congrArg (fun z => Value.int z :: _) (cu_same (cC1 c (cMost c x) (cAllW c) k) 11 0 k (((cC1 c (cMost c x) (cAllW c) k 10 0 k) * (cMost c x)) / (cAllW c)))) ?_
          refine j_iadd C dX0_cutBackTo_85 ?_
          refine j_istore C [(0, .ref (a 9 0)), (1, .int x), (2, .int (cAllW c)), (3, .int (cMost c x)), (4, .int ((cOut c (cMost c x) (cAllW c) k) + (((cC1 c (cMost c x) (cAllW c) k 10 0 k) * (cMost c x)) / (cAllW c)))), (5, .int (nI k)), (6, .int ((cC1 c (cMost c x) (cAllW c) k 10 0 k) * (cMost c x)))] [1, 2, 3, 4, 0, 5, 6] dX0_cutBackTo_86 (by decide) rfl ?_
          refine j_iinc C (nI (k + 1)) [(0, .ref (a 9 0)), (1, .int x), (2, .int (cAllW c)), (3, .int (cMost c x)), (4, .int ((cOut c (cMost c x) (cAllW c) k) + (((cC1 c (cMost c x) (cAllW c) k 10 0 k) * (cMost c x)) / (cAllW c)))), (5, .int (nI (k + 1))), (6, .int ((cC1 c (cMost c x) (cAllW c) k 10 0 k) * (cMost c x)))] 5 [1, 2, 3, 4, 5, 0, 6] dX0_cutBackTo_88 rfl (nI_1 k) (by decide) rfl ?_
          refine j_goto C 20 dX0_cutBackTo_91 (by decide) ?_
          refine j_lv (lv' := [(0, .ref (a 9 0)), (1, .int x), (2, .int (cAllW c)), (3, .int (cMost c x)), (4, .int ((cOut c (cMost c x) (cAllW c) k) + (((cC1 c (cMost c x) (cAllW c) k 10 0 k) * (cMost c x)) / (cAllW c)))), (5, .int (nI (k + 1)))]) [0, 1, 2, 3, 4, 5] rfl ?_
          refine j_ws (ws2 := cW a d n op ad (cC1 c (cMost c x) (cAllW c) (k + 1))) (by rw [cC1, if_neg c45, if_neg c45]) ?_
          refine j_lvq (lv2 := [(0, .ref (a 9 0)), (1, .int x), (2, .int (cAllW c)), (3, .int (cMost c x)), (4, .int (cOut c (cMost c x) (cAllW c) (k + 1))), (5, .int (nI (k + 1)))]) (by rw [show cOut c (cMost c x) (cAllW c) (k + 1) = (cOut c (cMost c x) (cAllW c) k) + (((cC1 c (cMost c x) (cAllW c) k 10 0 k) * (cMost c x)) / (cAllW c)) by rw [cOut, if_neg c45]]) ?_
          exact ih (k + 1) (by omega) (by omega)
  refine j_aload_n C 0 dX0_cutBackTo_0 rfl rfl ?_
  refine kg_9_wanted C hinX0 (by decide +kernel) dX0_cutBackTo_1 ?_
  refine j_callSN_i C 1 (cc_X9_sumOf (cEf ad adK adV al) (cEf_k ad adK adV al) l d _ 10 (a 10 0) (c 10 0) rfl) gX0_cutBackTo_X9_sumOf_n21 nst_X0_21 (by decide +kernel) (by decide +kernel) rfl rfl rfl (by decide +kernel) ⟨(Nat.le_of_ble_eq_true rfl), (Nat.le_of_ble_eq_true rfl)⟩ ⟨(Nat.le_of_ble_eq_true rfl), (Nat.le_of_ble_eq_true rfl)⟩ rfl rfl (Nat.le_of_ble_eq_true rfl) dX0_cutBackTo_4 (fun r4 u4 h4 => ?_)
  obtain ⟨rfl, rfl⟩ := h4
  refine j_istore_n C [(0, .ref (a 9 0)), (1, .int x), (2, .int (cAllW c))] [1, 2, 0] dX0_cutBackTo_7 rfl (by decide) rfl ?_
  refine j_iload_n C 1 dX0_cutBackTo_8 rfl rfl ?_
  refine j_iload_n C 2 dX0_cutBackTo_9 rfl rfl ?_
  refine j_mmin C (by decide +kernel) (by decide +kernel) (by decide +kernel) (by decide +kernel) ⟨(Nat.le_of_ble_eq_true rfl), (Nat.le_of_ble_eq_true rfl)⟩ (Nat.le_of_ble_eq_true rfl) ⟨(Nat.le_of_ble_eq_true rfl), (Nat.le_of_ble_eq_true rfl)⟩ dX0_cutBackTo_10 ?_
  refine j_istore_n C [(0, .ref (a 9 0)), (1, .int x), (2, .int (cAllW c)), (3, .int (if (cAllW c) < x then (cAllW c) else x))] [1, 2, 3, 0] dX0_cutBackTo_13 rfl (by decide) rfl ?_
  refine j_iconst C 0 dX0_cutBackTo_14 (by decide) ?_
  refine j_istore C [(0, .ref (a 9 0)), (1, .int x), (2, .int (cAllW c)), (3, .int (if (cAllW c) < x then (cAllW c) else x)), (4, .int 0)] [1, 2, 3, 4, 0] dX0_cutBackTo_15 (by decide) rfl ?_
  refine j_iconst C 0 dX0_cutBackTo_17 (by decide) ?_
  refine j_istore C [(0, .ref (a 9 0)), (1, .int x), (2, .int (cAllW c)), (3, .int (if (cAllW c) < x then (cAllW c) else x)), (4, .int 0), (5, .int 0)] [1, 2, 3, 4, 5, 0] dX0_cutBackTo_18 (by decide) rfl ?_
  refine j_lvq (lv2 := [(0, .ref (a 9 0)), (1, .int x), (2, .int (cAllW c)), (3, .int (cMost c x)), (4, .int (cOut c (cMost c x) (cAllW c) 0)), (5, .int (nI 0))]) rfl ?_
  exact loop _ 0 (Nat.zero_le _) (Nat.lt_succ_self _)


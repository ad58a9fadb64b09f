/-! fractions: a world ws with one more cell behind it -/
abbrev frC (f : Nat) (u v : Int64) : Nat × va_E := (f, .inr (1, [.long u, .long v]))
def frS (u v : Int64) : Int64 × Int64 := if lg_cmp (lgcd 100 u v) 1 ≤ 0 then (u, v) else (u / lgcd 100 u v, v / lgcd 100 u v)
theorem lgcd_nz {x : Int64} (h : ¬ lg_cmp x 1 ≤ 0) : ¬ x = 0 := by
  rintro rfl
  exact h (by decide)

set_option maxHeartbeats 4000000 in
set_option maxRecDepth 100000 in
theorem cc_X2_divisorInCommon (Ef : jE) (hk : jKp Ef) (l : Launch) (d : jD) (ws : va_W) (x y : Int64) : jMl Ef d l yX2_divisorInCommon wsX2_divisorInCommon ({ frames := 0, cells := 0, slots := 0, locals := 0 } : Room) 0 0 [.long x, .long y] ws (fun r u => r = lgcd 100 x y ∧ u = ws) := by
  refine jMl.mk hk (by decide) rfl (Nat.le_of_ble_eq_true rfl) (fun X A C hQ => ?_)
  refine j_lvq (lv2 := [(0, .long x), (2, .long y)]) rfl ?_
  have loop : ∀ n k : Nat, k < n → ∀ i : Nat, i + k = 100 → ∀ p q : Int64, lgcd k p q = lgcd 100 x y → jJ X l d A 11 0 0 ws [(0, .long x), (2, .long y), (4, .long p), (6, .long q), (8, .int (nI i))] 9 [] := by
    intro n
    induction n with
    | zero => intro k h; exact absurd h (Nat.not_lt_zero _)
    | succ n ih =>
      intro k hn i hi p q hz
      refine j_iload C 4 dX2_divisorInCommon_9 rfl ?_
      refine j_bipush C 100 dX2_divisorInCommon_11 (by decide) ?_
      refine j_icmp_ge C 44 dX2_divisorInCommon_13 (by decide) (fun c13 => ?_) (fun c13 => ?_)
      · have c13 := (nI_leI (a := 100) (b := i) (by omega) (by omega)).mp c13
        refine j_lload C 2 dX2_divisorInCommon_44 rfl ?_
        exact j_lret C hQ dX2_divisorInCommon_46 (⟨by rw [← hz, show k = 0 by omega]; rfl, rfl⟩)
      · have c13 : ¬ (100 ≤ i) := fun h => c13 ((nI_leI (a := 100) (b := i) (by omega) (by omega)).mpr h)
        obtain ⟨k2, rfl⟩ : ∃ k2, k = k2 + 1 := ⟨k - 1, by omega⟩
        refine j_lload C 3 dX2_divisorInCommon_16 rfl ?_
        refine j_lconst C 0 dX2_divisorInCommon_18 (by decide) ?_
        refine j_lcmp C dX2_divisorInCommon_19 ?_
        refine j_if_eq C 44 dX2_divisorInCommon_20 (by decide) (fun c20 => ?_) (fun c20 => ?_)
        · refine j_lload C 2 dX2_divisorInCommon_44 rfl ?_
          exact j_lret C hQ dX2_divisorInCommon_46 (⟨by rw [← hz, lgcd, if_pos (lcmp0.mp c20)], rfl⟩)
        · have hq : ¬ q = 0 := fun h => c20 (lcmp0.mpr h)
          refine j_lload C 2 dX2_divisorInCommon_23 rfl ?_
          refine j_lload C 3 dX2_divisorInCommon_25 rfl ?_
          refine j_lrem C dX2_divisorInCommon_27 hq ?_
          refine j_lstore C [(0, .long x), (2, .long y), (4, .long p), (6, .long q), (8, .int (nI i)), (9, .long (p - p / q * q))] [1, 2, 3, 4, 5, 0] dX2_divisorInCommon_28 (by decide) rfl ?_
          refine j_lload C 3 dX2_divisorInCommon_30 rfl ?_
          refine j_lstore C [(0, .long x), (2, .long y), (4, .long q), (6, .long q), (8, .int (nI i)), (9, .long (p - p / q * q))] [1, 2, 0, 3, 4, 5] dX2_divisorInCommon_32 (by decide) rfl ?_
          refine j_lload C 5 dX2_divisorInCommon_34 rfl ?_
          refine j_lstore C [(0, .long x), (2, .long y), (4, .long q), (6, .long (p - p / q * q)), (8, .int (nI i)), (9, .long (p - p / q * q))] [1, 2, 3, 0, 4, 5] dX2_divisorInCommon_36 (by decide) rfl ?_
          refine j_iinc C (nI (i + 1)) [(0, .long x), (2, .long y), (4, .long q), (6, .long (p - p / q * q)), (8, .int (nI (i + 1))), (9, .long (p - p / q * q))] 4 [1, 2, 3, 4, 0, 5] dX2_divisorInCommon_38 rfl (nI_1 i) (by decide) rfl ?_
          refine j_goto C 9 dX2_divisorInCommon_41 (by decide) ?_
          refine j_lv (lv' := [(0, .long x), (2, .long y), (4, .long q), (6, .long (p - p / q * q)), (8, .int (nI (i + 1)))]) [0, 1, 2, 3, 4] rfl ?_
          exact ih k2 (by omega) (i + 1) (by omega) q (p - p / q * q) (by rw [← hz, lgcd, if_neg hq])
  refine j_lload_n C 0 dX2_divisorInCommon_0 rfl rfl ?_
  refine j_lstore C [(0, .long x), (2, .long y), (4, .long x)] [1, 2, 0] dX2_divisorInCommon_1 (by decide) rfl ?_
  refine j_lload_n C 1 dX2_divisorInCommon_3 rfl rfl ?_
  refine j_lstore C [(0, .long x), (2, .long y), (4, .long x), (6, .long y)] [1, 2, 3, 0] dX2_divisorInCommon_4 (by decide) rfl ?_
  refine j_iconst C 0 dX2_divisorInCommon_6 (by decide) ?_
  refine j_istore C [(0, .long x), (2, .long y), (4, .long x), (6, .long y), (8, .int 0)] [1, 2, 3, 4, 0] dX2_divisorInCommon_7 (by decide) rfl ?_
  exact loop 101 100 (Nat.lt_succ_self _) 0 rfl x y rfl

set_option maxHeartbeats 4000000 in
set_option maxRecDepth 100000 in
theorem cc_X2_shorten (Ef : jE) (hk : jKp Ef) (l : Launch) (d : jD) (ws : va_W) (f : Nat) (u v : Int64) : jMv Ef d l yX2_shorten wsX2_shorten ({ frames := 1, cells := 0, slots := 0, locals := 30 } : Room) 0 0 [.ref f] (ws ++ [frC f u v]) (fun w => w = ws ++ [frC f (frS u v).1 (frS u v).2]) := by
  refine jMv.mk hk (by decide) rfl (Nat.le_of_ble_eq_true rfl) (fun X A C hQ => ?_)
  have hinX2 : ∀ w ∈ u_ws RX2 TX2 2, w ∈ wsX2_shorten := fun w h => List.mem_cons_of_mem _ (List.mem_append_right _ h)
  refine j_lvq (lv2 := [(0, .ref f)]) rfl ?_
  refine j_aload_n C 0 dX2_shorten_0 rfl rfl ?_
  refine j_get C hinX2 _ 0 fr_get rfl (by decide) (by decide +kernel) rfl dX2_shorten_1 ?_
  refine j_aload_n C 0 dX2_shorten_4 rfl rfl ?_
  refine j_get C hinX2 _ 1 fr_get rfl (by decide) (by decide +kernel) rfl dX2_shorten_5 ?_
  refine j_callS_l C 2 (cc_X2_divisorInCommon Ef hk l d _ u v) gX2_shorten_X2_divisorInCommon rfl rfl rfl (by decide +kernel) ⟨(Nat.le_of_ble_eq_true rfl), (Nat.le_of_ble_eq_true rfl)⟩ ⟨(Nat.le_of_ble_eq_true rfl), (Nat.le_of_ble_eq_true rfl)⟩ rfl rfl (Nat.le_of_ble_eq_true rfl) dX2_shorten_8 (fun r8 u8 h8 => ?_)
  obtain ⟨rfl, rfl⟩ := h8
  refine j_lstore_n C [(0, .ref f), (1, .long (lgcd 100 u v))] [1, 0] dX2_shorten_11 rfl (by decide) rfl ?_
  refine j_lload_n C 1 dX2_shorten_12 rfl rfl ?_
  refine j_lconst C 1 dX2_shorten_13 (by decide) ?_
  refine j_lcmp C dX2_shorten_14 ?_
  refine j_if_le C 38 dX2_shorten_15 (by decide) (fun c15 => ?_) (fun c15 => ?_)
  · exact j_vret C hQ dX2_shorten_38 (by rw [frS, if_pos c15])
  · refine j_aload_n C 0 dX2_shorten_18 rfl rfl ?_
    refine j_aload_n C 0 dX2_shorten_19 rfl rfl ?_
    refine j_get C hinX2 _ 0 fr_get rfl (by decide) (by decide +kernel) rfl dX2_shorten_20 ?_
    refine j_lload_n C 1 dX2_shorten_23 rfl rfl ?_
    refine j_ldiv C dX2_shorten_24 (lgcd_nz c15) ?_
    refine j_put C hinX2 tyX2_ok nmX2 _ 0 fr_get rfl (by decide) (by decide +kernel) rfl (ty := .long) rfl rfl rfl (by decide : 0 < 2) fr_set dX2_shorten_25 ?_
    refine j_aload_n C 0 dX2_shorten_28 rfl rfl ?_
    refine j_aload_n C 0 dX2_shorten_29 rfl rfl ?_
    refine j_get C hinX2 _ 1 fr_get rfl (by decide) (by decide +kernel) rfl dX2_shorten_30 ?_
    refine j_lload_n C 1 dX2_shorten_33 rfl rfl ?_
    refine j_ldiv C dX2_shorten_34 (lgcd_nz c15) ?_
    refine j_put C hinX2 tyX2_ok nmX2 _ 1 fr_get rfl (by decide) (by decide +kernel) rfl (ty := .long) rfl rfl rfl (by decide : 1 < 2) fr_set dX2_shorten_35 ?_
    exact j_vret C hQ dX2_shorten_38 (by rw [frS, if_neg c15]; rfl)

set_option maxHeartbeats 4000000 in
set_option maxRecDepth 100000 in
theorem cc_X2_add (Ef : jE) (hk : jKp Ef) (l : Launch) (d : jD) (ws : va_W) (f : Nat) (u v : Int64) (x y : Int64) : jMv Ef d l yX2_add wsX2_add ({ frames := 2, cells := 0, slots := 0, locals := 52 } : Room) 0 0 [.ref f, .long x, .long y] (ws ++ [frC f u v]) (fun w => w = ws ++ [frC f (frS (u * y + x * v) (v * y)).1 (frS (u * y + x * v) (v * y)).2]) := by
  refine jMv.mk hk (by decide) rfl (Nat.le_of_ble_eq_true rfl) (fun X A C hQ => ?_)
  have hinX2 : ∀ w ∈ u_ws RX2 TX2 2, w ∈ wsX2_add := fun w h => List.mem_cons_of_mem _ (List.mem_append_right _ h)
  refine j_lvq (lv2 := [(0, .ref f), (1, .long x), (3, .long y)]) rfl ?_
  refine j_aload_n C 0 dX2_add_0 rfl rfl ?_
  refine j_aload_n C 0 dX2_add_1 rfl rfl ?_
  refine j_get C hinX2 _ 0 fr_get rfl (by decide) (by decide +kernel) rfl dX2_add_2 ?_
  refine j_lload_n C 2 dX2_add_5 rfl rfl ?_
  refine j_lmul C dX2_add_6 ?_
  refine j_lload_n C 1 dX2_add_7 rfl rfl ?_
  refine j_aload_n C 0 dX2_add_8 rfl rfl ?_
  refine j_get C hinX2 _ 1 fr_get rfl (by decide) (by decide +kernel) rfl dX2_add_9 ?_
  refine j_lmul C dX2_add_12 ?_
  refine j_ladd C dX2_add_13 ?_
  refine j_put C hinX2 tyX2_ok nmX2 _ 0 fr_get rfl (by decide) (by decide +kernel) rfl (ty := .long) rfl rfl rfl (by decide : 0 < 2) fr_set dX2_add_14 ?_
  refine j_aload_n C 0 dX2_add_17 rfl rfl ?_
  refine j_aload_n C 0 dX2_add_18 rfl rfl ?_
  refine j_get C hinX2 _ 1 fr_get rfl (by decide) (by decide +kernel) rfl dX2_add_19 ?_
  refine j_lload_n C 2 dX2_add_22 rfl rfl ?_
  refine j_lmul C dX2_add_23 ?_
  refine j_put C hinX2 tyX2_ok nmX2 _ 1 fr_get rfl (by decide) (by decide +kernel) rfl (ty := .long) rfl rfl rfl (by decide : 1 < 2) fr_set dX2_add_24 ?_
  refine j_aload_n C 0 dX2_add_27 rfl rfl ?_
  refine j_callV_v C 0 _ (cc_X2_shorten Ef hk l d ws f ((u * y) + (x * v)) (v * y)) fr_get rfl gX2_add_X2_shorten rfl rfl rfl (by decide +kernel) ⟨(Nat.le_of_ble_eq_true rfl), (Nat.le_of_ble_eq_true rfl)⟩ ⟨(Nat.le_of_ble_eq_true rfl), (Nat.le_of_ble_eq_true rfl)⟩ rfl rfl (Nat.le_of_ble_eq_true rfl) dX2_add_28 (fun u28 h28 => ?_)
  obtain rfl := h28
  exact j_vret C hQ dX2_add_31 rfl

set_option maxHeartbeats 4000000 in
set_option maxRecDepth 100000 in
theorem cc_X2_divideBy (Ef : jE) (hk : jKp Ef) (l : Launch) (d : jD) (ws : va_W) (f : Nat) (u v : Int64) (x : Int64) : jMv Ef d l yX2_divideBy wsX2_divideBy ({ frames := 2, cells := 0, slots := 0, locals := 52 } : Room) 0 0 [.ref f, .long x] (ws ++ [frC f u v]) (fun w => w = ws ++ [frC f (frS u (v * x)).1 (frS u (v * x)).2]) := by
  refine jMv.mk hk (by decide) rfl (Nat.le_of_ble_eq_true rfl) (fun X A C hQ => ?_)
  have hinX2 : ∀ w ∈ u_ws RX2 TX2 2, w ∈ wsX2_divideBy := fun w h => List.mem_cons_of_mem _ (List.mem_append_right _ h)
  refine j_lvq (lv2 := [(0, .ref f), (1, .long x)]) rfl ?_
  refine j_aload_n C 0 dX2_divideBy_0 rfl rfl ?_
  refine j_aload_n C 0 dX2_divideBy_1 rfl rfl ?_
  refine j_get C hinX2 _ 1 fr_get rfl (by decide) (by decide +kernel) rfl dX2_divideBy_2 ?_
  refine j_lload_n C 1 dX2_divideBy_5 rfl rfl ?_
  refine j_lmul C dX2_divideBy_6 ?_
  refine j_put C hinX2 tyX2_ok nmX2 _ 1 fr_get rfl (by decide) (by decide +kernel) rfl (ty := .long) rfl rfl rfl (by decide : 1 < 2) fr_set dX2_divideBy_7 ?_
  refine j_aload_n C 0 dX2_divideBy_10 rfl rfl ?_
  refine j_callV_v C 0 _ (cc_X2_shorten Ef hk l d ws f u (v * x)) fr_get rfl gX2_divideBy_X2_shorten rfl rfl rfl (by decide +kernel) ⟨(Nat.le_of_ble_eq_true rfl), (Nat.le_of_ble_eq_true rfl)⟩ ⟨(Nat.le_of_ble_eq_true rfl), (Nat.le_of_ble_eq_true rfl)⟩ rfl rfl (Nat.le_of_ble_eq_true rfl) dX2_divideBy_11 (fun u11 h11 => ?_)
  obtain rfl := h11
  exact j_vret C hQ dX2_divideBy_14 rfl

set_option maxHeartbeats 4000000 in
set_option maxRecDepth 100000 in
theorem cc_X2_init (Ef : jE) (hk : jKp Ef) (l : Launch) (d : jD) (ws : va_W) (f : Nat) (x : Int64) : jMv Ef d l yX2_init wsX2_init ({ frames := 1, cells := 0, slots := 0, locals := 20 } : Room) 0 0 [.ref f, .long x] (ws ++ [frC f 0 0]) (fun w => w = ws ++ [frC f x 1]) := by
  refine jMv.mk hk (by decide) rfl (Nat.le_of_ble_eq_true rfl) (fun X A C hQ => ?_)
  have hinX2 : ∀ w ∈ u_ws RX2 TX2 2, w ∈ wsX2_init := fun w h => List.mem_cons_of_mem _ (List.mem_append_right _ h)
  refine j_lvq (lv2 := [(0, .ref f), (1, .long x)]) rfl ?_
  refine j_aload_n C 0 dX2_init_0 rfl rfl ?_
  refine j_objInit C (by decide +kernel) (by decide +kernel) (List.mem_of_getElem? (i := 3) rfl) ⟨(Nat.le_of_ble_eq_true rfl), (Nat.le_of_ble_eq_true rfl)⟩ (Nat.le_of_ble_eq_true rfl) dX2_init_1 ?_
  refine j_aload_n C 0 dX2_init_4 rfl rfl ?_
  refine j_lconst C 1 dX2_init_5 (by decide) ?_
  refine j_put C hinX2 tyX2_ok nmX2 _ 1 fr_get rfl (by decide) (by decide +kernel) rfl (ty := .long) rfl rfl rfl (by decide : 1 < 2) fr_set dX2_init_6 ?_
  refine j_aload_n C 0 dX2_init_9 rfl rfl ?_
  refine j_lload_n C 1 dX2_init_10 rfl rfl ?_
  refine j_put C hinX2 tyX2_ok nmX2 _ 0 fr_get rfl (by decide) (by decide +kernel) rfl (ty := .long) rfl rfl rfl (by decide : 0 < 2) fr_set dX2_init_11 ?_
  exact j_vret C hQ dX2_init_14 rfl


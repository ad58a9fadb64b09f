/-! OWNED in the class -/
abbrev zPt (c : Nat → Nat → Nat → Int32) (p x r f : Nat) : Int64 := (c 17 x (r * 28 + (24 + f))).toInt64 * (c 20 f p).toInt64
def zO (c : Nat → Nat → Nat → Int32) (p x r : Nat) : Nat → Int64 × Int64
  | 0 => ((c 17 x (r * 28 + p)).toInt64, 1)
  | f + 1 => if c 19 f 3 ≤ 0 then zO c p x r f else frS ((zO c p x r f).1 * (c 19 f 3).toInt64 + zPt c p x r f * (zO c p x r f).2) ((zO c p x r f).2 * (c 19 f 3).toInt64)
def zPart (c : Nat → Nat → Nat → Int32) (p x r nF : Nat) : Int64 × Int64 := frS (zO c p x r nF).1 ((zO c p x r nF).2 * (c 13 x 0).toInt64)

theorem lft {X Y : va_W} {k : Nat} {e : Nat × va_E} (h : X[k]? = some e) : (X ++ Y)[k]? = some e := by rw [List.getElem?_append_left (List.getElem?_eq_some_iff.mp h).1]; exact h
set_option maxHeartbeats 4000000 in
set_option maxRecDepth 100000 in
theorem cc_X9_partOwned (l : Launch) (d : jD) (ad adK adV : Nat → Nat) (al : Nat) (a : Nat → Nat → Nat) (n : Nat → Nat) (op : Option Nat) (c : Nat → Nat → Nat → Int32) (hn : nOK n) (p x r : Nat) (hp : p < 24) (hx : x < n 0) (hr : r < 50) : jMq (cEf ad adK adV al) d l yX9_partOwned wsX9_partOwned ({ frames := 3, cells := 1, slots := 2, locals := 76 } : Room) 1 2 [.ref (a 0 0), .int (nI p), .ref (a 13 x), .int (nI r)] (cW a d n op ad c) (fun r1 u => ∃ f, r1 = some f ∧ u = cW a d n op ad c ++ [frC f (zPart c p x r (n 2)).1 (zPart c p x r (n 2)).2]) := by
  refine jMq.mk (cEf_k ad adK adV al) (by decide) rfl (Nat.le_of_ble_eq_true rfl) (fun X A C hQ => ?_)
  have hinX2 : ∀ w ∈ u_ws RX2 TX2 2, w ∈ wsX9_partOwned := fun w h => List.mem_cons_of_mem _ (List.mem_append_left _ (List.mem_append_left _ (List.mem_append_left _ (List.mem_append_right _ h))))
  have hinX3 : ∀ w ∈ u_ws RX3 TX3 4, w ∈ wsX9_partOwned := fun w h => List.mem_cons_of_mem _ (List.mem_append_left _ (List.mem_append_right _ h))
  have hinX8 : ∀ w ∈ u_ws RX8 TX8 8, w ∈ wsX9_partOwned := fun w h => List.mem_cons_of_mem _ (List.mem_append_right _ h)
  have hinX9 : ∀ w ∈ u_ws RX9 TX9 11, w ∈ wsX9_partOwned := fun w h => List.mem_cons_of_mem _ (List.mem_append_left _ (List.mem_append_left _ (List.mem_append_right _ h)))
  obtain ⟨hn0, hn1, hn2⟩ := id hn
  refine j_lvq (lv2 := [(0, .ref (a 0 0)), (1, .int (nI p)), (2, .ref (a 13 x)), (3, .int (nI r))]) rfl ?_
  refine j_new (ty0 := tyX2) C [.long 0, .long 0] hinX2 tyX2_ok (by decide +kernel) (by decide +kernel) (by decide +kernel) (ci := 1) rfl (fun j hj => by rcases (show j = 0 ∨ j = 1 by omega) with rfl | rfl <;> rfl) ⟨(Nat.le_of_ble_eq_true rfl), (Nat.le_of_ble_eq_true rfl)⟩ dX9_partOwned_0 (fun f => ?_)
  have loop : ∀ fz i : Nat, i ≤ n 2 → n 2 - i < fz → jJ X l d A 8 1 2 (cW a d n op ad c ++ [frC f (zO c p x r i).1 (zO c p x r i).2]) [(0, .ref (a 0 0)), (1, .int (nI p)), (2, .ref (a 13 x)), (3, .int (nI r)), (4, .ref f), (5, .int (nI i))] 19 [] := by
    intro fz
    induction fz with
    | zero => intro i _ h; exact absurd h (Nat.not_lt_zero _)
    | succ fz ih =>
      intro i hi hfz
      refine j_iload C 5 dX9_partOwned_19 rfl ?_
      refine j_aload_n C 0 dX9_partOwned_21 rfl rfl ?_
      refine j_get C hinX9 0 8 (lft cG_0) rfl (by decide) (by decide +kernel) rfl dX9_partOwned_22 ?_
      refine j_icmp_ge C 90 dX9_partOwned_25 (by decide) (fun c25 => ?_) (fun c25 => ?_)
      · have c25 := (nI_leI (a := n 2) (b := i) (by omega) (by omega)).mp c25
        have hi0 : i = n 2 := by omega
        subst hi0
        refine j_aload C 4 dX9_partOwned_90 rfl ?_
        refine j_aload_n C 2 dX9_partOwned_92 rfl rfl ?_
        refine j_getN C hinX8 (13 + x) 0 (lft (cG_13 hx)) rfl (by decide) nst_X9_141 rfl dX9_partOwned_93 ?_
        refine j_i2l C dX9_partOwned_96 ?_
        refine j_callV_v C 1 _ (cc_X2_divideBy (cEf ad adK adV al) (cEf_k ad adK adV al) l d (cW a d n op ad c) f (zO c p x r (n 2)).1 (zO c p x r (n 2)).2 ((c 13 x 0).toInt64)) fr_get rfl gX9_partOwned_X2_divideBy rfl rfl rfl (by decide +kernel) ⟨(Nat.le_of_ble_eq_true rfl), (Nat.le_of_ble_eq_true rfl)⟩ ⟨(Nat.le_of_ble_eq_true rfl), (Nat.le_of_ble_eq_true rfl)⟩ rfl rfl (Nat.le_of_ble_eq_true rfl) dX9_partOwned_97 (fun u97 h97 => ?_)
        obtain rfl := h97
        refine j_aload C 4 dX9_partOwned_100 rfl ?_
        exact j_aret (r := some f) C hQ dX9_partOwned_102 ⟨f, rfl, rfl⟩
      · have c25 : ¬ ((n 2) ≤ i) := fun h => c25 ((nI_leI (a := n 2) (b := i) (by omega) (by omega)).mpr h)
        refine j_bipush C 24 dX9_partOwned_28 (by decide) ?_
        refine j_iload C 5 dX9_partOwned_30 rfl ?_
        refine j_iaddN C 24 i dX9_partOwned_32 ?_
        refine j_istore C [(0, .ref (a 0 0)), (1, .int (nI p)), (2, .ref (a 13 x)), (3, .int (nI r)), (4, .ref f), (5, .int (nI i)), (6, .int (nI (24 + i)))] [1, 2, 3, 4, 5, 6, 0] dX9_partOwned_33 (by decide) rfl ?_
        refine j_aload_n C 0 dX9_partOwned_35 rfl rfl ?_
        refine j_iload C 6 dX9_partOwned_36 rfl ?_
        refine j_callV_qF C 1 0 (wa := []) (wc := cW a d n op ad c) (wb := [frC f (zO c p x r i).1 (zO c p x r i).2]) rfl (cc_X9_fundAt l d ad adK adV al a n op c hn (nI (24 + i))) cG_0 rfl gX9_partOwned_X9_fundAt rfl rfl rfl (by decide +kernel) ⟨(Nat.le_of_ble_eq_true rfl), (Nat.le_of_ble_eq_true rfl)⟩ ⟨(Nat.le_of_ble_eq_true rfl), (Nat.le_of_ble_eq_true rfl)⟩ rfl rfl (Nat.le_of_ble_eq_true rfl) dX9_partOwned_38 (fun r38 u38 h38 => ?_)
        obtain ⟨rfl, rfl⟩ := h38
        refine j_st (st2 := [.ref (a 19 i)]) (congrArg (fun z => va_rf z :: _) (oF_j hn (by omega))) ?_
        refine j_astore C [(0, .ref (a 0 0)), (1, .int (nI p)), (2, .ref (a 13 x)), (3, .int (nI r)), (4, .ref f), (5, .int (nI i)), (6, .int (nI (24 + i))), (7, .ref (a 19 i))] [1, 2, 3, 4, 5, 6, 7, 0] dX9_partOwned_41 (by decide) rfl ?_
        refine j_aload C 7 dX9_partOwned_43 rfl ?_
        refine j_ifnull C dX9_partOwned_45 ?_
        refine j_aload C 7 dX9_partOwned_48 rfl ?_
        refine j_getN C hinX3 (13 + (n 0 + (n 0 + (n 0 + (n 0 + (n 0 + (n 1 + i))))))) 3 (lft (cG_19 (by omega))) rfl (by decide) nst_X9_116 rfl dX9_partOwned_50 ?_
        refine j_if_le C 84 dX9_partOwned_53 (by decide) (fun c53 => ?_) (fun c53 => ?_)
        · refine j_iinc C (nI (i + 1)) [(0, .ref (a 0 0)), (1, .int (nI p)), (2, .ref (a 13 x)), (3, .int (nI r)), (4, .ref f), (5, .int (nI (i + 1))), (6, .int (nI (24 + i))), (7, .ref (a 19 i))] 5 [1, 2, 3, 4, 5, 0, 6, 7] dX9_partOwned_84 rfl (nI_1 i) (by decide) rfl ?_
          refine j_goto C 19 dX9_partOwned_87 (by decide) ?_
          refine j_lv (lv' := [(0, .ref (a 0 0)), (1, .int (nI p)), (2, .ref (a 13 x)), (3, .int (nI r)), (4, .ref f), (5, .int (nI (i + 1)))]) [0, 1, 2, 3, 4, 5] rfl ?_
          refine j_ws (ws2 := cW a d n op ad c ++ [frC f (zO c p x r (i + 1)).1 (zO c p x r (i + 1)).2]) (by rw [zO, if_pos c53]; try rfl) ?_
          exact ih (i + 1) (by omega) (by omega)
        · refine j_aload C 4 dX9_partOwned_56 rfl ?_
          refine j_aload_n C 2 dX9_partOwned_58 rfl rfl ?_
          refine j_iload_n C 3 dX9_partOwned_59 rfl rfl ?_
          refine j_iload C 6 dX9_partOwned_60 rfl ?_
          refine j_callV_iF C 2 (13 + x) (wa := []) (wc := cW a d n op ad c) (wb := [frC f (zO c p x r i).1 (zO c p x r i).2]) rfl (cc_X8_heldAsOf l d ad adK adV al a n op c hn x r (24 + i) hx (by omega) (by omega)) (cG_13 hx) rfl gX9_partOwned_X8_heldAsOf rfl rfl rfl (by decide +kernel) ⟨(Nat.le_of_ble_eq_true rfl), (Nat.le_of_ble_eq_true rfl)⟩ ⟨(Nat.le_of_ble_eq_true rfl), (Nat.le_of_ble_eq_true rfl)⟩ rfl rfl (Nat.le_of_ble_eq_true rfl) dX9_partOwned_62 (fun r62 u62 h62 => ?_)
          obtain ⟨rfl, rfl⟩ := h62
          refine j_i2l C dX9_partOwned_65 ?_
          refine j_aload C 7 dX9_partOwned_66 rfl ?_
          refine j_getN C hinX3 (13 + (n 0 + (n 0 + (n 0 + (n 0 + (n 0 + (n 1 + i))))))) 2 (lft (cG_19 (by omega))) rfl (by decide) nst_X9_119 rfl dX9_partOwned_68 ?_
          refine j_iload_n C 1 dX9_partOwned_71 rfl rfl ?_
          refine j_iald C (13 + (n 0 + (n 0 + (n 0 + (n 0 + (n 0 + (n 1 + (n 2 + i)))))))) p (lft (cG_20 (by omega))) rfl (by omega) (by decide) dX9_partOwned_72 ?_
          refine j_i2l C dX9_partOwned_73 ?_
          refine j_lmul C dX9_partOwned_74 ?_
          refine j_aload C 7 dX9_partOwned_75 rfl ?_
          refine j_getN C hinX3 (13 + (n 0 + (n 0 + (n 0 + (n 0 + (n 0 + (n 1 + i))))))) 3 (lft (cG_19 (by omega))) rfl (by decide) nst_X9_116 rfl dX9_partOwned_77 ?_
          refine j_i2l C dX9_partOwned_80 ?_
          refine j_callV_v C 2 _ (cc_X2_add (cEf ad adK adV al) (cEf_k ad adK adV al) l d (cW a d n op ad c) f (zO c p x r i).1 (zO c p x r i).2 (((c 17 x (r * 28 + (24 + i))).toInt64) * ((c 20 i p).toInt64)) ((c 19 i 3).toInt64)) fr_get rfl gX9_partOwned_X2_add rfl rfl rfl (by decide +kernel) ⟨(Nat.le_of_ble_eq_true rfl), (Nat.le_of_ble_eq_true rfl)⟩ ⟨(Nat.le_of_ble_eq_true rfl), (Nat.le_of_ble_eq_true rfl)⟩ rfl rfl (Nat.le_of_ble_eq_true rfl) dX9_partOwned_81 (fun u81 h81 => ?_)
          obtain rfl := h81
          refine j_iinc C (nI (i + 1)) [(0, .ref (a 0 0)), (1, .int (nI p)), (2, .ref (a 13 x)), (3, .int (nI r)), (4, .ref f), (5, .int (nI (i + 1))), (6, .int (nI (24 + i))), (7, .ref (a 19 i))] 5 [1, 2, 3, 4, 5, 0, 6, 7] dX9_partOwned_84 rfl (nI_1 i) (by decide) rfl ?_
          refine j_goto C 19 dX9_partOwned_87 (by decide) ?_
          refine j_lv (lv' := [(0, .ref (a 0 0)), (1, .int (nI p)), (2, .ref (a 13 x)), (3, .int (nI r)), (4, .ref f), (5, .int (nI (i + 1)))]) [0, 1, 2, 3, 4, 5] rfl ?_
          refine j_ws (ws2 := cW a d n op ad c ++ [frC f (zO c p x r (i + 1)).1 (zO c p x r (i + 1)).2]) (by rw [zO, if_neg c53]; try rfl) ?_
          exact ih (i + 1) (by omega) (by omega)
  refine j_dup C dX9_partOwned_3 rfl ?_
  refine j_aload_n C 2 dX9_partOwned_4 rfl rfl ?_
  refine j_iload_n C 3 dX9_partOwned_5 rfl rfl ?_
  refine j_iload_n C 1 dX9_partOwned_6 rfl rfl ?_
  refine j_callV_iF C 2 (13 + x) (wa := []) (wc := cW a d n op ad c) (wb := [frC f 0 0]) rfl (cc_X8_heldAsOf l d ad adK adV al a n op c hn x r p hx (by omega) (by omega)) (cG_13 hx) rfl gX9_partOwned_X8_heldAsOf rfl rfl rfl (by decide +kernel) ⟨(Nat.le_of_ble_eq_true rfl), (Nat.le_of_ble_eq_true rfl)⟩ ⟨(Nat.le_of_ble_eq_true rfl), (Nat.le_of_ble_eq_true rfl)⟩ rfl rfl (Nat.le_of_ble_eq_true rfl) dX9_partOwned_7 (fun r7 u7 h7 => ?_)
  obtain ⟨rfl, rfl⟩ := h7
  refine j_i2l C dX9_partOwned_10 ?_
  refine j_callI_v C 1 (cc_X2_init (cEf ad adK adV al) (cEf_k ad adK adV al) l d (cW a d n op ad c) f ((c 17 x (r * 28 + p)).toInt64)) gX9_partOwned_X2_init (by decide +kernel) (by decide +kernel) (by decide +kernel) rfl rfl rfl rfl (by decide +kernel) ⟨(Nat.le_of_ble_eq_true rfl), (Nat.le_of_ble_eq_true rfl)⟩ ⟨(Nat.le_of_ble_eq_true rfl), (Nat.le_of_ble_eq_true rfl)⟩ rfl rfl (Nat.le_of_ble_eq_true rfl) dX9_partOwned_11 (fun u11 h11 => ?_)
  obtain rfl := h11
  refine j_astore C [(0, .ref (a 0 0)), (1, .int (nI p)), (2, .ref (a 13 x)), (3, .int (nI r)), (4, .ref f)] [1, 2, 3, 4, 0] dX9_partOwned_14 (by decide) rfl ?_
  refine j_iconst C 0 dX9_partOwned_16 (by decide) ?_
  refine j_istore C [(0, .ref (a 0 0)), (1, .int (nI p)), (2, .ref (a 13 x)), (3, .int (nI r)), (4, .ref f), (5, .int 0)] [1, 2, 3, 4, 5, 0] dX9_partOwned_17 (by decide) rfl ?_
  exact loop _ 0 (Nat.zero_le _) (Nat.lt_succ_self _)


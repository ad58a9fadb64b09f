/-- a BIDDER's POINTS put -/
def cPay (c : Nat → Nat → Nat → Int32) (b : Nat) (v : Int32) : Nat → Nat → Nat → Int32 := if b < 24 then cu c 18 b 0 v else cu c 19 (b - 24) 0 v
abbrev cHs (s : Nat → Nat → Nat → Int32) (x : Nat) (p : Int32) (k : Nat) : Nat → Nat → Nat → Int32 :=
  cu (cu (cu (cPay s k (cPts s k - s 11 0 k * p)) 15 x k (s 15 x k + s 11 0 k)) 14 x k (s 14 x k - s 11 0 k)) 13 x 2 (s 13 x 2 - s 11 0 k)
def cHO (n : Nat → Nat) (c : Nat → Nat → Nat → Int32) (x : Nat) (p : Int32) : Nat → Nat → Nat → Nat → Int32
  | 0 => c
  | k + 1 => if kB n (nI k) then cHs (cHO n c x p k) x p k else cHO n c x p k

theorem bid3 {a : Nat → Nat → Nat} {n : Nat → Nat} (hn : nOK n) {k : Nat} (hk : k < 28) : (kB n (nI k) ∧ k < n 1 ∧ oB a n (nI k) = some (a 18 k)) ∨ (∃ j, k = 24 + j ∧ j < n 2 ∧ kB n (nI k) ∧ oB a n (nI k) = some (a 19 j)) ∨ (¬ kB n (nI k) ∧ oB a n (nI k) = none) := by
  obtain ⟨hn0, hn1, hn2⟩ := id hn
  by_cases hp : kP n (nI k)
  · refine Or.inl ⟨Or.inl hp, ?_, by rw [oB, if_pos hp, tn_nI (by omega)]⟩
    exact (nI_ltI (by omega) (by omega)).mp hp.2
  · by_cases hf : kF n (nI k)
    · have h1 : 24 ≤ k := (nI_leI (a := 24) (b := k) (by omega) (by omega)).mp hf.1
      have h2 := (nI_ltI (a := k) (b := 24 + n 2) (by omega) (by omega)).mp hf.2
      refine Or.inr (Or.inl ⟨k - 24, by omega, by omega, Or.inr hf, ?_⟩)
      rw [oB, if_neg hp, oF, if_pos hf, tn_nI (by omega)]
    · exact Or.inr (Or.inr ⟨fun h => h.elim hp hf, by rw [oB, if_neg hp, oF, if_neg hf]⟩)

set_option maxHeartbeats 4000000 in
set_option maxRecDepth 100000 in
theorem cc_X9_handOver (l : Launch) (d : jD) (ad adK adV : Nat → Nat) (al : Nat) (a : Nat → Nat → Nat) (n : Nat → Nat) (op : Option Nat) (c : Nat → Nat → Nat → Int32) (hn : nOK n) (x : Nat) (hx : x < n 0) (p : Int32) : jMv (cEf ad adK adV al) d l yX9_handOver wsX9_handOver ({ frames := 3, cells := 0, slots := 0, locals := 66 } : Room) 0 0 [.ref (a 0 0), .ref (a 13 x), .int p] (cW a d n op ad c) (fun u => u = cW a d n op ad (cHO n c x p 28)) := by
  refine jMv.mk (cEf_k ad adK adV al) (by decide) rfl (Nat.le_of_ble_eq_true rfl) (fun X A C hQ => ?_)
  have hinX0 : ∀ w ∈ u_ws RX0 TX0 3, w ∈ wsX9_handOver := fun w h => List.mem_cons_of_mem _ (List.mem_append_left _ (List.mem_append_left _ (List.mem_append_left _ (List.mem_append_right _ h))))
  have hinX3 : ∀ w ∈ u_ws RX3 TX3 4, w ∈ wsX9_handOver := fun w h => List.mem_cons_of_mem _ (List.mem_append_left _ (List.mem_append_left _ (List.mem_append_right _ h)))
  have hinX4 : ∀ w ∈ u_ws RX4 TX4 2, w ∈ wsX9_handOver := fun w h => List.mem_cons_of_mem _ (List.mem_append_left _ (List.mem_append_right _ h))
  have hinX8 : ∀ w ∈ u_ws RX8 TX8 8, w ∈ wsX9_handOver := fun w h => List.mem_cons_of_mem _ (List.mem_append_right _ h)
  have hinX9 : ∀ w ∈ u_ws RX9 TX9 11, w ∈ wsX9_handOver := fun w h => List.mem_cons_of_mem _ (List.mem_append_left _ (List.mem_append_left _ (List.mem_append_left _ (List.mem_append_left _ (List.mem_append_right _ h)))))
  obtain ⟨hn0, hn1, hn2⟩ := id hn
  refine j_lvq (lv2 := [(0, .ref (a 0 0)), (1, .ref (a 13 x)), (2, .int p)]) rfl ?_
  have loop : ∀ fz k : Nat, k ≤ 28 → 28 - k < fz → jJ X l d A 6 0 0 (cW a d n op ad (cHO n c x p k)) [(0, .ref (a 0 0)), (1, .ref (a 13 x)), (2, .int p), (3, .int (nI k))] 2 [] := by
    intro fz
    induction fz with
    | zero => intro k _ h; exact absurd h (Nat.not_lt_zero _)
    | succ fz ih =>
      intro k hi hfz
      refine j_iload_n C 3 dX9_handOver_2 rfl rfl ?_
      refine j_bipush C 28 dX9_handOver_3 (by decide) ?_
      refine j_icmp_ge C 84 dX9_handOver_5 (by decide) (fun c5 => ?_) (fun c5 => ?_)
      · have c5 := (nI_leI (a := 28) (b := k) (by omega) (by omega)).mp c5
        obtain rfl : k = 28 := by omega
        exact j_vret C hQ dX9_handOver_84 rfl
      · have c5 : ¬ (28 ≤ k) := fun h => c5 ((nI_leI (a := 28) (b := k) (by omega) (by omega)).mpr h)
        have hk28 : k < 28 := by omega
        refine j_aload_n C 0 dX9_handOver_8 rfl rfl ?_
        refine j_iload_n C 3 dX9_handOver_9 rfl rfl ?_
        refine j_callV_q C 1 0 (cc_X9_bidderAt l d ad adK adV al a n op (cHO n c x p k) hn (nI k)) cG_0 rfl gX9_handOver_X9_bidderAt rfl rfl rfl (by decide +kernel) ⟨(Nat.le_of_ble_eq_true rfl), (Nat.le_of_ble_eq_true rfl)⟩ ⟨(Nat.le_of_ble_eq_true rfl), (Nat.le_of_ble_eq_true rfl)⟩ rfl rfl (Nat.le_of_ble_eq_true rfl) dX9_handOver_10 (fun r10 u10 h10 => ?_)
        obtain ⟨rfl, rfl⟩ := h10
        rcases bid3 (a := a) hn hk28 with ⟨hkb, hk2, ho⟩ | ⟨j, hkj, hj2, hkb, ho⟩ | ⟨hkb, ho⟩
        · refine j_st (st2 := [.ref (a 18 k)]) (congrArg (fun z => va_rf z :: _) ho) ?_
          refine j_astore C [(0, .ref (a 0 0)), (1, .ref (a 13 x)), (2, .int p), (3, .int (nI k)), (4, .ref (a 18 k))] [1, 2, 3, 4, 0] dX9_handOver_13 (by decide) rfl ?_
          refine j_aload C 4 dX9_handOver_15 rfl ?_
          refine j_ifnull C dX9_handOver_17 ?_
          refine j_aload_n C 0 dX9_handOver_20 rfl rfl ?_
          refine kg_0_allotment C hinX9 (by decide +kernel) dX9_handOver_21 ?_
          refine kgN_9_won C hinX0 nst_X9_262 dX9_handOver_24 ?_
          refine j_iload_n C 3 dX9_handOver_27 rfl rfl ?_
          refine kl_11 C k rfl (by omega) dX9_handOver_28 ?_
          refine j_istore C [(0, .ref (a 0 0)), (1, .ref (a 13 x)), (2, .int p), (3, .int (nI k)), (4, .ref (a 18 k)), (5, .int (cHO n c x p k 11 0 k))] [1, 2, 3, 4, 5, 0] dX9_handOver_29 (by decide) rfl ?_
          refine j_aload C 4 dX9_handOver_31 rfl ?_
          refine j_dup C dX9_handOver_33 rfl ?_
          refine kg_18_points C hinX4 hk2 (by decide +kernel) dX9_handOver_34 ?_
          refine j_iload C 5 dX9_handOver_37 rfl ?_
          refine j_iload_n C 2 dX9_handOver_39 rfl rfl ?_
          refine j_imul C dX9_handOver_40 ?_
          refine j_isub C dX9_handOver_41 ?_
          refine kp_18_points C hinX4 hk2 (by decide +kernel) dX9_handOver_42 ?_
          refine j_aload_n C 1 dX9_handOver_45 rfl rfl ?_
          refine kgN_13_held C hinX8 hx nst_X9_184 dX9_handOver_46 ?_
          refine j_iload_n C 3 dX9_handOver_49 rfl rfl ?_
          refine j_dup2 C dX9_handOver_50 rfl rfl ?_
          refine kl_15 C hx k rfl (by omega) dX9_handOver_51 ?_
          refine j_st (st2 := [.int (cHO n c x p k 15 x k), .int (nI k), .ref (a 15 x)]) rfl ?_
          refine j_iload C 5 dX9_handOver_52 rfl ?_
          refine j_iadd C dX9_handOver_54 ?_
          refine ks_15 C hx k rfl (by omega) dX9_handOver_55 ?_
          refine j_aload_n C 1 dX9_handOver_56 rfl rfl ?_
          refine kgN_13_asked C hinX8 hx nst_X9_126 dX9_handOver_57 ?_
          refine j_iload_n C 3 dX9_handOver_60 rfl rfl ?_
          refine j_dup2 C dX9_handOver_61 rfl rfl ?_
          refine kl_14 C hx k rfl (by omega) dX9_handOver_62 ?_
          refine j_st (st2 := [.int (cHO n c x p k 14 x k), .int (nI k), .ref (a 14 x)]) rfl ?_
          refine j_iload C 5 dX9_handOver_63 rfl ?_
          refine j_isub C dX9_handOver_65 ?_
          refine ks_14 C hx k rfl (by omega) dX9_handOver_66 ?_
          refine j_aload_n C 1 dX9_handOver_67 rfl rfl ?_
          refine j_dup C dX9_handOver_68 rfl ?_
          refine kgN_13_left C hinX8 hx nst_X9_144 dX9_handOver_69 ?_
          refine j_st (st2 := [.int (cHO n c x p k 13 x 2), .ref (a 13 x)]) rfl ?_
          refine j_iload C 5 dX9_handOver_72 rfl ?_
          refine j_isub C dX9_handOver_74 ?_
          refine kpN_13_left C hinX8 hx nst_X9_144 dX9_handOver_75 ?_
          refine j_iinc C (nI (k + 1)) [(0, .ref (a 0 0)), (1, .ref (a 13 x)), (2, .int p), (3, .int (nI (k + 1))), (4, .ref (a 18 k)), (5, .int (cHO n c x p k 11 0 k))] 3 [1, 2, 3, 0, 4, 5] dX9_handOver_78 rfl (nI_1 k) (by decide) rfl ?_
          refine j_goto C 2 dX9_handOver_81 (by decide) ?_
          refine j_lv (lv' := [(0, .ref (a 0 0)), (1, .ref (a 13 x)), (2, .int p), (3, .int (nI (k + 1)))]) [0, 1, 2, 3] rfl ?_
          refine j_ws (ws2 := cW a d n op ad (cHO n c x p (k + 1))) (by rw [cHO, if_pos hkb, cHs, cPay, if_pos (show k < 24 by omega), cPts, if_pos (show k < 24 by omega)]) ?_
          exact ih (k + 1) (by omega) (by omega)
        · refine j_st (st2 := [.ref (a 19 j)]) (congrArg (fun z => va_rf z :: _) ho) ?_
          refine j_astore C [(0, .ref (a 0 0)), (1, .ref (a 13 x)), (2, .int p), (3, .int (nI k)), (4, .ref (a 19 j))] [1, 2, 3, 4, 0] dX9_handOver_13 (by decide) rfl ?_
          refine j_aload C 4 dX9_handOver_15 rfl ?_
          refine j_ifnull C dX9_handOver_17 ?_
          refine j_aload_n C 0 dX9_handOver_20 rfl rfl ?_
          refine kg_0_allotment C hinX9 (by decide +kernel) dX9_handOver_21 ?_
          refine kgN_9_won C hinX0 nst_X9_262 dX9_handOver_24 ?_
          refine j_iload_n C 3 dX9_handOver_27 rfl rfl ?_
          refine kl_11 C k rfl (by omega) dX9_handOver_28 ?_
          refine j_istore C [(0, .ref (a 0 0)), (1, .ref (a 13 x)), (2, .int p), (3, .int (nI k)), (4, .ref (a 19 j)), (5, .int (cHO n c x p k 11 0 k))] [1, 2, 3, 4, 5, 0] dX9_handOver_29 (by decide) rfl ?_
          refine j_aload C 4 dX9_handOver_31 rfl ?_
          refine j_dup C dX9_handOver_33 rfl ?_
          refine kg_19_points C hinX3 hj2 (by decide +kernel) dX9_handOver_34 ?_
          refine j_iload C 5 dX9_handOver_37 rfl ?_
          refine j_iload_n C 2 dX9_handOver_39 rfl rfl ?_
          refine j_imul C dX9_handOver_40 ?_
          refine j_isub C dX9_handOver_41 ?_
          refine kp_19_points C hinX3 hj2 (by decide +kernel) dX9_handOver_42 ?_
          refine j_aload_n C 1 dX9_handOver_45 rfl rfl ?_
          refine kgN_13_held C hinX8 hx nst_X9_184 dX9_handOver_46 ?_
          refine j_iload_n C 3 dX9_handOver_49 rfl rfl ?_
          refine j_dup2 C dX9_handOver_50 rfl rfl ?_
          refine kl_15 C hx k rfl (by omega) dX9_handOver_51 ?_
          refine j_st (st2 := [.int (cHO n c x p k 15 x k), .int (nI k), .ref (a 15 x)]) rfl ?_
          refine j_iload C 5 dX9_handOver_52 rfl ?_
          refine j_iadd C dX9_handOver_54 ?_
          refine ks_15 C hx k rfl (by omega) dX9_handOver_55 ?_
          refine j_aload_n C 1 dX9_handOver_56 rfl rfl ?_
          refine kgN_13_asked C hinX8 hx nst_X9_126 dX9_handOver_57 ?_
          refine j_iload_n C 3 dX9_handOver_60 rfl rfl ?_
          refine j_dup2 C dX9_handOver_61 rfl rfl ?_
          refine kl_14 C hx k rfl (by omega) dX9_handOver_62 ?_
          refine j_st (st2 := [.int (cHO n c x p k 14 x k), .int (nI k), .ref (a 14 x)]) rfl ?_
          refine j_iload C 5 dX9_handOver_63 rfl ?_
          refine j_isub C dX9_handOver_65 ?_
          refine ks_14 C hx k rfl (by omega) dX9_handOver_66 ?_
          refine j_aload_n C 1 dX9_handOver_67 rfl rfl ?_
          refine j_dup C dX9_handOver_68 rfl ?_
          refine kgN_13_left C hinX8 hx nst_X9_144 dX9_handOver_69 ?_
          refine j_st (st2 := [.int (cHO n c x p k 13 x 2), .ref (a 13 x)]) rfl ?_
          refine j_iload C 5 dX9_handOver_72 rfl ?_
          refine j_isub C dX9_handOver_74 ?_
          refine kpN_13_left C hinX8 hx nst_X9_144 dX9_handOver_75 ?_
          refine j_iinc C (nI (k + 1)) [(0, .ref (a 0 0)), (1, .ref (a 13 x)), (2, .int p), (3, .int (nI (k + 1))), (4, .ref (a 19 j)), (5, .int (cHO n c x p k 11 0 k))] 3 [1, 2, 3, 0, 4, 5] dX9_handOver_78 rfl (nI_1 k) (by decide) rfl ?_
          refine j_goto C 2 dX9_handOver_81 (by decide) ?_
          refine j_lv (lv' := [(0, .ref (a 0 0)), (1, .ref (a 13 x)), (2, .int p), (3, .int (nI (k + 1)))]) [0, 1, 2, 3] rfl ?_
          refine j_ws (ws2 := cW a d n op ad (cHO n c x p (k + 1))) (by rw [cHO, if_pos hkb, cHs, cPay, if_neg (show ¬ k < 24 by omega), cPts, if_neg (show ¬ k < 24 by omega), show k - 24 = j by omega]) ?_
          exact ih (k + 1) (by omega) (by omega)
        · refine j_st (st2 := [.null]) (congrArg (fun z => va_rf z :: _) ho) ?_
          refine j_astoreN C [(0, .ref (a 0 0)), (1, .ref (a 13 x)), (2, .int p), (3, .int (nI k)), (4, .null)] [1, 2, 3, 4, 0] dX9_handOver_13 (by decide) rfl ?_
          refine j_aloadN C 4 dX9_handOver_15 rfl ?_
          refine j_ifnullN C 78 dX9_handOver_17 (by decide) ?_
          refine j_iinc C (nI (k + 1)) [(0, .ref (a 0 0)), (1, .ref (a 13 x)), (2, .int p), (3, .int (nI (k + 1))), (4, .null)] 3 [1, 2, 3, 0, 4] dX9_handOver_78 rfl (nI_1 k) (by decide) rfl ?_
          refine j_goto C 2 dX9_handOver_81 (by decide) ?_
          refine j_lv (lv' := [(0, .ref (a 0 0)), (1, .ref (a 13 x)), (2, .int p), (3, .int (nI (k + 1)))]) [0, 1, 2, 3] rfl ?_
          refine j_ws (ws2 := cW a d n op ad (cHO n c x p (k + 1))) (by rw [cHO, if_neg hkb]) ?_
          exact ih (k + 1) (by omega) (by omega)
  refine j_iconst C 0 dX9_handOver_0 (by decide) ?_
  refine j_istore_n C [(0, .ref (a 0 0)), (1, .ref (a 13 x)), (2, .int p), (3, .int 0)] [1, 2, 3, 0] dX9_handOver_1 rfl (by decide) rfl ?_
  exact loop _ 0 (Nat.zero_le _) (Nat.lt_succ_self _)

def zMv (c : Nat → Nat → Nat → Int32) (p ask lf : Int32) : Int32 :=
  let m1 := dvU (p * ask) lf
  let m2 := if p * c 4 0 3 / 100 < m1 then p * c 4 0 3 / 100 else m1
  let m3 := if m2 < dvU (p * c 4 0 4) 100 then dvU (p * c 4 0 4) 100 else m2
  let m4 := if m3 < c 4 0 5 then c 4 0 5 else m3
  if 9999 < m4 then 9999 else m4

set_option maxHeartbeats 4000000 in
set_option maxRecDepth 100000 in
theorem cc_X9_movedPrice (l : Launch) (d : jD) (ad adK adV : Nat → Nat) (al : Nat) (a : Nat → Nat → Nat) (n : Nat → Nat) (op : Option Nat) (c : Nat → Nat → Nat → Int32) (hn : nOK n) (p ask lf : Int32) : jMi (cEf ad adK adV al) d l yX9_movedPrice wsX9_movedPrice ({ frames := 1, cells := 0, slots := 0, locals := 21 } : Room) 0 0 [.ref (a 0 0), .int p, .int ask, .int lf] (cW a d n op ad c) (fun r u => r = zMv c p ask lf ∧ u = cW a d n op ad c) := by
  refine jMi.mk (cEf_k ad adK adV al) (by decide) rfl (Nat.le_of_ble_eq_true rfl) (fun X A C hQ => ?_)
  have hinX9 : ∀ w ∈ u_ws RX9 TX9 11, w ∈ wsX9_movedPrice := fun w h => List.mem_cons_of_mem _ (List.mem_append_left _ (List.mem_append_right _ h))
  refine j_lvq (lv2 := [(0, .ref (a 0 0)), (1, .int p), (2, .int ask), (3, .int lf)]) rfl ?_
  refine j_iload_n C 1 dX9_movedPrice_0 rfl rfl ?_
  refine j_iload_n C 2 dX9_movedPrice_1 rfl rfl ?_
  refine j_imul C dX9_movedPrice_2 ?_
  refine j_iload_n C 3 dX9_movedPrice_3 rfl rfl ?_
  refine j_callS_i C 2 (cc_X9_dividedUp (cEf ad adK adV al) (cEf_k ad adK adV al) l d _ (p * ask) lf) gX9_movedPrice_X9_dividedUp rfl rfl rfl (by decide +kernel) ⟨(Nat.le_of_ble_eq_true rfl), (Nat.le_of_ble_eq_true rfl)⟩ ⟨(Nat.le_of_ble_eq_true rfl), (Nat.le_of_ble_eq_true rfl)⟩ rfl rfl (Nat.le_of_ble_eq_true rfl) dX9_movedPrice_4 (fun r4 u4 h4 => ?_)
  obtain ⟨rfl, rfl⟩ := h4
  refine j_istore C [(0, .ref (a 0 0)), (1, .int p), (2, .int ask), (3, .int lf), (4, .int (dvU (p * ask) lf))] [1, 2, 3, 4, 0] dX9_movedPrice_7 (by decide) rfl ?_
  refine j_iload C 4 dX9_movedPrice_9 rfl ?_
  refine j_iload_n C 1 dX9_movedPrice_11 rfl rfl ?_
  refine j_aload_n C 0 dX9_movedPrice_12 rfl rfl ?_
  refine kg_0_ruleText C hinX9 (by decide +kernel) dX9_movedPrice_13 ?_
  refine je_static C 3 (by decide) (by decide +kernel) dX9_movedPrice_16 ?_
  refine j_callV_i C 1 3 (cc_X6_valueOf l d ad adK adV al a n op c hn 3 (by decide)) cG_3 rfl gX9_movedPrice_X6_valueOf rfl rfl rfl (by decide +kernel) ⟨(Nat.le_of_ble_eq_true rfl), (Nat.le_of_ble_eq_true rfl)⟩ ⟨(Nat.le_of_ble_eq_true rfl), (Nat.le_of_ble_eq_true rfl)⟩ rfl rfl (Nat.le_of_ble_eq_true rfl) dX9_movedPrice_19 (fun r19 u19 h19 => ?_)
  obtain ⟨rfl, rfl⟩ := h19
  refine j_imul C dX9_movedPrice_22 ?_
  refine j_bipush C 100 dX9_movedPrice_23 (by decide) ?_
  refine j_idiv C dX9_movedPrice_25 (by decide) ?_
  refine j_mmin C (by decide +kernel) (by decide +kernel) (by decide +kernel) (by decide +kernel) ⟨(Nat.le_of_ble_eq_true rfl), (Nat.le_of_ble_eq_true rfl)⟩ (Nat.le_of_ble_eq_true rfl) ⟨(Nat.le_of_ble_eq_true rfl), (Nat.le_of_ble_eq_true rfl)⟩ dX9_movedPrice_26 ?_
  refine j_istore C [(0, .ref (a 0 0)), (1, .int p), (2, .int ask), (3, .int lf), (4, .int (if ((p * (c 4 0 3)) / 100) < (dvU (p * ask) lf) then ((p * (c 4 0 3)) / 100) else (dvU (p * ask) lf)))] [1, 2, 3, 4, 0] dX9_movedPrice_29 (by decide) rfl ?_
  refine j_iload C 4 dX9_movedPrice_31 rfl ?_
  refine j_iload_n C 1 dX9_movedPrice_33 rfl rfl ?_
  refine j_aload_n C 0 dX9_movedPrice_34 rfl rfl ?_
  refine kg_0_ruleText C hinX9 (by decide +kernel) dX9_movedPrice_35 ?_
  refine je_static C 4 (by decide) (by decide +kernel) dX9_movedPrice_38 ?_
  refine j_callV_i C 1 3 (cc_X6_valueOf l d ad adK adV al a n op c hn 4 (by decide)) cG_3 rfl gX9_movedPrice_X6_valueOf rfl rfl rfl (by decide +kernel) ⟨(Nat.le_of_ble_eq_true rfl), (Nat.le_of_ble_eq_true rfl)⟩ ⟨(Nat.le_of_ble_eq_true rfl), (Nat.le_of_ble_eq_true rfl)⟩ rfl rfl (Nat.le_of_ble_eq_true rfl) dX9_movedPrice_41 (fun r41 u41 h41 => ?_)
  obtain ⟨rfl, rfl⟩ := h41
  refine j_imul C dX9_movedPrice_44 ?_
  refine j_bipush C 100 dX9_movedPrice_45 (by decide) ?_
  refine j_callS_i C 2 (cc_X9_dividedUp (cEf ad adK adV al) (cEf_k ad adK adV al) l d _ (p * (c 4 0 4)) 100) gX9_movedPrice_X9_dividedUp rfl rfl rfl (by decide +kernel) ⟨(Nat.le_of_ble_eq_true rfl), (Nat.le_of_ble_eq_true rfl)⟩ ⟨(Nat.le_of_ble_eq_true rfl), (Nat.le_of_ble_eq_true rfl)⟩ rfl rfl (Nat.le_of_ble_eq_true rfl) dX9_movedPrice_47 (fun r47 u47 h47 => ?_)
  obtain ⟨rfl, rfl⟩ := h47
  refine j_mmax C (by decide +kernel) (by decide +kernel) (by decide +kernel) (by decide +kernel) ⟨(Nat.le_of_ble_eq_true rfl), (Nat.le_of_ble_eq_true rfl)⟩ (Nat.le_of_ble_eq_true rfl) ⟨(Nat.le_of_ble_eq_true rfl), (Nat.le_of_ble_eq_true rfl)⟩ dX9_movedPrice_50 ?_
  refine j_istore C [(0, .ref (a 0 0)), (1, .int p), (2, .int ask), (3, .int lf), (4, .int (if (if ((p * (c 4 0 3)) / 100) < (dvU (p * ask) lf) then ((p * (c 4 0 3)) / 100) else (dvU (p * ask) lf)) < (dvU (p * (c 4 0 4)) 100) then (dvU (p * (c 4 0 4)) 100) else (if ((p * (c 4 0 3)) / 100) < (dvU (p * ask) lf) then ((p * (c 4 0 3)) / 100) else (dvU (p * ask) lf))))] [1, 2, 3, 4, 0] dX9_movedPrice_53 (by decide) rfl ?_
  refine j_iload C 4 dX9_movedPrice_55 rfl ?_
  refine j_aload_n C 0 dX9_movedPrice_57 rfl rfl ?_
  refine kg_0_ruleText C hinX9 (by decide +kernel) dX9_movedPrice_58 ?_
  refine je_static C 5 (by decide) (by decide +kernel) dX9_movedPrice_61 ?_
  refine j_callV_i C 1 3 (cc_X6_valueOf l d ad adK adV al a n op c hn 5 (by decide)) cG_3 rfl gX9_movedPrice_X6_valueOf rfl rfl rfl (by decide +kernel) ⟨(Nat.le_of_ble_eq_true rfl), (Nat.le_of_ble_eq_true rfl)⟩ ⟨(Nat.le_of_ble_eq_true rfl), (Nat.le_of_ble_eq_true rfl)⟩ rfl rfl (Nat.le_of_ble_eq_true rfl) dX9_movedPrice_64 (fun r64 u64 h64 => ?_)
  obtain ⟨rfl, rfl⟩ := h64
  refine j_mmax C (by decide +kernel) (by decide +kernel) (by decide +kernel) (by decide +kernel) ⟨(Nat.le_of_ble_eq_true rfl), (Nat.le_of_ble_eq_true rfl)⟩ (Nat.le_of_ble_eq_true rfl) ⟨(Nat.le_of_ble_eq_true rfl), (Nat.le_of_ble_eq_true rfl)⟩ dX9_movedPrice_67 ?_
  refine j_istore C [(0, .ref (a 0 0)), (1, .int p), (2, .int ask), (3, .int lf), (4, .int (if (if (if ((p * (c 4 0 3)) / 100) < (dvU (p * ask) lf) then ((p * (c 4 0 3)) / 100) else (dvU (p * ask) lf)) < (dvU (p * (c 4 0 4)) 100) then (dvU (p * (c 4 0 4)) 100) else (if ((p * (c 4 0 3)) / 100) < (dvU (p * ask) lf) then ((p * (c 4 0 3)) / 100) else (dvU (p * ask) lf))) < (c 4 0 5) then (c 4 0 5) else (if (if ((p * (c 4 0 3)) / 100) < (dvU (p * ask) lf) then ((p * (c 4 0 3)) / 100) else (dvU (p * ask) lf)) < (dvU (p * (c 4 0 4)) 100) then (dvU (p * (c 4 0 4)) 100) else (if ((p * (c 4 0 3)) / 100) < (dvU (p * ask) lf) then ((p * (c 4 0 3)) / 100) else (dvU (p * ask) lf)))))] [1, 2, 3, 4, 0] dX9_movedPrice_70 (by decide) rfl ?_
  refine j_iload C 4 dX9_movedPrice_72 rfl ?_
  refine j_sipush C 9999 dX9_movedPrice_74 (by decide) ?_
  refine j_mmin C (by decide +kernel) (by decide +kernel) (by decide +kernel) (by decide +kernel) ⟨(Nat.le_of_ble_eq_true rfl), (Nat.le_of_ble_eq_true rfl)⟩ (Nat.le_of_ble_eq_true rfl) ⟨(Nat.le_of_ble_eq_true rfl), (Nat.le_of_ble_eq_true rfl)⟩ dX9_movedPrice_77 ?_
  exact j_iret C hQ dX9_movedPrice_80 (⟨rfl, rfl⟩)

def cWW (n : Nat → Nat) (c : Nat → Nat → Nat → Int32) (x : Nat) : Nat → Nat → Nat → Nat → Int32
  | 0 => c
  | k + 1 => cu (cWW n c x k) 10 0 k (if k < n 1 ∧ cWW n c x k 18 k 1 = nI x then cWW n c x k 14 x k else 0)
theorem cWW_r (n : Nat → Nat) (c : Nat → Nat → Nat → Int32) (x : Nat) {y : Nat} (hy : y ≠ 10) : ∀ k, cWW n c x k y = c y
  | 0 => rfl
  | k + 1 => by rw [cWW, ← cWW_r n c x hy k]; simp [cu, hy]
abbrev zRsv (n : Nat → Nat) (c : Nat → Nat → Nat → Int32) (x : Nat) : Int32 := cWW n c x 28 13 x 0 * cWW n c x 28 4 0 0 / 100
abbrev zRsM (n : Nat → Nat) (c : Nat → Nat → Nat → Int32) (x : Nat) : Int32 := if cWW n c x 28 13 x 2 < zRsv n c x then cWW n c x 28 13 x 2 else zRsv n c x
abbrev zWc (n : Nat → Nat) (c : Nat → Nat → Nat → Int32) (x o1 o2 : Nat) : Nat → Nat → Nat → Int32 := zCut (cWW n c x 28) (zRsM n c x) o1 o2
abbrev zWp (n : Nat → Nat) (c : Nat → Nat → Nat → Int32) (x o1 o2 : Nat) : Int32 := dvU (zWc n c x o1 o2 13 x 3 * zWc n c x o1 o2 4 0 1) 100
def zSW (n : Nat → Nat) (c : Nat → Nat → Nat → Int32) (x o1 o2 : Nat) : Nat → Nat → Nat → Int32 := cHO n (zWc n c x o1 o2) x (zWp n c x o1 o2) 28

set_option maxHeartbeats 4000000 in
set_option maxRecDepth 100000 in
theorem cc_X9_sellToWorkers (l : Launch) (d : jD) (ad adK adV : Nat → Nat) (al : Nat) (a : Nat → Nat → Nat) (n : Nat → Nat) (op : Option Nat) (c : Nat → Nat → Nat → Int32) (hn : nOK n) (x : Nat) (hx : x < n 0) (o1 o2 : Nat) (hok : okCut (cWW n c x 28) (zRsM n c x) o1 o2) : jMv (cEf ad adK adV al) d l yX9_sellToWorkers wsX9_sellToWorkers ({ frames := 4, cells := 0, slots := 0, locals := 91 } : Room) 0 0 [.ref (a 0 0), .ref (a 13 x), .int (nI x)] (cW a d n op ad c) (fun u => u = cW a d n op ad (zSW n c x o1 o2)) := by
  refine jMv.mk (cEf_k ad adK adV al) (by decide) rfl (Nat.le_of_ble_eq_true rfl) (fun X A C hQ => ?_)
  have hinX0 : ∀ w ∈ u_ws RX0 TX0 3, w ∈ wsX9_sellToWorkers := fun w h => List.mem_cons_of_mem _ (List.mem_append_left _ (List.mem_append_left _ (List.mem_append_left _ (List.mem_append_left _ (List.mem_append_right _ h)))))
  have hinX4 : ∀ w ∈ u_ws RX4 TX4 2, w ∈ wsX9_sellToWorkers := fun w h => List.mem_cons_of_mem _ (List.mem_append_left _ (List.mem_append_left _ (List.mem_append_left _ (List.mem_append_right _ h))))
  have hinX8 : ∀ w ∈ u_ws RX8 TX8 8, w ∈ wsX9_sellToWorkers := fun w h => List.mem_cons_of_mem _ (List.mem_append_left _ (List.mem_append_left _ (List.mem_append_right _ h)))
  have hinX9 : ∀ w ∈ u_ws RX9 TX9 11, w ∈ wsX9_sellToWorkers := fun w h => List.mem_cons_of_mem _ (List.mem_append_left _ (List.mem_append_left _ (List.mem_append_left _ (List.mem_append_left _ (List.mem_append_left _ (List.mem_append_right _ h))))))
  obtain ⟨hn0, hn1, hn2⟩ := id hn
  refine j_lvq (lv2 := [(0, .ref (a 0 0)), (1, .ref (a 13 x)), (2, .int (nI x))]) rfl ?_
  have loop : ∀ fz k : Nat, k ≤ 28 → 28 - k < fz → jJ X l d A 5 0 0 (cW a d n op ad (cWW n c x k)) [(0, .ref (a 0 0)), (1, .ref (a 13 x)), (2, .int (nI x)), (3, .int (nI k))] 2 [] := by
    intro fz
    induction fz with
    | zero => intro k _ h; exact absurd h (Nat.not_lt_zero _)
    | succ fz ih =>
      intro k hi hfz
      refine j_iload_n C 3 dX9_sellToWorkers_2 rfl rfl ?_
      refine j_bipush C 28 dX9_sellToWorkers_3 (by decide) ?_
      refine j_icmp_ge C 54 dX9_sellToWorkers_5 (by decide) (fun c5 => ?_) (fun c5 => ?_)
      · have c5 := (nI_leI (a := 28) (b := k) (by omega) (by omega)).mp c5
        obtain rfl : k = 28 := by omega
        refine j_aload_n C 1 dX9_sellToWorkers_54 rfl rfl ?_
        refine kgN_13_shares C hinX8 hx nst_X9_141 dX9_sellToWorkers_55 ?_
        refine j_aload_n C 0 dX9_sellToWorkers_58 rfl rfl ?_
        refine kg_0_ruleText C hinX9 (by decide +kernel) dX9_sellToWorkers_59 ?_
        refine je_static C 0 (by decide) (by decide +kernel) dX9_sellToWorkers_62 ?_
        refine j_callV_i C 1 3 (cc_X6_valueOf l d ad adK adV al a n op (cWW n c x 28) hn 0 (by decide)) cG_3 rfl gX9_sellToWorkers_X6_valueOf rfl rfl rfl (by decide +kernel) ⟨(Nat.le_of_ble_eq_true rfl), (Nat.le_of_ble_eq_true rfl)⟩ ⟨(Nat.le_of_ble_eq_true rfl), (Nat.le_of_ble_eq_true rfl)⟩ rfl rfl (Nat.le_of_ble_eq_true rfl) dX9_sellToWorkers_65 (fun r65 u65 h65 => ?_)
        obtain ⟨rfl, rfl⟩ := h65
        refine j_imul C dX9_sellToWorkers_68 ?_
        refine j_bipush C 100 dX9_sellToWorkers_69 (by decide) ?_
        refine j_idiv C dX9_sellToWorkers_71 (by decide) ?_
        refine j_istore_n C [(0, .ref (a 0 0)), (1, .ref (a 13 x)), (2, .int (nI x)), (3, .int (((cWW n c x 28 13 x 0) * (cWW n c x 28 4 0 0)) / 100))] [1, 2, 3, 0] dX9_sellToWorkers_72 rfl (by decide) rfl ?_
        refine j_aload_n C 0 dX9_sellToWorkers_73 rfl rfl ?_
        refine kg_0_allotment C hinX9 (by decide +kernel) dX9_sellToWorkers_74 ?_
        refine j_iload_n C 3 dX9_sellToWorkers_77 rfl rfl ?_
        refine j_aload_n C 1 dX9_sellToWorkers_78 rfl rfl ?_
        refine kgN_13_left C hinX8 hx nst_X9_144 dX9_sellToWorkers_79 ?_
        refine j_mmin C (by decide +kernel) (by decide +kernel) (by decide +kernel) (by decide +kernel) ⟨(Nat.le_of_ble_eq_true rfl), (Nat.le_of_ble_eq_true rfl)⟩ (Nat.le_of_ble_eq_true rfl) ⟨(Nat.le_of_ble_eq_true rfl), (Nat.le_of_ble_eq_true rfl)⟩ dX9_sellToWorkers_82 ?_
        refine j_callV_v C 1 9 (cc_X0_cutBackTo l d ad adK adV al a n op (cWW n c x 28) hn (zRsM n c x) o1 o2 hok) cG_9 rfl gX9_sellToWorkers_X0_cutBackTo rfl rfl rfl (by decide +kernel) ⟨(Nat.le_of_ble_eq_true rfl), (Nat.le_of_ble_eq_true rfl)⟩ ⟨(Nat.le_of_ble_eq_true rfl), (Nat.le_of_ble_eq_true rfl)⟩ rfl rfl (Nat.le_of_ble_eq_true rfl) dX9_sellToWorkers_85 (fun u85 h85 => ?_)
        obtain rfl := h85
        refine j_aload_n C 0 dX9_sellToWorkers_88 rfl rfl ?_
        refine j_aload_n C 1 dX9_sellToWorkers_89 rfl rfl ?_
        refine j_aload_n C 1 dX9_sellToWorkers_90 rfl rfl ?_
        refine kgN_13_priceNow C hinX8 hx nst_X9_129 dX9_sellToWorkers_91 ?_
        refine j_aload_n C 0 dX9_sellToWorkers_94 rfl rfl ?_
        refine kg_0_ruleText C hinX9 (by decide +kernel) dX9_sellToWorkers_95 ?_
        refine je_static C 1 (by decide) (by decide +kernel) dX9_sellToWorkers_98 ?_
        refine j_callV_i C 1 3 (cc_X6_valueOf l d ad adK adV al a n op (zWc n c x o1 o2) hn 1 (by decide)) cG_3 rfl gX9_sellToWorkers_X6_valueOf rfl rfl rfl (by decide +kernel) ⟨(Nat.le_of_ble_eq_true rfl), (Nat.le_of_ble_eq_true rfl)⟩ ⟨(Nat.le_of_ble_eq_true rfl), (Nat.le_of_ble_eq_true rfl)⟩ rfl rfl (Nat.le_of_ble_eq_true rfl) dX9_sellToWorkers_101 (fun r101 u101 h101 => ?_)
        obtain ⟨rfl, rfl⟩ := h101
        refine j_imul C dX9_sellToWorkers_104 ?_
        refine j_bipush C 100 dX9_sellToWorkers_105 (by decide) ?_
        refine j_callS_i C 2 (cc_X9_dividedUp (cEf ad adK adV al) (cEf_k ad adK adV al) l d _ ((zWc n c x o1 o2 13 x 3) * (zWc n c x o1 o2 4 0 1)) 100) gX9_sellToWorkers_X9_dividedUp rfl rfl rfl (by decide +kernel) ⟨(Nat.le_of_ble_eq_true rfl), (Nat.le_of_ble_eq_true rfl)⟩ ⟨(Nat.le_of_ble_eq_true rfl), (Nat.le_of_ble_eq_true rfl)⟩ rfl rfl (Nat.le_of_ble_eq_true rfl) dX9_sellToWorkers_107 (fun r107 u107 h107 => ?_)
        obtain ⟨rfl, rfl⟩ := h107
        refine j_callV_v C 2 0 (cc_X9_handOver l d ad adK adV al a n op (zWc n c x o1 o2) hn x hx (zWp n c x o1 o2)) cG_0 rfl gX9_sellToWorkers_X9_handOver rfl rfl rfl (by decide +kernel) ⟨(Nat.le_of_ble_eq_true rfl), (Nat.le_of_ble_eq_true rfl)⟩ ⟨(Nat.le_of_ble_eq_true rfl), (Nat.le_of_ble_eq_true rfl)⟩ rfl rfl (Nat.le_of_ble_eq_true rfl) dX9_sellToWorkers_110 (fun u110 h110 => ?_)
        obtain rfl := h110
        exact j_vret C hQ dX9_sellToWorkers_113 rfl
      · have c5 : ¬ (28 ≤ k) := fun h => c5 ((nI_leI (a := 28) (b := k) (by omega) (by omega)).mpr h)
        refine j_aload_n C 0 dX9_sellToWorkers_8 rfl rfl ?_
        refine j_iload_n C 3 dX9_sellToWorkers_9 rfl rfl ?_
        refine j_callV_q C 1 0 (cc_X9_personAt l d ad adK adV al a n op (cWW n c x k) hn (nI k)) cG_0 rfl gX9_sellToWorkers_X9_personAt rfl rfl rfl (by decide +kernel) ⟨(Nat.le_of_ble_eq_true rfl), (Nat.le_of_ble_eq_true rfl)⟩ ⟨(Nat.le_of_ble_eq_true rfl), (Nat.le_of_ble_eq_true rfl)⟩ rfl rfl (Nat.le_of_ble_eq_true rfl) dX9_sellToWorkers_10 (fun r10 u10 h10 => ?_)
        obtain ⟨rfl, rfl⟩ := h10
        by_cases hkp : k < n 1
        · refine j_st (st2 := [.ref (a 18 k)]) (congrArg (fun z => va_rf z :: _) (oP_j hn hkp)) ?_
          refine j_astore C [(0, .ref (a 0 0)), (1, .ref (a 13 x)), (2, .int (nI x)), (3, .int (nI k)), (4, .ref (a 18 k))] [1, 2, 3, 4, 0] dX9_sellToWorkers_13 (by decide) rfl ?_
          refine j_aload_n C 0 dX9_sellToWorkers_15 rfl rfl ?_
          refine kg_0_allotment C hinX9 (by decide +kernel) dX9_sellToWorkers_16 ?_
          refine kgN_9_wanted C hinX0 nst_X9_216 dX9_sellToWorkers_19 ?_
          refine j_iload_n C 3 dX9_sellToWorkers_22 rfl rfl ?_
          refine j_aload C 4 dX9_sellToWorkers_23 rfl ?_
          refine j_ifnull C dX9_sellToWorkers_25 ?_
          refine j_aload C 4 dX9_sellToWorkers_28 rfl ?_
          refine kgN_18_workerOf C hinX4 hkp nst_X9_219 dX9_sellToWorkers_30 ?_
          refine j_iload_n C 2 dX9_sellToWorkers_33 rfl rfl ?_
          refine j_icmp_ne C 46 dX9_sellToWorkers_34 (by decide) (fun c34 => ?_) (fun c34 => ?_)
          · refine j_iconst C 0 dX9_sellToWorkers_46 (by decide) ?_
            refine ks_10 C k rfl (by omega) dX9_sellToWorkers_47 ?_
            refine j_iinc C (nI (k + 1)) [(0, .ref (a 0 0)), (1, .ref (a 13 x)), (2, .int (nI x)), (3, .int (nI (k + 1))), (4, .ref (a 18 k))] 3 [1, 2, 3, 0, 4] dX9_sellToWorkers_48 rfl (nI_1 k) (by decide) rfl ?_
            refine j_goto C 2 dX9_sellToWorkers_51 (by decide) ?_
            refine j_lv (lv' := [(0, .ref (a 0 0)), (1, .ref (a 13 x)), (2, .int (nI x)), (3, .int (nI (k + 1)))]) [0, 1, 2, 3] rfl ?_
            refine j_ws (ws2 := cW a d n op ad (cWW n c x (k + 1))) (by rw [cWW, if_neg (fun h => c34 h.2)]) ?_
            exact ih (k + 1) (by omega) (by omega)
          · refine j_aload_n C 1 dX9_sellToWorkers_37 rfl rfl ?_
            refine kgN_13_asked C hinX8 hx nst_X9_126 dX9_sellToWorkers_38 ?_
            refine j_iload_n C 3 dX9_sellToWorkers_41 rfl rfl ?_
            refine kl_14 C hx k rfl (by omega) dX9_sellToWorkers_42 ?_
            refine j_goto C 47 dX9_sellToWorkers_43 (by decide) ?_
            refine ks_10 C k rfl (by omega) dX9_sellToWorkers_47 ?_
            refine j_iinc C (nI (k + 1)) [(0, .ref (a 0 0)), (1, .ref (a 13 x)), (2, .int (nI x)), (3, .int (nI (k + 1))), (4, .ref (a 18 k))] 3 [1, 2, 3, 0, 4] dX9_sellToWorkers_48 rfl (nI_1 k) (by decide) rfl ?_
            refine j_goto C 2 dX9_sellToWorkers_51 (by decide) ?_
            refine j_lv (lv' := [(0, .ref (a 0 0)), (1, .ref (a 13 x)), (2, .int (nI x)), (3, .int (nI (k + 1)))]) [0, 1, 2, 3] rfl ?_
            refine j_ws (ws2 := cW a d n op ad (cWW n c x (k + 1))) (by rw [cWW, if_pos ⟨hkp, c34⟩]) ?_
            exact ih (k + 1) (by omega) (by omega)
        · refine j_st (st2 := [.null]) (congrArg (fun z => va_rf z :: _) (if_neg (fun h => hkp ((nI_ltI (by omega) (by omega)).mp h.2)))) ?_
          refine j_astoreN C [(0, .ref (a 0 0)), (1, .ref (a 13 x)), (2, .int (nI x)), (3, .int (nI k)), (4, .null)] [1, 2, 3, 4, 0] dX9_sellToWorkers_13 (by decide) rfl ?_
          refine j_aload_n C 0 dX9_sellToWorkers_15 rfl rfl ?_
          refine kg_0_allotment C hinX9 (by decide +kernel) dX9_sellToWorkers_16 ?_
          refine kgN_9_wanted C hinX0 nst_X9_216 dX9_sellToWorkers_19 ?_
          refine j_iload_n C 3 dX9_sellToWorkers_22 rfl rfl ?_
          refine j_aloadN C 4 dX9_sellToWorkers_23 rfl ?_
          refine j_ifnullN C 46 dX9_sellToWorkers_25 (by decide) ?_
          refine j_iconst C 0 dX9_sellToWorkers_46 (by decide) ?_
          refine ks_10 C k rfl (by omega) dX9_sellToWorkers_47 ?_
          refine j_iinc C (nI (k + 1)) [(0, .ref (a 0 0)), (1, .ref (a 13 x)), (2, .int (nI x)), (3, .int (nI (k + 1))), (4, .null)] 3 [1, 2, 3, 0, 4] dX9_sellToWorkers_48 rfl (nI_1 k) (by decide) rfl ?_
          refine j_goto C 2 dX9_sellToWorkers_51 (by decide) ?_
          refine j_lv (lv' := [(0, .ref (a 0 0)), (1, .ref (a 13 x)), (2, .int (nI x)), (3, .int (nI (k + 1)))]) [0, 1, 2, 3] rfl ?_
          refine j_ws (ws2 := cW a d n op ad (cWW n c x (k + 1))) (by rw [cWW, if_neg (fun h => hkp h.1)]) ?_
          exact ih (k + 1) (by omega) (by omega)
  refine j_iconst C 0 dX9_sellToWorkers_0 (by decide) ?_
  refine j_istore_n C [(0, .ref (a 0 0)), (1, .ref (a 13 x)), (2, .int (nI x)), (3, .int 0)] [1, 2, 3, 0] dX9_sellToWorkers_1 rfl (by decide) rfl ?_
  exact loop _ 0 (Nat.zero_le _) (Nat.lt_succ_self _)

/-- a whole row put -/
def cRow (c : Nat → Nat → Nat → Int32) (k i : Nat) (f : Nat → Int32) : Nat → Nat → Nat → Int32 := fun k' => if k' = k then (fun i' => if i' = i then f else c k i') else c k'
abbrev zA1 (c : Nat → Nat → Nat → Int32) (x : Nat) : Nat → Nat → Nat → Int32 := cRow c 10 0 (va_cpy (c 14 x) (c 10 0) 0 0 28)
abbrev zAsk (c : Nat → Nat → Nat → Int32) (x : Nat) : Int32 := sumA (c 14 x) 28
abbrev zMuch (c : Nat → Nat → Nat → Int32) (x : Nat) : Prop := ¬ zAsk c x - c 13 x 2 ≤ c 13 x 2 * zA1 c x 4 0 2 / 100
abbrev zTo (c : Nat → Nat → Nat → Int32) (x : Nat) : Int32 := if zMuch c x then 0 else c 13 x 2
abbrev zA2 (c : Nat → Nat → Nat → Int32) (x o1 o2 : Nat) : Nat → Nat → Nat → Int32 := zCut (zA1 c x) (zTo c x) o1 o2
abbrev zA3 (n : Nat → Nat) (c : Nat → Nat → Nat → Int32) (x o1 o2 : Nat) : Nat → Nat → Nat → Int32 := cHO n (zA2 c x o1 o2) x (zA2 c x o1 o2 13 x 3) 28
def zSA (n : Nat → Nat) (c : Nat → Nat → Nat → Int32) (x o1 o2 : Nat) : Nat → Nat → Nat → Int32 := if c 13 x 2 ≤ 0 then zA3 n c x o1 o2 else cu (zA3 n c x o1 o2) 13 x 3 (zMv (zA3 n c x o1 o2) (zA3 n c x o1 o2 13 x 3) (zAsk c x) (c 13 x 2))

set_option maxHeartbeats 4000000 in
set_option maxRecDepth 100000 in
theorem cc_X9_sellToAll (l : Launch) (d : jD) (ad adK adV : Nat → Nat) (al : Nat) (a : Nat → Nat → Nat) (n : Nat → Nat) (op : Option Nat) (c : Nat → Nat → Nat → Int32) (hn : nOK n) (x : Nat) (hx : x < n 0) (o1 o2 : Nat) (hok : okCut (zA1 c x) (zTo c x) o1 o2) : jMv (cEf ad adK adV al) d l yX9_sellToAll wsX9_sellToAll ({ frames := 4, cells := 0, slots := 0, locals := 91 } : Room) 0 0 [.ref (a 0 0), .ref (a 13 x)] (cW a d n op ad c) (fun u => u = cW a d n op ad (zSA n c x o1 o2)) := by
  refine jMv.mk (cEf_k ad adK adV al) (by decide) rfl (Nat.le_of_ble_eq_true rfl) (fun X A C hQ => ?_)
  have hinX0 : ∀ w ∈ u_ws RX0 TX0 3, w ∈ wsX9_sellToAll := fun w h => List.mem_cons_of_mem _ (List.mem_append_left _ (List.mem_append_left _ (List.mem_append_left _ (List.mem_append_right _ h))))
  have hinX8 : ∀ w ∈ u_ws RX8 TX8 8, w ∈ wsX9_sellToAll := fun w h => List.mem_cons_of_mem _ (List.mem_append_left _ (List.mem_append_left _ (List.mem_append_left _ (List.mem_append_left _ (List.mem_append_left _ (List.mem_append_right _ h))))))
  have hinX9 : ∀ w ∈ u_ws RX9 TX9 11, w ∈ wsX9_sellToAll := fun w h => List.mem_cons_of_mem _ (List.mem_append_left _ (List.mem_append_left _ (List.mem_append_left _ (List.mem_append_left _ (List.mem_append_right _ h)))))
  obtain ⟨hn0, hn1, hn2⟩ := id hn
  refine j_lvq (lv2 := [(0, .ref (a 0 0)), (1, .ref (a 13 x))]) rfl ?_
  refine j_aload_n C 1 dX9_sellToAll_0 rfl rfl ?_
  refine kgN_13_left C hinX8 hx nst_X9_144 dX9_sellToAll_1 ?_
  refine j_istore_n C [(0, .ref (a 0 0)), (1, .ref (a 13 x)), (2, .int (c 13 x 2))] [1, 2, 0] dX9_sellToAll_4 rfl (by decide) rfl ?_
  refine j_aload_n C 1 dX9_sellToAll_5 rfl rfl ?_
  refine kgN_13_asked C hinX8 hx nst_X9_126 dX9_sellToAll_6 ?_
  refine j_callS_i C 1 (cc_X9_sumOf (cEf ad adK adV al) (cEf_k ad adK adV al) l d _ (13 + (n 0 + x)) (a 14 x) (c 14 x) (cG_14 hx)) gX9_sellToAll_X9_sumOf rfl rfl rfl (by decide +kernel) ⟨(Nat.le_of_ble_eq_true rfl), (Nat.le_of_ble_eq_true rfl)⟩ ⟨(Nat.le_of_ble_eq_true rfl), (Nat.le_of_ble_eq_true rfl)⟩ rfl rfl (Nat.le_of_ble_eq_true rfl) dX9_sellToAll_9 (fun r9 u9 h9 => ?_)
  obtain ⟨rfl, rfl⟩ := h9
  refine j_istore_n C [(0, .ref (a 0 0)), (1, .ref (a 13 x)), (2, .int (c 13 x 2)), (3, .int (zAsk c x))] [1, 2, 3, 0] dX9_sellToAll_12 rfl (by decide) rfl ?_
  refine j_aload_n C 1 dX9_sellToAll_13 rfl rfl ?_
  refine kgN_13_asked C hinX8 hx nst_X9_126 dX9_sellToAll_14 ?_
  refine j_iconst C 0 dX9_sellToAll_17 (by decide) ?_
  refine j_aload_n C 0 dX9_sellToAll_18 rfl rfl ?_
  refine kg_0_allotment C hinX9 (by decide +kernel) dX9_sellToAll_19 ?_
  refine kgN_9_wanted C hinX0 nst_X9_216 dX9_sellToAll_22 ?_
  refine j_iconst C 0 dX9_sellToAll_25 (by decide) ?_
  refine j_bipush C 28 dX9_sellToAll_26 (by decide) ?_
  refine j_copyi C (13 + (n 0 + x)) 10 (cG_14 hx) cG_10 28 (by decide) (by decide) (by decide) (by decide +kernel) (by decide +kernel) (by decide +kernel) (by decide +kernel) ⟨(Nat.le_of_ble_eq_true rfl), (Nat.le_of_ble_eq_true rfl)⟩ (ws2 := cW a d n op ad (zA1 c x)) rfl dX9_sellToAll_28 ?_
  refine j_iload_n C 3 dX9_sellToAll_31 rfl rfl ?_
  refine j_iload_n C 2 dX9_sellToAll_32 rfl rfl ?_
  refine j_isub C dX9_sellToAll_33 ?_
  refine j_iload_n C 2 dX9_sellToAll_34 rfl rfl ?_
  refine j_aload_n C 0 dX9_sellToAll_35 rfl rfl ?_
  refine kg_0_ruleText C hinX9 (by decide +kernel) dX9_sellToAll_36 ?_
  refine je_static C 2 (by decide) (by decide +kernel) dX9_sellToAll_39 ?_
  refine j_callV_i C 1 3 (cc_X6_valueOf l d ad adK adV al a n op (zA1 c x) hn 2 (by decide)) cG_3 rfl gX9_sellToAll_X6_valueOf rfl rfl rfl (by decide +kernel) ⟨(Nat.le_of_ble_eq_true rfl), (Nat.le_of_ble_eq_true rfl)⟩ ⟨(Nat.le_of_ble_eq_true rfl), (Nat.le_of_ble_eq_true rfl)⟩ rfl rfl (Nat.le_of_ble_eq_true rfl) dX9_sellToAll_42 (fun r42 u42 h42 => ?_)
  obtain ⟨rfl, rfl⟩ := h42
  refine j_imul C dX9_sellToAll_45 ?_
  refine j_bipush C 100 dX9_sellToAll_46 (by decide) ?_
  refine j_idiv C dX9_sellToAll_48 (by decide) ?_
  refine j_icmp_le C 56 dX9_sellToAll_49 (by decide) (fun c49 => ?_) (fun c49 => ?_)
  · refine j_iconst C 0 dX9_sellToAll_56 (by decide) ?_
    refine j_istore C [(0, .ref (a 0 0)), (1, .ref (a 13 x)), (2, .int (c 13 x 2)), (3, .int (zAsk c x)), (4, .int 0)] [1, 2, 3, 4, 0] dX9_sellToAll_57 (by decide) rfl ?_
    refine j_aload_n C 0 dX9_sellToAll_59 rfl rfl ?_
    refine kg_0_allotment C hinX9 (by decide +kernel) dX9_sellToAll_60 ?_
    refine j_iload C 4 dX9_sellToAll_63 rfl ?_
    refine j_if_eq C 72 dX9_sellToAll_65 (by decide) (fun _ => ?_) (fun h => absurd h (by decide))
    refine j_iload_n C 2 dX9_sellToAll_72 rfl rfl ?_
    refine j_st (st2 := [.int (zTo c x), .ref (a 9 0)]) (congrArg (fun z => Value.int z :: _) (show c 13 x 2 = zTo c x from (if_neg (fun h => h c49)).symm)) ?_
    refine j_callV_v C 1 9 (cc_X0_cutBackTo l d ad adK adV al a n op (zA1 c x) hn (zTo c x) o1 o2 hok) cG_9 rfl gX9_sellToAll_X0_cutBackTo rfl rfl rfl (by decide +kernel) ⟨(Nat.le_of_ble_eq_true rfl), (Nat.le_of_ble_eq_true rfl)⟩ ⟨(Nat.le_of_ble_eq_true rfl), (Nat.le_of_ble_eq_true rfl)⟩ rfl rfl (Nat.le_of_ble_eq_true rfl) dX9_sellToAll_73 (fun u73 h73 => ?_)
    obtain rfl := h73
    refine j_aload_n C 0 dX9_sellToAll_76 rfl rfl ?_
    refine j_aload_n C 1 dX9_sellToAll_77 rfl rfl ?_
    refine j_aload_n C 1 dX9_sellToAll_78 rfl rfl ?_
    refine kgN_13_priceNow C hinX8 hx nst_X9_129 dX9_sellToAll_79 ?_
    refine j_callV_v C 2 0 (cc_X9_handOver l d ad adK adV al a n op (zA2 c x o1 o2) hn x hx (zA2 c x o1 o2 13 x 3)) cG_0 rfl gX9_sellToAll_X9_handOver rfl rfl rfl (by decide +kernel) ⟨(Nat.le_of_ble_eq_true rfl), (Nat.le_of_ble_eq_true rfl)⟩ ⟨(Nat.le_of_ble_eq_true rfl), (Nat.le_of_ble_eq_true rfl)⟩ rfl rfl (Nat.le_of_ble_eq_true rfl) dX9_sellToAll_82 (fun u82 h82 => ?_)
    obtain rfl := h82
    refine j_iload_n C 2 dX9_sellToAll_85 rfl rfl ?_
    refine j_if_le C 103 dX9_sellToAll_86 (by decide) (fun c86 => ?_) (fun c86 => ?_)
    · exact j_vret C hQ dX9_sellToAll_103 (by rw [zSA, if_pos c86])
    · refine j_aload_n C 1 dX9_sellToAll_89 rfl rfl ?_
      refine j_aload_n C 0 dX9_sellToAll_90 rfl rfl ?_
      refine j_aload_n C 1 dX9_sellToAll_91 rfl rfl ?_
      refine kgN_13_priceNow C hinX8 hx nst_X9_129 dX9_sellToAll_92 ?_
      refine j_iload_n C 3 dX9_sellToAll_95 rfl rfl ?_
      refine j_iload_n C 2 dX9_sellToAll_96 rfl rfl ?_
      refine j_callV_i C 3 0 (cc_X9_movedPrice l d ad adK adV al a n op (zA3 n c x o1 o2) hn (zA3 n c x o1 o2 13 x 3) (zAsk c x) (c 13 x 2)) cG_0 rfl gX9_sellToAll_X9_movedPrice rfl rfl rfl (by decide +kernel) ⟨(Nat.le_of_ble_eq_true rfl), (Nat.le_of_ble_eq_true rfl)⟩ ⟨(Nat.le_of_ble_eq_true rfl), (Nat.le_of_ble_eq_true rfl)⟩ rfl rfl (Nat.le_of_ble_eq_true rfl) dX9_sellToAll_97 (fun r97 u97 h97 => ?_)
      obtain ⟨rfl, rfl⟩ := h97
      refine kpN_13_priceNow C hinX8 hx nst_X9_129 dX9_sellToAll_100 ?_
      exact j_vret C hQ dX9_sellToAll_103 (by rw [zSA, if_neg c86])
  · refine j_iconst C 1 dX9_sellToAll_52 (by decide) ?_
    refine j_goto C 57 dX9_sellToAll_53 (by decide) ?_
    refine j_istore C [(0, .ref (a 0 0)), (1, .ref (a 13 x)), (2, .int (c 13 x 2)), (3, .int (zAsk c x)), (4, .int 1)] [1, 2, 3, 4, 0] dX9_sellToAll_57 (by decide) rfl ?_
    refine j_aload_n C 0 dX9_sellToAll_59 rfl rfl ?_
    refine kg_0_allotment C hinX9 (by decide +kernel) dX9_sellToAll_60 ?_
    refine j_iload C 4 dX9_sellToAll_63 rfl ?_
    refine j_if_eq C 72 dX9_sellToAll_65 (by decide) (fun h => absurd h (by decide)) (fun _ => ?_)
    refine j_iconst C 0 dX9_sellToAll_68 (by decide) ?_
    refine j_goto C 73 dX9_sellToAll_69 (by decide) ?_
    refine j_st (st2 := [.int (zTo c x), .ref (a 9 0)]) (congrArg (fun z => Value.int z :: _) (show 0 = zTo c x from (if_pos c49).symm)) ?_
    refine j_callV_v C 1 9 (cc_X0_cutBackTo l d ad adK adV al a n op (zA1 c x) hn (zTo c x) o1 o2 hok) cG_9 rfl gX9_sellToAll_X0_cutBackTo rfl rfl rfl (by decide +kernel) ⟨(Nat.le_of_ble_eq_true rfl), (Nat.le_of_ble_eq_true rfl)⟩ ⟨(Nat.le_of_ble_eq_true rfl), (Nat.le_of_ble_eq_true rfl)⟩ rfl rfl (Nat.le_of_ble_eq_true rfl) dX9_sellToAll_73 (fun u73 h73 => ?_)
    obtain rfl := h73
    refine j_aload_n C 0 dX9_sellToAll_76 rfl rfl ?_
    refine j_aload_n C 1 dX9_sellToAll_77 rfl rfl ?_
    refine j_aload_n C 1 dX9_sellToAll_78 rfl rfl ?_
    refine kgN_13_priceNow C hinX8 hx nst_X9_129 dX9_sellToAll_79 ?_
    refine j_callV_v C 2 0 (cc_X9_handOver l d ad adK adV al a n op (zA2 c x o1 o2) hn x hx (zA2 c x o1 o2 13 x 3)) cG_0 rfl gX9_sellToAll_X9_handOver rfl rfl rfl (by decide +kernel) ⟨(Nat.le_of_ble_eq_true rfl), (Nat.le_of_ble_eq_true rfl)⟩ ⟨(Nat.le_of_ble_eq_true rfl), (Nat.le_of_ble_eq_true rfl)⟩ rfl rfl (Nat.le_of_ble_eq_true rfl) dX9_sellToAll_82 (fun u82 h82 => ?_)
    obtain rfl := h82
    refine j_iload_n C 2 dX9_sellToAll_85 rfl rfl ?_
    refine j_if_le C 103 dX9_sellToAll_86 (by decide) (fun c86 => ?_) (fun c86 => ?_)
    · exact j_vret C hQ dX9_sellToAll_103 (by rw [zSA, if_pos c86])
    · refine j_aload_n C 1 dX9_sellToAll_89 rfl rfl ?_
      refine j_aload_n C 0 dX9_sellToAll_90 rfl rfl ?_
      refine j_aload_n C 1 dX9_sellToAll_91 rfl rfl ?_
      refine kgN_13_priceNow C hinX8 hx nst_X9_129 dX9_sellToAll_92 ?_
      refine j_iload_n C 3 dX9_sellToAll_95 rfl rfl ?_
      refine j_iload_n C 2 dX9_sellToAll_96 rfl rfl ?_
      refine j_callV_i C 3 0 (cc_X9_movedPrice l d ad adK adV al a n op (zA3 n c x o1 o2) hn (zA3 n c x o1 o2 13 x 3) (zAsk c x) (c 13 x 2)) cG_0 rfl gX9_sellToAll_X9_movedPrice rfl rfl rfl (by decide +kernel) ⟨(Nat.le_of_ble_eq_true rfl), (Nat.le_of_ble_eq_true rfl)⟩ ⟨(Nat.le_of_ble_eq_true rfl), (Nat.le_of_ble_eq_true rfl)⟩ rfl rfl (Nat.le_of_ble_eq_true rfl) dX9_sellToAll_97 (fun r97 u97 h97 => ?_)
      obtain ⟨rfl, rfl⟩ := h97
      refine kpN_13_priceNow C hinX8 hx nst_X9_129 dX9_sellToAll_100 ?_
      exact j_vret C hQ dX9_sellToAll_103 (by rw [zSA, if_neg c86])

/-- a WORK's end of ROUND rd: the two sales, then it is kept for the next one -/
def zER1 (n : Nat → Nat) (c : Nat → Nat → Nat → Int32) (x rd o1 o2 o3 o4 : Nat) : Nat → Nat → Nat → Int32 := if c 13 x 2 ≤ 0 then c else zSA n (if nI rd = 0 then zSW n c x o1 o2 else c) x o3 o4
def zER (n : Nat → Nat) (c : Nat → Nat → Nat → Int32) (x rd o1 o2 o3 o4 : Nat) : Nat → Nat → Nat → Int32 := cKeep (zER1 n c x rd o1 o2 o3 o4) x (rd + 1)
abbrev vER (n : Nat → Nat) (c : Nat → Nat → Nat → Int32) (x rd o1 o2 o3 o4 : Nat) : Int32 := c 13 x 2 - zER n c x rd o1 o2 o3 o4 13 x 2
def okER (n : Nat → Nat) (c : Nat → Nat → Nat → Int32) (x rd o1 o2 o3 o4 : Nat) : Prop := ¬ c 13 x 2 ≤ 0 → (nI rd = 0 → okCut (cWW n c x 28) (zRsM n c x) o1 o2) ∧ okCut (zA1 (if nI rd = 0 then zSW n c x o1 o2 else c) x) (zTo (if nI rd = 0 then zSW n c x o1 o2 else c) x) o3 o4

theorem cu_9 {c : Nat → Nat → Nat → Int32} {k i j : Nat} {v : Int32} (h : k ≠ 0) : cu c k i j v 0 = c 0 := by
  simp [cu, Ne.symm h]
theorem cG1_r (c : Nat → Nat → Nat → Int32) {y : Nat} (h1 : y ≠ 11) (h2 : y ≠ 12) : cG1 c y = c y := by simp [cG1, cu, h1, h2]
theorem cGn_r (c : Nat → Nat → Nat → Int32) {y : Nat} (h1 : y ≠ 11) (h2 : y ≠ 12) : ∀ t, cGn c t y = c y
  | 0 => rfl
  | t + 1 => by rw [cGn, cG1_r _ h1 h2, cGn_r c h1 h2 t]
theorem cC1_r (c : Nat → Nat → Nat → Int32) (mo all : Int32) {y : Nat} (h1 : y ≠ 11) (h2 : y ≠ 12) : ∀ k, cC1 c mo all k y = c y
  | 0 => rfl
  | k + 1 => by rw [cC1, ← cC1_r c mo all h1 h2 k]; simp [cu, h1, h2]
theorem zCut_r (c : Nat → Nat → Nat → Int32) (x : Int32) (o1 o2 : Nat) {y : Nat} (h1 : y ≠ 11) (h2 : y ≠ 12) : zCut c x o1 o2 y = c y := by rw [zCut, cGn_r _ h1 h2, cC1_r _ _ _ h1 h2]
theorem cHO_r (n : Nat → Nat) (c : Nat → Nat → Nat → Int32) (x : Nat) (p : Int32) {y : Nat} (h1 : y ≠ 13) (h2 : y ≠ 14) (h3 : y ≠ 15) (h4 : y ≠ 18) (h5 : y ≠ 19) : ∀ k, cHO n c x p k y = c y
  | 0 => rfl
  | k + 1 => by
    rw [cHO, ← cHO_r n c x p h1 h2 h3 h4 h5 k]
    split
    · simp only [cHs, cPay]
      split <;> simp [cu, h1, h2, h3, h4, h5]
    · rfl
theorem zSW_r (n : Nat → Nat) (c : Nat → Nat → Nat → Int32) (x o1 o2 : Nat) {y : Nat} (h0 : y ≠ 10) (h1 : y ≠ 13) (h2 : y ≠ 14) (h3 : y ≠ 15) (h4 : y ≠ 18) (h5 : y ≠ 19) (h6 : y ≠ 11) (h7 : y ≠ 12) : zSW n c x o1 o2 y = c y := by
  rw [zSW, cHO_r _ _ _ _ h1 h2 h3 h4 h5, zWc, zCut_r _ _ _ _ h6 h7, cWW_r n c x h0]
theorem cRow_r {c : Nat → Nat → Nat → Int32} {k i : Nat} {f : Nat → Int32} {y : Nat} (h : y ≠ k) : cRow c k i f y = c y := by simp [cRow, h]
theorem zSA_r (n : Nat → Nat) (c : Nat → Nat → Nat → Int32) (x o1 o2 : Nat) {y : Nat} (h0 : y ≠ 10) (h1 : y ≠ 13) (h2 : y ≠ 14) (h3 : y ≠ 15) (h4 : y ≠ 18) (h5 : y ≠ 19) (h6 : y ≠ 11) (h7 : y ≠ 12) : zSA n c x o1 o2 y = c y := by
  have h : zA3 n c x o1 o2 y = c y := by rw [zA3, cHO_r _ _ _ _ h1 h2 h3 h4 h5, zA2, zCut_r _ _ _ _ h6 h7, zA1, cRow_r h0]
  unfold zSA
  split
  · exact h
  · rw [← h]; simp [cu, h1]
theorem zER1_r (n : Nat → Nat) (c : Nat → Nat → Nat → Int32) (x rd o1 o2 o3 o4 : Nat) {y : Nat} (h0 : y ≠ 10) (h1 : y ≠ 13) (h2 : y ≠ 14) (h3 : y ≠ 15) (h4 : y ≠ 18) (h5 : y ≠ 19) (h6 : y ≠ 11) (h7 : y ≠ 12) : zER1 n c x rd o1 o2 o3 o4 y = c y := by
  unfold zER1
  split
  · rfl
  · rw [zSA_r _ _ _ _ _ h0 h1 h2 h3 h4 h5 h6 h7]
    split
    · exact zSW_r _ _ _ _ _ h0 h1 h2 h3 h4 h5 h6 h7
    · rfl
theorem cKp_r (c : Nat → Nat → Nat → Int32) (w r : Nat) {y : Nat} (h1 : y ≠ 14) (h2 : y ≠ 17) : ∀ k, cKp c w r k y = c y
  | 0 => rfl
  | k + 1 => by rw [cKp, ← cKp_r c w r h1 h2 k]; simp [cu, h1, h2]
theorem zER_r (n : Nat → Nat) (c : Nat → Nat → Nat → Int32) (x rd o1 o2 o3 o4 : Nat) {y : Nat} (h0 : y ≠ 10) (h1 : y ≠ 13) (h2 : y ≠ 14) (h3 : y ≠ 15) (h4 : y ≠ 18) (h5 : y ≠ 19) (h6 : y ≠ 11) (h7 : y ≠ 12) (h8 : y ≠ 16) (h9 : y ≠ 17) : zER n c x rd o1 o2 o3 o4 y = c y := by
  rw [zER, cKeep, show cu (cKp (zER1 n c x rd o1 o2 o3 o4) x (rd + 1) 28) 16 x (rd + 1) (cKp (zER1 n c x rd o1 o2 o3 o4) x (rd + 1) 28 13 x 3) y = cKp (zER1 n c x rd o1 o2 o3 o4) x (rd + 1) 28 y by simp [cu, h8], cKp_r _ _ _ h2 h9, zER1_r _ _ _ _ _ _ _ _ h0 h1 h2 h3 h4 h5 h6 h7]

set_option maxHeartbeats 4000000 in
set_option maxRecDepth 100000 in
theorem cc_X9_endRoundOf (l : Launch) (d : jD) (ad adK adV : Nat → Nat) (al : Nat) (a : Nat → Nat → Nat) (n : Nat → Nat) (op : Option Nat) (c : Nat → Nat → Nat → Int32) (hn : nOK n) (x : Nat) (hx : x < n 0) (rd : Nat) (hR : c 0 0 9 = nI rd) (hrd : rd < 49) (o1 o2 o3 o4 : Nat) (hok : okER n c x rd o1 o2 o3 o4) : jMi (cEf ad adK adV al) d l yX9_endRoundOf wsX9_endRoundOf ({ frames := 5, cells := 0, slots := 0, locals := 115 } : Room) 0 0 [.ref (a 0 0), .int (nI x)] (cW a d n op ad c) (fun r u => r = vER n c x rd o1 o2 o3 o4 ∧ u = cW a d n op ad (zER n c x rd o1 o2 o3 o4)) := by
  refine jMi.mk (cEf_k ad adK adV al) (by decide) rfl (Nat.le_of_ble_eq_true rfl) (fun X A C hQ => ?_)
  have hinX8 : ∀ w ∈ u_ws RX8 TX8 8, w ∈ wsX9_endRoundOf := fun w h => List.mem_cons_of_mem _ (List.mem_append_left _ (List.mem_append_left _ (List.mem_append_left _ (List.mem_append_left _ (List.mem_append_left _ (List.mem_append_right _ h))))))
  have hinX9 : ∀ w ∈ u_ws RX9 TX9 11, w ∈ wsX9_endRoundOf := fun w h => List.mem_cons_of_mem _ (List.mem_append_left _ (List.mem_append_left _ (List.mem_append_left _ (List.mem_append_left _ (List.mem_append_right _ h)))))
  obtain ⟨hn0, hn1, hn2⟩ := id hn
  refine j_lvq (lv2 := [(0, .ref (a 0 0)), (1, .int (nI x))]) rfl ?_
  have t39 : ∀ Z : Nat → Nat → Nat → Int32, Z = zER1 n c x rd o1 o2 o3 o4 → jJ X l d A 4 0 0 (cW a d n op ad Z) [(0, .ref (a 0 0)), (1, .int (nI x)), (2, .ref (a 13 x)), (3, .int (c 13 x 2))] 39 [] := by
    intro Z hZ
    subst hZ
    refine j_aload_n C 2 dX9_endRoundOf_39 rfl rfl ?_
    refine j_aload_n C 0 dX9_endRoundOf_40 rfl rfl ?_
    refine kg_0_roundNow C hinX9 (by decide +kernel) dX9_endRoundOf_41 ?_
    refine j_st (st2 := [.int (nI rd), .ref (a 13 x)]) (congrArg (fun z => Value.int z :: _) (show zER1 n c x rd o1 o2 o3 o4 0 0 9 = nI rd by rw [zER1_r _ _ _ _ _ _ _ _ (by decide) (by decide) (by decide) (by decide) (by decide) (by decide) (by decide) (by decide)]; exact hR)) ?_
    refine j_iconst C 1 dX9_endRoundOf_44 (by decide) ?_
    refine j_iaddN C rd 1 dX9_endRoundOf_45 ?_
    refine j_callV_v C 1 (13 + x) (cc_X8_keepFor l d ad adK adV al a n op (zER1 n c x rd o1 o2 o3 o4) hn x (rd + 1) hx (by omega)) (cG_13 hx) rfl gX9_endRoundOf_X8_keepFor rfl rfl rfl (by decide +kernel) ⟨(Nat.le_of_ble_eq_true rfl), (Nat.le_of_ble_eq_true rfl)⟩ ⟨(Nat.le_of_ble_eq_true rfl), (Nat.le_of_ble_eq_true rfl)⟩ rfl rfl (Nat.le_of_ble_eq_true rfl) dX9_endRoundOf_46 (fun u46 h46 => ?_)
    obtain rfl := h46
    refine j_iload_n C 3 dX9_endRoundOf_49 rfl rfl ?_
    refine j_aload_n C 2 dX9_endRoundOf_50 rfl rfl ?_
    refine kgN_13_left C hinX8 hx nst_X9_144 dX9_endRoundOf_51 ?_
    refine j_isub C dX9_endRoundOf_54 ?_
    exact j_iret C hQ dX9_endRoundOf_55 (⟨rfl, rfl⟩)
  refine j_aload_n C 0 dX9_endRoundOf_0 rfl rfl ?_
  refine j_iload_n C 1 dX9_endRoundOf_1 rfl rfl ?_
  refine j_callV_q C 1 0 (cc_X9_workAt l d ad adK adV al a n op c hn (nI x)) cG_0 rfl gX9_endRoundOf_X9_workAt rfl rfl rfl (by decide +kernel) ⟨(Nat.le_of_ble_eq_true rfl), (Nat.le_of_ble_eq_true rfl)⟩ ⟨(Nat.le_of_ble_eq_true rfl), (Nat.le_of_ble_eq_true rfl)⟩ rfl rfl (Nat.le_of_ble_eq_true rfl) dX9_endRoundOf_2 (fun r2 u2 h2 => ?_)
  obtain ⟨rfl, rfl⟩ := h2
  refine j_st (st2 := [.ref (a 13 x)]) (congrArg (fun z => va_rf z :: _) (oW_j hn hx)) ?_
  refine j_astore_n C [(0, .ref (a 0 0)), (1, .int (nI x)), (2, .ref (a 13 x))] [1, 2, 0] dX9_endRoundOf_5 rfl (by decide) rfl ?_
  refine j_aload_n C 2 dX9_endRoundOf_6 rfl rfl ?_
  refine j_ifnonnull C 12 dX9_endRoundOf_7 (by decide) ?_
  refine j_aload_n C 2 dX9_endRoundOf_12 rfl rfl ?_
  refine kgN_13_left C hinX8 hx nst_X9_144 dX9_endRoundOf_13 ?_
  refine j_istore_n C [(0, .ref (a 0 0)), (1, .int (nI x)), (2, .ref (a 13 x)), (3, .int (c 13 x 2))] [1, 2, 3, 0] dX9_endRoundOf_16 rfl (by decide) rfl ?_
  refine j_iload_n C 3 dX9_endRoundOf_17 rfl rfl ?_
  refine j_if_le C 39 dX9_endRoundOf_18 (by decide) (fun c18 => ?_) (fun c18 => ?_)
  · exact t39 c (by rw [zER1, if_pos c18])
  · refine j_aload_n C 0 dX9_endRoundOf_21 rfl rfl ?_
    refine kg_0_roundNow C hinX9 (by decide +kernel) dX9_endRoundOf_22 ?_
    refine j_st (st2 := [.int (nI rd)]) (congrArg (fun z => Value.int z :: _) hR) ?_
    refine j_if_ne C 34 dX9_endRoundOf_25 (by decide) (fun c25 => ?_) (fun c25 => ?_)
    · refine j_aload_n C 0 dX9_endRoundOf_34 rfl rfl ?_
      refine j_aload_n C 2 dX9_endRoundOf_35 rfl rfl ?_
      refine j_callV_v C 1 0 (cc_X9_sellToAll l d ad adK adV al a n op c hn x hx o3 o4 (by have h := (hok c18).2; rw [if_neg c25] at h; exact h)) cG_0 rfl gX9_endRoundOf_X9_sellToAll rfl rfl rfl (by decide +kernel) ⟨(Nat.le_of_ble_eq_true rfl), (Nat.le_of_ble_eq_true rfl)⟩ ⟨(Nat.le_of_ble_eq_true rfl), (Nat.le_of_ble_eq_true rfl)⟩ rfl rfl (Nat.le_of_ble_eq_true rfl) dX9_endRoundOf_36 (fun u36 h36 => ?_)
      obtain rfl := h36
      exact t39 _ (by rw [zER1, if_neg c18, if_neg c25])
    · refine j_aload_n C 0 dX9_endRoundOf_28 rfl rfl ?_
      refine j_aload_n C 2 dX9_endRoundOf_29 rfl rfl ?_
      refine j_iload_n C 1 dX9_endRoundOf_30 rfl rfl ?_
      refine j_callV_v C 2 0 (cc_X9_sellToWorkers l d ad adK adV al a n op c hn x hx o1 o2 ((hok c18).1 c25)) cG_0 rfl gX9_endRoundOf_X9_sellToWorkers rfl rfl rfl (by decide +kernel) ⟨(Nat.le_of_ble_eq_true rfl), (Nat.le_of_ble_eq_true rfl)⟩ ⟨(Nat.le_of_ble_eq_true rfl), (Nat.le_of_ble_eq_true rfl)⟩ rfl rfl (Nat.le_of_ble_eq_true rfl) dX9_endRoundOf_31 (fun u31 h31 => ?_)
      obtain rfl := h31
      refine j_aload_n C 0 dX9_endRoundOf_34 rfl rfl ?_
      refine j_aload_n C 2 dX9_endRoundOf_35 rfl rfl ?_
      refine j_callV_v C 1 0 (cc_X9_sellToAll l d ad adK adV al a n op (zSW n c x o1 o2) hn x hx o3 o4 (by have h := (hok c18).2; rw [if_pos c25] at h; exact h)) cG_0 rfl gX9_endRoundOf_X9_sellToAll rfl rfl rfl (by decide +kernel) ⟨(Nat.le_of_ble_eq_true rfl), (Nat.le_of_ble_eq_true rfl)⟩ ⟨(Nat.le_of_ble_eq_true rfl), (Nat.le_of_ble_eq_true rfl)⟩ rfl rfl (Nat.le_of_ble_eq_true rfl) dX9_endRoundOf_36 (fun u36 h36 => ?_)
      obtain rfl := h36
      exact t39 _ (by rw [zER1, if_neg c18, if_pos c25])

def zC (n : Nat → Nat) (c : Nat → Nat → Nat → Int32) (rd : Nat) (O : Nat → Nat → Nat) : Nat → Nat → Nat → Nat → Int32
  | 0 => c
  | k + 1 => zER n (zC n c rd O k) k rd (O k 0) (O k 1) (O k 2) (O k 3)
def vC (n : Nat → Nat) (c : Nat → Nat → Nat → Int32) (rd : Nat) (O : Nat → Nat → Nat) : Nat → Int32
  | 0 => 0
  | k + 1 => vC n c rd O k + vER n (zC n c rd O k) k rd (O k 0) (O k 1) (O k 2) (O k 3)
theorem zC_0 (n : Nat → Nat) (c : Nat → Nat → Nat → Int32) (rd : Nat) (O : Nat → Nat → Nat) : ∀ k, zC n c rd O k 0 = c 0
  | 0 => rfl
  | k + 1 => by rw [zC, zER_r _ _ _ _ _ _ _ _ (by decide) (by decide) (by decide) (by decide) (by decide) (by decide) (by decide) (by decide) (by decide) (by decide), zC_0 n c rd O k]
def okC (n : Nat → Nat) (c : Nat → Nat → Nat → Int32) (rd : Nat) (O : Nat → Nat → Nat) : Prop := ∀ k, k < n 0 → okER n (zC n c rd O k) k rd (O k 0) (O k 1) (O k 2) (O k 3)
def zClose (n : Nat → Nat) (c : Nat → Nat → Nat → Int32) (rd : Nat) (O : Nat → Nat → Nat) : Int32 × (Nat → Nat → Nat → Int32) := if rd < 49 then
  (vC n c rd O (n 0), cu (cu (zC n c rd O (n 0)) 0 0 9 (nI (rd + 1))) 0 0 10 (zC n c rd O (n 0) 0 0 10 + vC n c rd O (n 0))) else (-1, c)

set_option maxHeartbeats 4000000 in
set_option maxRecDepth 100000 in
theorem cc_X9_close (l : Launch) (d : jD) (ad adK adV : Nat → Nat) (al : Nat) (a : Nat → Nat → Nat) (n : Nat → Nat) (op : Option Nat) (c : Nat → Nat → Nat → Int32) (hn : nOK n) (rd : Nat) (hR : c 0 0 9 = nI rd) (hrd : rd ≤ 49) (O : Nat → Nat → Nat) (hok : rd < 49 → okC n c rd O) : jMi (cEf ad adK adV al) d l yX9_close wsX9_close ({ frames := 6, cells := 0, slots := 0, locals := 138 } : Room) 0 0 [.ref (a 0 0)] (cW a d n op ad c) (fun r1 u => r1 = (zClose n c rd O).1 ∧ u = cW a d n op ad (zClose n c rd O).2) := by
  refine jMi.mk (cEf_k ad adK adV al) (by decide) rfl (Nat.le_of_ble_eq_true rfl) (fun X A C hQ => ?_)
  have hinX9 : ∀ w ∈ u_ws RX9 TX9 11, w ∈ wsX9_close := fun w h => List.mem_cons_of_mem _ (List.mem_append_left _ (List.mem_append_left _ (List.mem_append_left _ (List.mem_append_left _ (List.mem_append_left _ (List.mem_append_right _ h))))))
  obtain ⟨hn0, hn1, hn2⟩ := id hn
  refine j_lvq (lv2 := [(0, .ref (a 0 0))]) rfl ?_
  refine j_aload_n C 0 dX9_close_0 rfl rfl ?_
  refine kg_0_roundNow C hinX9 (by decide +kernel) dX9_close_1 ?_
  refine j_st (st2 := [.int (nI rd)]) (congrArg (fun z => Value.int z :: _) hR) ?_
  refine j_bipush C 49 dX9_close_4 (by decide) ?_
  refine j_icmp_lt C 11 dX9_close_6 (by decide) (fun c6 => ?_) (fun c6 => ?_)
  · have c6 := (nI_ltI (a := rd) (b := 49) (by omega) (by omega)).mp c6
    have loop : ∀ fz k : Nat, k ≤ n 0 → n 0 - k < fz → jJ X l d A 3 0 0 (cW a d n op ad (zC n c rd O k)) [(0, .ref (a 0 0)), (1, .int (vC n c rd O k)), (2, .int (nI k))] 15 [] := by
      intro fz
      induction fz with
      | zero => intro k _ h; exact absurd h (Nat.not_lt_zero _)
      | succ fz ih =>
        intro k hi hfz
        refine j_iload_n C 2 dX9_close_15 rfl rfl ?_
        refine j_aload_n C 0 dX9_close_16 rfl rfl ?_
        refine kg_0_workCount C hinX9 (by decide +kernel) dX9_close_17 ?_
        refine j_icmp_ge C 37 dX9_close_20 (by decide) (fun c20 => ?_) (fun c20 => ?_)
        · have c20 := (nI_leI (a := n 0) (b := k) (by omega) (by omega)).mp c20
          have hk0 : k = n 0 := by omega
          subst hk0
          refine j_aload_n C 0 dX9_close_37 rfl rfl ?_
          refine j_dup C dX9_close_38 rfl ?_
          refine kg_0_roundNow C hinX9 (by decide +kernel) dX9_close_39 ?_
          refine j_st (st2 := [.int (nI rd), .ref (a 0 0)]) (congrArg (fun z => Value.int z :: _) (show zC n c rd O (n 0) 0 0 9 = nI rd by rw [zC_0]; exact hR)) ?_
          refine j_iconst C 1 dX9_close_42 (by decide) ?_
          refine j_iaddN C rd 1 dX9_close_43 ?_
          refine kp_0_roundNow C hinX9 (by decide +kernel) dX9_close_44 ?_
          refine j_aload_n C 0 dX9_close_47 rfl rfl ?_
          refine j_dup C dX9_close_48 rfl ?_
          refine kg_0_soldInAll C hinX9 (by decide +kernel) dX9_close_49 ?_
          refine j_st (st2 := [.int (zC n c rd O (n 0) 0 0 10), .ref (a 0 0)]) rfl ?_
          refine j_iload_n C 1 dX9_close_52 rfl rfl ?_
          refine j_iadd C dX9_close_53 ?_
          refine kp_0_soldInAll C hinX9 (by decide +kernel) dX9_close_54 ?_
          refine j_iload_n C 1 dX9_close_57 rfl rfl ?_
          exact j_iret C hQ dX9_close_58 (⟨by rw [zClose, if_pos c6], by rw [zClose, if_pos c6]⟩)
        · have c20 : ¬ ((n 0) ≤ k) := fun h => c20 ((nI_leI (a := n 0) (b := k) (by omega) (by omega)).mpr h)
          refine j_iload_n C 1 dX9_close_23 rfl rfl ?_
          refine j_aload_n C 0 dX9_close_24 rfl rfl ?_
          refine j_iload_n C 2 dX9_close_25 rfl rfl ?_
          refine j_callV_i C 1 0 (cc_X9_endRoundOf l d ad adK adV al a n op (zC n c rd O k) hn k (by omega) rd (by rw [zC_0]; exact hR) c6 (O k 0) (O k 1) (O k 2) (O k 3) (hok c6 k (by omega))) cG_0 rfl gX9_close_X9_endRoundOf rfl rfl rfl (by decide +kernel) ⟨(Nat.le_of_ble_eq_true rfl), (Nat.le_of_ble_eq_true rfl)⟩ ⟨(Nat.le_of_ble_eq_true rfl), (Nat.le_of_ble_eq_true rfl)⟩ rfl rfl (Nat.le_of_ble_eq_true rfl) dX9_close_26 (fun r26 u26 h26 => ?_)
          obtain ⟨rfl, rfl⟩ := h26
          refine j_iadd C dX9_close_29 ?_
          refine j_istore_n C [(0, .ref (a 0 0)), (1, .int ((vC n c rd O k) + (vER n (zC n c rd O k) k rd (O k 0) (O k 1) (O k 2) (O k 3)))), (2, .int (nI k))] [1, 0, 2] dX9_close_30 rfl (by decide) rfl ?_
          refine j_iinc C (nI (k + 1)) [(0, .ref (a 0 0)), (1, .int ((vC n c rd O k) + (vER n (zC n c rd O k) k rd (O k 0) (O k 1) (O k 2) (O k 3)))), (2, .int (nI (k + 1)))] 2 [1, 2, 0] dX9_close_31 rfl (nI_1 k) (by decide) rfl ?_
          refine j_goto C 15 dX9_close_34 (by decide) ?_
          exact ih (k + 1) (by omega) (by omega)
    refine j_iconst C 0 dX9_close_11 (by decide) ?_
    refine j_istore_n C [(0, .ref (a 0 0)), (1, .int 0)] [1, 0] dX9_close_12 rfl (by decide) rfl ?_
    refine j_iconst C 0 dX9_close_13 (by decide) ?_
    refine j_istore_n C [(0, .ref (a 0 0)), (1, .int 0), (2, .int 0)] [1, 2, 0] dX9_close_14 rfl (by decide) rfl ?_
    exact loop _ 0 (Nat.zero_le _) (Nat.lt_succ_self _)
  · have c6 : ¬ (rd < 49) := fun h => c6 ((nI_ltI (a := rd) (b := 49) (by omega) (by omega)).mpr h)
    refine j_iconst C (-1) dX9_close_9 (by decide) ?_
    exact j_iret C hQ dX9_close_10 (⟨by rw [zClose, if_neg c6], by rw [zClose, if_neg c6]⟩)


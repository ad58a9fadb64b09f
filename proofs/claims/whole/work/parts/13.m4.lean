/-! CUT BACK in the reference: the wants (row 35), what each has (row 36) -/
def mP1 (m : Nat → Nat → Int32) : Nat → Nat → Nat → Int32
  | 0 => m
  | k + 1 => mu (mP1 m k) 36 k (mP1 m k 35 k)
def mSumW (m : Nat → Nat → Int32) : Nat → Int32
  | 0 => 0
  | k + 1 => mSumW m k + mP1 m k 35 k
def mP2 (m : Nat → Nat → Int32) (n al : Int32) : Nat → Nat → Nat → Int32
  | 0 => m
  | k + 1 => mu (mP2 m n al k) 36 k (mP2 m n al k 35 k * n / al)
def mRst (m : Nat → Nat → Int32) (n al : Int32) : Nat → Int32
  | 0 => n
  | k + 1 => mRst m n al k - mP2 m n al k 35 k * n / al
abbrev mRem (s : Nat → Nat → Int32) (n al : Int32) (j : Nat) : Int32 := s 35 j * n - s 35 j * n / al * al
def mBest (s : Nat → Nat → Int32) (n al : Int32) : Nat → Int32
  | 0 => -1
  | k + 1 => if s 36 k = s 35 k * n / al ∧ (mBest s n al k = -1 ∨ ¬ mRem s n al k ≤ mRem s n al (tn (mBest s n al k))) then nI k else mBest s n al k
theorem mBest_in (s : Nat → Nat → Int32) (n al : Int32) : ∀ k, mBest s n al k = -1 ∨ ∃ j, j < k ∧ mBest s n al k = nI j
  | 0 => Or.inl rfl
  | k + 1 => by
    unfold mBest
    split
    · exact Or.inr ⟨k, Nat.lt_succ_self k, rfl⟩
    · rcases mBest_in s n al k with h | ⟨j, h1, h2⟩
      · exact Or.inl h
      · exact Or.inr ⟨j, by omega, h2⟩
def gSt (m : Nat → Nat → Int32) (n al : Int32) : Nat → Nat → Nat → Int32
  | 0 => mP2 m n al 28
  | t + 1 => mu (gSt m n al t) 36 (tn (mBest (gSt m n al t) n al 28)) (gSt m n al t 36 (tn (mBest (gSt m n al t) n al 28)) + 1)
def sPart (m : Nat → Nat → Int32) (n : Int32) (R : Nat) : Nat → Nat → Int32 := if mSumW m 28 ≤ n then mP1 m 28 else gSt (mP1 m 28) n (mSumW m 28) R
/-- what CUT BACK needs to go through: a divisor, a rest that is a number, someone at each step -/
def okPart (m : Nat → Nat → Int32) (n : Int32) (R : Nat) : Prop := ¬ mSumW m 28 ≤ n → ¬ mSumW m 28 = 0 ∧ mRst (mP1 m 28) n (mSumW m 28) 28 = nI R ∧ R < 2 ^ 31 ∧ ∀ t, t < R → ¬ mBest (gSt (mP1 m 28) n (mSumW m 28) t) n (mSumW m 28) 28 = -1

set_option maxHeartbeats 4000000 in
set_option maxRecDepth 100000 in
theorem cm_part (l : Launch) (d : jD) (o : Nat) (q : Nat → Nat) (m : Nat → Nat → Int32) (w : Int64) (n : Int32) (R : Nat) (hp : okPart m n R) : jMi noE d l yX10_part wsX10_part ({ frames := 0, cells := 0, slots := 0, locals := 0 } : Room) 0 0 [.ref o, .int n] (mW o q d m w) (fun r u => r = mSumW m 28 ∧ u = mW o q d (sPart m n R) w) := by
  refine jMi.mk noE_k (by decide) rfl (Nat.le_of_ble_eq_true rfl) (fun X A C hQ => ?_)
  have hin : ∀ w ∈ u_ws RX10 TX10 37, w ∈ wsX10_part := fun w h => List.mem_cons_of_mem _ (List.mem_append_right _ h)
  have rest : ¬ mSumW m 28 ≤ n → jJ X l d A 6 0 0 (mW o q d (mP1 m 28) w) [(0, .ref o), (1, .int n), (2, .int (mSumW m 28)), (3, .int 28)] 44 [] := by
    intro c39
    obtain ⟨hal, hRR, hR31, hgood⟩ := hp c39
    have outer : ∀ r t : Nat, r + t = R → jJ X l d A 6 0 0 (mW o q d (gSt (mP1 m 28) n (mSumW m 28) t) w) [(0, .ref o), (1, .int n), (2, .int (mSumW m 28)), (3, .int (nI r))] 90 [] := by
      intro r
      induction r with
      | zero =>
        intro t ht
        refine j_iload_n C 3 dX10_part_90 rfl rfl ?_
        refine j_if_le C 186 dX10_part_91 (by decide) (fun c91 => ?_) (fun c91 => absurd (show nI 0 ≤ 0 by decide) c91)
        refine j_iload_n C 2 dX10_part_186 rfl rfl ?_
        exact j_iret C hQ dX10_part_187 (⟨rfl, by rw [sPart, if_neg c39, show t = R by omega]⟩)
      | succ r ihO =>
        intro t ht
        have loop : ∀ fz i : Nat, i ≤ 28 → 28 - i < fz → jJ X l d A 6 0 0 (mW o q d (gSt (mP1 m 28) n (mSumW m 28) t) w) [(0, .ref o), (1, .int n), (2, .int (mSumW m 28)), (3, .int (nI (r + 1))), (4, .int (mBest (gSt (mP1 m 28) n (mSumW m 28) t) n (mSumW m 28) i)), (5, .int (nI i))] 100 [] := by
          intro fz
          induction fz with
          | zero => intro i _ h; exact absurd h (Nat.not_lt_zero _)
          | succ fz ih =>
            intro i hi hn
            refine j_iload C 5 dX10_part_100 rfl ?_
            refine j_bipush C 28 dX10_part_102 (by decide) ?_
            refine j_icmp_ge C 169 dX10_part_104 (by decide) (fun c104 => ?_) (fun c104 => ?_)
            · have c104 := (nI_leI (a := 28) (b := i) (by omega) (by omega)).mp c104
              obtain rfl : i = 28 := by omega
              obtain ⟨j, hj, hbj⟩ := (mBest_in (gSt (mP1 m 28) n (mSumW m 28) t) n (mSumW m 28) 28).resolve_left (hgood t (by omega))
              have htj : tn (mBest (gSt (mP1 m 28) n (mSumW m 28) t) n (mSumW m 28) 28) = j := by rw [hbj]; exact tn_nI (by omega)
              refine j_aload_n C 0 dX10_part_169 rfl rfl ?_
              refine mg_gets C hin (by decide +kernel) dX10_part_170 ?_
              refine j_iload C 4 dX10_part_173 rfl ?_
              refine j_dup2 C dX10_part_175 rfl rfl ?_
              refine ml_gets C j hbj (by omega) dX10_part_176 ?_
              refine j_iconst C 1 dX10_part_177 (by decide) ?_
              refine j_iadd C dX10_part_178 ?_
              refine ms_gets C j hbj (by omega) dX10_part_179 ?_
              refine j_iinc C ((nI (r + 1)) + (-1)) [(0, .ref o), (1, .int n), (2, .int (mSumW m 28)), (3, .int ((nI (r + 1)) + (-1))), (4, .int (mBest (gSt (mP1 m 28) n (mSumW m 28) t) n (mSumW m 28) 28)), (5, .int (nI 28))] 3 [1, 2, 3, 0, 4, 5] dX10_part_180 rfl rfl (by decide) rfl ?_
              refine j_goto C 90 dX10_part_183 (by decide) ?_
              refine j_lv (lv' := [(0, .ref o), (1, .int n), (2, .int (mSumW m 28)), (3, .int (nI (r + 1) + (-1)))]) [0, 1, 2, 3] rfl ?_
              refine j_lvq (lv2 := [(0, .ref o), (1, .int n), (2, .int (mSumW m 28)), (3, .int (nI r))]) (by rw [pk_m1]) ?_
              refine j_ws (ws2 := mW o q d (gSt (mP1 m 28) n (mSumW m 28) (t + 1)) w) (by rw [show gSt (mP1 m 28) n (mSumW m 28) (t + 1) = mu (gSt (mP1 m 28) n (mSumW m 28) t) 36 (tn (mBest (gSt (mP1 m 28) n (mSumW m 28) t) n (mSumW m 28) 28)) ((gSt (mP1 m 28) n (mSumW m 28) t) 36 (tn (mBest (gSt (mP1 m 28) n (mSumW m 28) t) n (mSumW m 28) 28)) + 1) from rfl, htj]) ?_
              exact ihO (t + 1) (by omega)
            · have c104 : ¬ (28 ≤ i) := fun h => c104 ((nI_leI (a := 28) (b := i) (by omega) (by omega)).mpr h)
              refine j_aload_n C 0 dX10_part_107 rfl rfl ?_
              refine mg_gets C hin (by decide +kernel) dX10_part_108 ?_
              refine j_iload C 5 dX10_part_111 rfl ?_
              refine ml_gets C i rfl (by omega) dX10_part_113 ?_
              refine j_aload_n C 0 dX10_part_114 rfl rfl ?_
              refine mg_wants C hin (by decide +kernel) dX10_part_115 ?_
              refine j_iload C 5 dX10_part_118 rfl ?_
              refine ml_wants C i rfl (by omega) dX10_part_120 ?_
              refine j_iload_n C 1 dX10_part_121 rfl rfl ?_
              refine j_imul C dX10_part_122 ?_
              refine j_iload_n C 2 dX10_part_123 rfl rfl ?_
              refine j_idiv C dX10_part_124 hal ?_
              refine j_icmp_ne C 163 dX10_part_125 (by decide) (fun c125 => ?_) (fun c125 => ?_)
              · refine j_iinc C (nI (i + 1)) [(0, .ref o), (1, .int n), (2, .int (mSumW m 28)), (3, .int (nI (r + 1))), (4, .int (mBest (gSt (mP1 m 28) n (mSumW m 28) t) n (mSumW m 28) i)), (5, .int (nI (i + 1)))] 5 [1, 2, 3, 4, 5, 0] dX10_part_163 rfl (nI_1 i) (by decide) rfl ?_
                refine j_goto C 100 dX10_part_166 (by decide) ?_
                refine j_lvq (lv2 := [(0, .ref o), (1, .int n), (2, .int (mSumW m 28)), (3, .int (nI (r + 1))), (4, .int (mBest (gSt (mP1 m 28) n (mSumW m 28) t) n (mSumW m 28) (i + 1))), (5, .int (nI (i + 1)))]) (by rw [show mBest (gSt (mP1 m 28) n (mSumW m 28) t) n (mSumW m 28) (i + 1) = mBest (gSt (mP1 m 28) n (mSumW m 28) t) n (mSumW m 28) i from if_neg (fun h => c125 h.1)]) ?_
                exact ih (i + 1) (by omega) (by omega)
              · refine j_iload C 4 dX10_part_128 rfl ?_
                refine j_iconst C (-1) dX10_part_130 (by decide) ?_
                refine j_icmp_eq C 159 dX10_part_131 (by decide) (fun c131 => ?_) (fun c131 => ?_)
                · refine j_iload C 5 dX10_part_159 rfl ?_
                  refine j_istore C [(0, .ref o), (1, .int n), (2, .int (mSumW m 28)), (3, .int (nI (r + 1))), (4, .int (nI i)), (5, .int (nI i))] [1, 2, 3, 4, 0, 5] dX10_part_161 (by decide) rfl ?_
                  refine j_iinc C (nI (i + 1)) [(0, .ref o), (1, .int n), (2, .int (mSumW m 28)), (3, .int (nI (r + 1))), (4, .int (nI i)), (5, .int (nI (i + 1)))] 5 [1, 2, 3, 4, 5, 0] dX10_part_163 rfl (nI_1 i) (by decide) rfl ?_
                  refine j_goto C 100 dX10_part_166 (by decide) ?_
                  refine j_lvq (lv2 := [(0, .ref o), (1, .int n), (2, .int (mSumW m 28)), (3, .int (nI (r + 1))), (4, .int (mBest (gSt (mP1 m 28) n (mSumW m 28) t) n (mSumW m 28) (i + 1))), (5, .int (nI (i + 1)))]) (by rw [show mBest (gSt (mP1 m 28) n (mSumW m 28) t) n (mSumW m 28) (i + 1) = nI i from if_pos ⟨c125, Or.inl c131⟩]) ?_
                  exact ih (i + 1) (by omega) (by omega)
                · obtain ⟨j, hj, hbj⟩ := (mBest_in (gSt (mP1 m 28) n (mSumW m 28) t) n (mSumW m 28) i).resolve_left c131
                  have htj : tn (mBest (gSt (mP1 m 28) n (mSumW m 28) t) n (mSumW m 28) i) = j := by rw [hbj]; exact tn_nI (by omega)
                  refine j_aload_n C 0 dX10_part_134 rfl rfl ?_
                  refine mg_wants C hin (by decide +kernel) dX10_part_135 ?_
                  refine j_iload C 5 dX10_part_138 rfl ?_
                  refine ml_wants C i rfl (by omega) dX10_part_140 ?_
                  refine j_iload_n C 1 dX10_part_141 rfl rfl ?_
                  refine j_imul C dX10_part_142 ?_
                  refine j_iload_n C 2 dX10_part_143 rfl rfl ?_
                  refine j_irem C dX10_part_144 hal ?_
                  refine j_aload_n C 0 dX10_part_145 rfl rfl ?_
                  refine mg_wants C hin (by decide +kernel) dX10_part_146 ?_
                  refine j_iload C 4 dX10_part_149 rfl ?_
                  refine ml_wants C j hbj (by omega) dX10_part_151 ?_
                  refine j_iload_n C 1 dX10_part_152 rfl rfl ?_
                  refine j_imul C dX10_part_153 ?_
                  refine j_iload_n C 2 dX10_part_154 rfl rfl ?_
                  refine j_irem C dX10_part_155 hal ?_
                  refine j_icmp_le C 163 dX10_part_156 (by decide) (fun c156 => ?_) (fun c156 => ?_)
                  · refine j_iinc C (nI (i + 1)) [(0, .ref o), (1, .int n), (2, .int (mSumW m 28)), (3, .int (nI (r + 1))), (4, .int (mBest (gSt (mP1 m 28) n (mSumW m 28) t) n (mSumW m 28) i)), (5, .int (nI (i + 1)))] 5 [1, 2, 3, 4, 5, 0] dX10_part_163 rfl (nI_1 i) (by decide) rfl ?_
                    refine j_goto C 100 dX10_part_166 (by decide) ?_
                    refine j_lvq (lv2 := [(0, .ref o), (1, .int n), (2, .int (mSumW m 28)), (3, .int (nI (r + 1))), (4, .int (mBest (gSt (mP1 m 28) n (mSumW m 28) t) n (mSumW m 28) (i + 1))), (5, .int (nI (i + 1)))]) (by rw [show mBest (gSt (mP1 m 28) n (mSumW m 28) t) n (mSumW m 28) (i + 1) = mBest (gSt (mP1 m 28) n (mSumW m 28) t) n (mSumW m 28) i from if_neg (fun h => h.2.elim c131 (fun h2 => h2 (by rw [htj]; exact c156)))]) ?_
                    exact ih (i + 1) (by omega) (by omega)
                  · refine j_iload C 5 dX10_part_159 rfl ?_
                    refine j_istore C [(0, .ref o), (1, .int n), (2, .int (mSumW m 28)), (3, .int (nI (r + 1))), (4, .int (nI i)), (5, .int (nI i))] [1, 2, 3, 4, 0, 5] dX10_part_161 (by decide) rfl ?_
                    refine j_iinc C (nI (i + 1)) [(0, .ref o), (1, .int n), (2, .int (mSumW m 28)), (3, .int (nI (r + 1))), (4, .int (nI i)), (5, .int (nI (i + 1)))] 5 [1, 2, 3, 4, 5, 0] dX10_part_163 rfl (nI_1 i) (by decide) rfl ?_
                    refine j_goto C 100 dX10_part_166 (by decide) ?_
                    refine j_lvq (lv2 := [(0, .ref o), (1, .int n), (2, .int (mSumW m 28)), (3, .int (nI (r + 1))), (4, .int (mBest (gSt (mP1 m 28) n (mSumW m 28) t) n (mSumW m 28) (i + 1))), (5, .int (nI (i + 1)))]) (by rw [show mBest (gSt (mP1 m 28) n (mSumW m 28) t) n (mSumW m 28) (i + 1) = nI i from if_pos ⟨c125, Or.inr (by rw [htj]; exact c156)⟩]) ?_
                    exact ih (i + 1) (by omega) (by omega)
        refine j_iload_n C 3 dX10_part_90 rfl rfl ?_
        refine j_if_le C 186 dX10_part_91 (by decide) (fun c91 => absurd c91 (nI_nle (Nat.succ_pos r) (by omega))) (fun c91 => ?_)
        refine j_iconst C (-1) dX10_part_94 (by decide) ?_
        refine j_istore C [(0, .ref o), (1, .int n), (2, .int (mSumW m 28)), (3, .int (nI (r + 1))), (4, .int (-1))] [1, 2, 3, 4, 0] dX10_part_95 (by decide) rfl ?_
        refine j_iconst C 0 dX10_part_97 (by decide) ?_
        refine j_istore C [(0, .ref o), (1, .int n), (2, .int (mSumW m 28)), (3, .int (nI (r + 1))), (4, .int (-1)), (5, .int 0)] [1, 2, 3, 4, 5, 0] dX10_part_98 (by decide) rfl ?_
        exact loop _ 0 (Nat.zero_le _) (Nat.lt_succ_self _)
    have loop : ∀ fz i : Nat, i ≤ 28 → 28 - i < fz → jJ X l d A 6 0 0 (mW o q d (mP2 (mP1 m 28) n (mSumW m 28) i) w) [(0, .ref o), (1, .int n), (2, .int (mSumW m 28)), (3, .int (mRst (mP1 m 28) n (mSumW m 28) i)), (4, .int (nI i))] 49 [] := by
      intro fz
      induction fz with
      | zero => intro i _ h; exact absurd h (Nat.not_lt_zero _)
      | succ fz ih =>
        intro i hi hn
        refine j_iload C 4 dX10_part_49 rfl ?_
        refine j_bipush C 28 dX10_part_51 (by decide) ?_
        refine j_icmp_ge C 90 dX10_part_53 (by decide) (fun c53 => ?_) (fun c53 => ?_)
        · have c53 := (nI_leI (a := 28) (b := i) (by omega) (by omega)).mp c53
          obtain rfl : i = 28 := by omega
          refine j_lv (lv' := [(0, .ref o), (1, .int n), (2, .int (mSumW m 28)), (3, .int (mRst (mP1 m 28) n (mSumW m 28) 28))]) [0, 1, 2, 3] rfl ?_
          refine j_lvq (lv2 := [(0, .ref o), (1, .int n), (2, .int (mSumW m 28)), (3, .int (nI R))]) (by rw [hRR]) ?_
          exact outer R 0 (Nat.add_zero R)
        · have c53 : ¬ (28 ≤ i) := fun h => c53 ((nI_leI (a := 28) (b := i) (by omega) (by omega)).mpr h)
          refine j_aload_n C 0 dX10_part_56 rfl rfl ?_
          refine mg_gets C hin (by decide +kernel) dX10_part_57 ?_
          refine j_iload C 4 dX10_part_60 rfl ?_
          refine j_aload_n C 0 dX10_part_62 rfl rfl ?_
          refine mg_wants C hin (by decide +kernel) dX10_part_63 ?_
          refine j_iload C 4 dX10_part_66 rfl ?_
          refine ml_wants C i rfl (by omega) dX10_part_68 ?_
          refine j_iload_n C 1 dX10_part_69 rfl rfl ?_
          refine j_imul C dX10_part_70 ?_
          refine j_iload_n C 2 dX10_part_71 rfl rfl ?_
          refine j_idiv C dX10_part_72 hal ?_
          refine ms_gets C i rfl (by omega) dX10_part_73 ?_
          refine j_iload_n C 3 dX10_part_74 rfl rfl ?_
          refine j_aload_n C 0 dX10_part_75 rfl rfl ?_
          refine mg_gets C hin (by decide +kernel) dX10_part_76 ?_
          refine j_iload C 4 dX10_part_79 rfl ?_
          refine ml_gets C i rfl (by omega) dX10_part_81 ?_
          refine j_st (st2 := [.int (((mP2 (mP1 m 28) n (mSumW m 28) i 35 i) * n) / (mSumW m 28)), .int (mRst (mP1 m 28) n (mSumW m 28) i)]) (congrArg (fun z => Value.int z :: _) (mu_s (mP2 (mP1 m 28) n (mSumW m 28) i) 36 i (((mP2 (mP1 m 28) n (mSumW m 28) i 35 i) * n) / (mSumW m 28)))) ?_
          refine j_isub C dX10_part_82 ?_
          refine j_istore_n C [(0, .ref o), (1, .int n), (2, .int (mSumW m 28)), (3, .int ((mRst (mP1 m 28) n (mSumW m 28) i) - (((mP2 (mP1 m 28) n (mSumW m 28) i 35 i) * n) / (mSumW m 28)))), (4, .int (nI i))] [1, 2, 3, 0, 4] dX10_part_83 rfl (by decide) rfl ?_
          refine j_iinc C (nI (i + 1)) [(0, .ref o), (1, .int n), (2, .int (mSumW m 28)), (3, .int ((mRst (mP1 m 28) n (mSumW m 28) i) - (((mP2 (mP1 m 28) n (mSumW m 28) i 35 i) * n) / (mSumW m 28)))), (4, .int (nI (i + 1)))] 4 [1, 2, 3, 4, 0] dX10_part_84 rfl (nI_1 i) (by decide) rfl ?_
          refine j_goto C 49 dX10_part_87 (by decide) ?_
          exact ih (i + 1) (by omega) (by omega)
    refine j_iload_n C 1 dX10_part_44 rfl rfl ?_
    refine j_istore_n C [(0, .ref o), (1, .int n), (2, .int (mSumW m 28)), (3, .int n)] [1, 2, 3, 0] dX10_part_45 rfl (by decide) rfl ?_
    refine j_iconst C 0 dX10_part_46 (by decide) ?_
    refine j_istore C [(0, .ref o), (1, .int n), (2, .int (mSumW m 28)), (3, .int n), (4, .int 0)] [1, 2, 3, 4, 0] dX10_part_47 (by decide) rfl ?_
    exact loop _ 0 (Nat.zero_le _) (Nat.lt_succ_self _)
  have loop : ∀ fz i : Nat, i ≤ 28 → 28 - i < fz → jJ X l d A 6 0 0 (mW o q d (mP1 m i) w) [(0, .ref o), (1, .int n), (2, .int (mSumW m i)), (3, .int (nI i))] 4 [] := by
    intro fz
    induction fz with
    | zero => intro i _ h; exact absurd h (Nat.not_lt_zero _)
    | succ fz ih =>
      intro i hi hn
      refine j_iload_n C 3 dX10_part_4 rfl rfl ?_
      refine j_bipush C 28 dX10_part_5 (by decide) ?_
      refine j_icmp_ge C 37 dX10_part_7 (by decide) (fun c7 => ?_) (fun c7 => ?_)
      · have c7 := (nI_leI (a := 28) (b := i) (by omega) (by omega)).mp c7
        obtain rfl : i = 28 := by omega
        refine j_iload_n C 2 dX10_part_37 rfl rfl ?_
        refine j_iload_n C 1 dX10_part_38 rfl rfl ?_
        refine j_icmp_gt C 44 dX10_part_39 (by decide) (fun c39 => ?_) (fun c39 => ?_)
        · have c39 : ¬ mSumW m 28 ≤ n := i_nle.mpr c39
          exact rest c39
        · have c39 : mSumW m 28 ≤ n := i_nlt.mp c39
          refine j_iload_n C 2 dX10_part_42 rfl rfl ?_
          exact j_iret C hQ dX10_part_43 (⟨rfl, by rw [sPart, if_pos c39]⟩)
      · have c7 : ¬ (28 ≤ i) := fun h => c7 ((nI_leI (a := 28) (b := i) (by omega) (by omega)).mpr h)
        refine j_iload_n C 2 dX10_part_10 rfl rfl ?_
        refine j_aload_n C 0 dX10_part_11 rfl rfl ?_
        refine mg_wants C hin (by decide +kernel) dX10_part_12 ?_
        refine j_iload_n C 3 dX10_part_15 rfl rfl ?_
        refine ml_wants C i rfl (by omega) dX10_part_16 ?_
        refine j_iadd C dX10_part_17 ?_
        refine j_istore_n C [(0, .ref o), (1, .int n), (2, .int ((mSumW m i) + (mP1 m i 35 i))), (3, .int (nI i))] [1, 2, 0, 3] dX10_part_18 rfl (by decide) rfl ?_
        refine j_aload_n C 0 dX10_part_19 rfl rfl ?_
        refine mg_gets C hin (by decide +kernel) dX10_part_20 ?_
        refine j_iload_n C 3 dX10_part_23 rfl rfl ?_
        refine j_aload_n C 0 dX10_part_24 rfl rfl ?_
        refine mg_wants C hin (by decide +kernel) dX10_part_25 ?_
        refine j_iload_n C 3 dX10_part_28 rfl rfl ?_
        refine ml_wants C i rfl (by omega) dX10_part_29 ?_
        refine ms_gets C i rfl (by omega) dX10_part_30 ?_
        refine j_iinc C (nI (i + 1)) [(0, .ref o), (1, .int n), (2, .int ((mSumW m i) + (mP1 m i 35 i))), (3, .int (nI (i + 1)))] 3 [1, 2, 3, 0] dX10_part_31 rfl (nI_1 i) (by decide) rfl ?_
        refine j_goto C 4 dX10_part_34 (by decide) ?_
        exact ih (i + 1) (by omega) (by omega)
  refine j_lvq (lv2 := [(0, .ref o), (1, .int n)]) rfl ?_
  refine j_iconst C 0 dX10_part_0 (by decide) ?_
  refine j_istore_n C [(0, .ref o), (1, .int n), (2, .int 0)] [1, 2, 0] dX10_part_1 rfl (by decide) rfl ?_
  refine j_iconst C 0 dX10_part_2 (by decide) ?_
  refine j_istore_n C [(0, .ref o), (1, .int n), (2, .int 0), (3, .int 0)] [1, 2, 3, 0] dX10_part_3 rfl (by decide) rfl ?_
  exact loop _ 0 (Nat.zero_le _) (Nat.lt_succ_self _)

def mWk (m : Nat → Nat → Int32) (x nP : Nat) : Nat → Nat → Nat → Int32
  | 0 => m
  | k + 1 => mu (mWk m x nP k) 35 k (if k < nP ∧ mWk m x nP k 23 k = nI x then mWk m x nP k 27 (10 * k + x) else 0)
theorem mWk_r (m : Nat → Nat → Int32) (x nP : Nat) {a : Nat} (ha : a ≠ 35) : ∀ k, mWk m x nP k a = m a
  | 0 => rfl
  | k + 1 => by rw [mWk, mu_r _ _ ha, mWk_r m x nP ha k]
def mWl (m : Nat → Nat → Int32) (x : Nat) : Nat → Nat → Nat → Int32
  | 0 => m
  | k + 1 => mu (mWl m x k) 35 k (mWl m x k 27 (10 * k + x))
theorem mWl_r (m : Nat → Nat → Int32) (x : Nat) {a : Nat} (ha : a ≠ 35) : ∀ k, mWl m x k a = m a
  | 0 => rfl
  | k + 1 => by rw [mWl, mu_r _ _ ha, mWl_r m x ha k]
abbrev rsvW (m : Nat → Nat → Int32) (x nP : Nat) : Int32 := mWk m x nP 28 17 x * mWk m x nP 28 3 0 / 100
abbrev partW (m : Nat → Nat → Int32) (x nP R1 : Nat) : Nat → Nat → Int32 := sPart (mWk m x nP 28) (rsvW m x nP) R1
abbrev prcW (m : Nat → Nat → Int32) (x nP R1 : Nat) : Int32 := (partW m x nP R1 19 x * partW m x nP R1 3 1 + 99) / 100
/-- the workers' sale of WORK x -/
def sWk (m : Nat → Nat → Int32) (x nP R1 : Nat) : Nat → Nat → Int32 := sSells (partW m x nP R1) x (prcW m x nP R1)
def vWk (m : Nat → Nat → Int32) (x nP R1 : Nat) : Int32 := mSold (partW m x nP R1) x (prcW m x nP R1) 28
/-- the sale to all: the state behind CUT BACK, what is asked -/
abbrev allA (m : Nat → Nat → Int32) (x : Nat) : Int32 := mSumW (mWl m x 28) 28
abbrev partA (m : Nat → Nat → Int32) (x R2 : Nat) : Nat → Nat → Int32 := sPart (mWl m x 28) (m 18 x) R2
abbrev goesA (m : Nat → Nat → Int32) (x R2 : Nat) : Prop := allA m x ≤ m 18 x ∨ ¬ m 18 x * partA m x R2 3 2 / 100 < allA m x - m 18 x
def sAll (m : Nat → Nat → Int32) (x R2 : Nat) : Nat → Nat → Int32 := if goesA m x R2 then sSells (partA m x R2) x (partA m x R2 19 x) else partA m x R2
def vAll (m : Nat → Nat → Int32) (x R2 : Nat) : Int32 := if goesA m x R2 then mSold (partA m x R2) x (partA m x R2 19 x) 28 else 0
/-- the PRICE that comes: p now, al asked, had LEFT, the four rules -/
def nxtP (p al had r3 r4 r5 : Int32) : Int32 :=
  let n1 := (p * al + had - 1) / had
  let n2 := if n1 ≤ p * r3 / 100 then n1 else p * r3 / 100
  let n3 := if (p * r4 + 99) / 100 ≤ n2 then n2 else (p * r4 + 99) / 100
  let n4 := if r5 ≤ n3 then n3 else r5
  if n4 ≤ 9999 then n4 else 9999
def sAllP (m : Nat → Nat → Int32) (x R2 : Nat) : Nat → Nat → Int32 :=
  mu (sAll m x R2) 19 x (nxtP (sAll m x R2 19 x) (allA m x) (m 18 x) (sAll m x R2 3 3) (sAll m x R2 3 4) (sAll m x R2 3 5))
/-- behind the workers -/
def sSW1 (m : Nat → Nat → Int32) (x nP R1 R2 : Nat) (s0 : Int32) : Int32 × (Nat → Nat → Int32) := if m 18 x = 0 then (s0, m) else (if goesA m x R2 then s0 + vAll m x R2 else s0, sAllP m x R2)
def sSW (m : Nat → Nat → Int32) (x nP R1 R2 : Nat) : Int32 × (Nat → Nat → Int32) := if m 33 0 = 0 then sSW1 (sWk m x nP R1) x nP R1 R2 (vWk m x nP R1) else sSW1 m x nP R1 R2 0
/-- what a WORK's end of ROUND needs to go through -/
def okSW (m : Nat → Nat → Int32) (x nP R1 R2 : Nat) : Prop := (m 33 0 = 0 → okPart (mWk m x nP 28) (rsvW m x nP) R1 ∧ (¬ sWk m x nP R1 18 x = 0 → okPart (mWl (sWk m x nP R1) x 28) (sWk m x nP R1 18 x) R2)) ∧ (¬ m 33 0 = 0 → ¬ m 18 x = 0 → okPart (mWl m x 28) (m 18 x) R2)

set_option maxHeartbeats 4000000 in
set_option maxRecDepth 100000 in
theorem cm_sellsWork (l : Launch) (d : jD) (o : Nat) (q : Nat → Nat) (m : Nat → Nat → Int32) (w : Int64) (x nP R1 R2 : Nat) (hx : x < 10) (hP : m 31 0 = nI nP) (hnP : nP ≤ 24) (hok : okSW m x nP R1 R2) : jMi noE d l yX10_sellsWork wsX10_sellsWork ({ frames := 1, cells := 0, slots := 0, locals := 25 } : Room) 0 0 [.ref o, .int (nI x)] (mW o q d m w) (fun r u => r = (sSW m x nP R1 R2).1 ∧ u = mW o q d (sSW m x nP R1 R2).2 w) := by
  refine jMi.mk noE_k (by decide) rfl (Nat.le_of_ble_eq_true rfl) (fun X A C hQ => ?_)
  have hin : ∀ w ∈ u_ws RX10 TX10 37, w ∈ wsX10_sellsWork := fun w h => List.mem_cons_of_mem _ (List.mem_append_right _ h)
  have t294 : ∀ (Z : Nat → Nat → Int32) (v had al p nx mo le : Int32), v = (sSW m x nP R1 R2).1 ∧ mu Z 19 x (if nx ≤ 9999 then nx else 9999) = (sSW m x nP R1 R2).2 → jJ X l d A 9 0 0 (mW o q d Z w) [(0, .ref o), (1, .int (nI x)), (2, .int v), (3, .int had), (4, .int al), (5, .int p), (6, .int nx), (7, .int mo), (8, .int le)] 294 [] := by
    intro Z v had al p nx mo le hpost
    refine j_aload_n C 0 dX10_sellsWork_294 rfl rfl ?_
    refine mg_price C hin (by decide +kernel) dX10_sellsWork_295 ?_
    refine j_iload_n C 1 dX10_sellsWork_298 rfl rfl ?_
    refine j_iload C 6 dX10_sellsWork_299 rfl ?_
    refine j_sipush C 9999 dX10_sellsWork_301 (by decide) ?_
    refine j_icmp_le C 313 dX10_sellsWork_304 (by decide) (fun c304 => ?_) (fun c304 => ?_)
    · refine j_iload C 6 dX10_sellsWork_313 rfl ?_
      refine ms_price C x rfl (by omega) dX10_sellsWork_315 ?_
      refine j_iload_n C 2 dX10_sellsWork_316 rfl rfl ?_
      exact j_iret C hQ dX10_sellsWork_317 (⟨hpost.1, by rw [← hpost.2, if_pos c304]⟩)
    · refine j_sipush C 9999 dX10_sellsWork_307 (by decide) ?_
      refine j_goto C 315 dX10_sellsWork_310 (by decide) ?_
      refine ms_price C x rfl (by omega) dX10_sellsWork_315 ?_
      refine j_iload_n C 2 dX10_sellsWork_316 rfl rfl ?_
      exact j_iret C hQ dX10_sellsWork_317 (⟨hpost.1, by rw [← hpost.2, if_neg c304]⟩)
  have t275 : ∀ (Z : Nat → Nat → Int32) (v had al p nx mo le : Int32), v = (sSW m x nP R1 R2).1 ∧ mu Z 19 x (if (if Z 3 5 ≤ nx then nx else Z 3 5) ≤ 9999 then (if Z 3 5 ≤ nx then nx else Z 3 5) else 9999) = (sSW m x nP R1 R2).2 → jJ X l d A 9 0 0 (mW o q d Z w) [(0, .ref o), (1, .int (nI x)), (2, .int v), (3, .int had), (4, .int al), (5, .int p), (6, .int nx), (7, .int mo), (8, .int le)] 275 [] := by
    intro Z v had al p nx mo le hpost
    refine j_iload C 6 dX10_sellsWork_275 rfl ?_
    refine j_aload_n C 0 dX10_sellsWork_277 rfl rfl ?_
    refine mg_rule C hin (by decide +kernel) dX10_sellsWork_278 ?_
    refine j_iconst C 5 dX10_sellsWork_281 (by decide) ?_
    refine ml_rule C 5 rfl (by decide) dX10_sellsWork_282 ?_
    refine j_icmp_ge C 294 dX10_sellsWork_283 (by decide) (fun c283 => ?_) (fun c283 => ?_)
    · refine t294 Z v had al p _ mo le ⟨hpost.1, ?_⟩
      rw [← hpost.2, if_pos c283]
    · refine j_aload_n C 0 dX10_sellsWork_286 rfl rfl ?_
      refine mg_rule C hin (by decide +kernel) dX10_sellsWork_287 ?_
      refine j_iconst C 5 dX10_sellsWork_290 (by decide) ?_
      refine ml_rule C 5 rfl (by decide) dX10_sellsWork_291 ?_
      refine j_istore C [(0, .ref o), (1, .int (nI x)), (2, .int v), (3, .int had), (4, .int al), (5, .int p), (6, .int (Z 3 5)), (7, .int mo), (8, .int le)] [1, 2, 3, 4, 5, 6, 0, 7, 8] dX10_sellsWork_292 (by decide) rfl ?_
      refine t294 Z v had al p _ mo le ⟨hpost.1, ?_⟩
      rw [← hpost.2, if_neg c283]
  have t264 : ∀ (Z : Nat → Nat → Int32) (v had al p nx mo le : Int32), v = (sSW m x nP R1 R2).1 ∧ mu Z 19 x (if (if Z 3 5 ≤ (if le ≤ nx then nx else le) then (if le ≤ nx then nx else le) else Z 3 5) ≤ 9999 then (if Z 3 5 ≤ (if le ≤ nx then nx else le) then (if le ≤ nx then nx else le) else Z 3 5) else 9999) = (sSW m x nP R1 R2).2 → jJ X l d A 9 0 0 (mW o q d Z w) [(0, .ref o), (1, .int (nI x)), (2, .int v), (3, .int had), (4, .int al), (5, .int p), (6, .int nx), (7, .int mo), (8, .int le)] 264 [] := by
    intro Z v had al p nx mo le hpost
    refine j_iload C 6 dX10_sellsWork_264 rfl ?_
    refine j_iload C 8 dX10_sellsWork_266 rfl ?_
    refine j_icmp_ge C 275 dX10_sellsWork_268 (by decide) (fun c268 => ?_) (fun c268 => ?_)
    · refine t275 Z v had al p _ mo le ⟨hpost.1, ?_⟩
      rw [← hpost.2, if_pos c268]
    · refine j_iload C 8 dX10_sellsWork_271 rfl ?_
      refine j_istore C [(0, .ref o), (1, .int (nI x)), (2, .int v), (3, .int had), (4, .int al), (5, .int p), (6, .int le), (7, .int mo), (8, .int le)] [1, 2, 3, 4, 5, 6, 0, 7, 8] dX10_sellsWork_273 (by decide) rfl ?_
      refine t275 Z v had al p _ mo le ⟨hpost.1, ?_⟩
      rw [← hpost.2, if_neg c268]
  have t253 : ∀ (Z : Nat → Nat → Int32) (v had al p nx mo le : Int32), v = (sSW m x nP R1 R2).1 ∧ mu Z 19 x (if (if Z 3 5 ≤ (if le ≤ (if nx ≤ mo then nx else mo) then (if nx ≤ mo then nx else mo) else le) then (if le ≤ (if nx ≤ mo then nx else mo) then (if nx ≤ mo then nx else mo) else le) else Z 3 5) ≤ 9999 then (if Z 3 5 ≤ (if le ≤ (if nx ≤ mo then nx else mo) then (if nx ≤ mo then nx else mo) else le) then (if le ≤ (if nx ≤ mo then nx else mo) then (if nx ≤ mo then nx else mo) else le) else Z 3 5) else 9999) = (sSW m x nP R1 R2).2 → jJ X l d A 9 0 0 (mW o q d Z w) [(0, .ref o), (1, .int (nI x)), (2, .int v), (3, .int had), (4, .int al), (5, .int p), (6, .int nx), (7, .int mo), (8, .int le)] 253 [] := by
    intro Z v had al p nx mo le hpost
    refine j_iload C 6 dX10_sellsWork_253 rfl ?_
    refine j_iload C 7 dX10_sellsWork_255 rfl ?_
    refine j_icmp_le C 264 dX10_sellsWork_257 (by decide) (fun c257 => ?_) (fun c257 => ?_)
    · refine t264 Z v had al p _ mo le ⟨hpost.1, ?_⟩
      rw [← hpost.2, if_pos c257]
    · refine j_iload C 7 dX10_sellsWork_260 rfl ?_
      refine j_istore C [(0, .ref o), (1, .int (nI x)), (2, .int v), (3, .int had), (4, .int al), (5, .int p), (6, .int mo), (7, .int mo), (8, .int le)] [1, 2, 3, 4, 5, 6, 0, 7, 8] dX10_sellsWork_262 (by decide) rfl ?_
      refine t264 Z v had al p _ mo le ⟨hpost.1, ?_⟩
      rw [← hpost.2, if_neg c257]
  have t201 : ∀ (Z : Nat → Nat → Int32) (v had al : Int32), ¬ had = 0 → (v = (sSW m x nP R1 R2).1 ∧ mu Z 19 x (nxtP (Z 19 x) al had (Z 3 3) (Z 3 4) (Z 3 5)) = (sSW m x nP R1 R2).2) → jJ X l d A 9 0 0 (mW o q d Z w) [(0, .ref o), (1, .int (nI x)), (2, .int v), (3, .int had), (4, .int al)] 201 [] := by
    intro Z v had al hh hpost
    refine j_aload_n C 0 dX10_sellsWork_201 rfl rfl ?_
    refine mg_price C hin (by decide +kernel) dX10_sellsWork_202 ?_
    refine j_iload_n C 1 dX10_sellsWork_205 rfl rfl ?_
    refine ml_price C x rfl (by omega) dX10_sellsWork_206 ?_
    refine j_istore C [(0, .ref o), (1, .int (nI x)), (2, .int v), (3, .int had), (4, .int al), (5, .int (Z 19 x))] [1, 2, 3, 4, 5, 0] dX10_sellsWork_207 (by decide) rfl ?_
    refine j_iload C 5 dX10_sellsWork_209 rfl ?_
    refine j_iload C 4 dX10_sellsWork_211 rfl ?_
    refine j_imul C dX10_sellsWork_213 ?_
    refine j_iload_n C 3 dX10_sellsWork_214 rfl rfl ?_
    refine j_iadd C dX10_sellsWork_215 ?_
    refine j_iconst C 1 dX10_sellsWork_216 (by decide) ?_
    refine j_isub C dX10_sellsWork_217 ?_
    refine j_iload_n C 3 dX10_sellsWork_218 rfl rfl ?_
    refine j_idiv C dX10_sellsWork_219 hh ?_
    refine j_istore C [(0, .ref o), (1, .int (nI x)), (2, .int v), (3, .int had), (4, .int al), (5, .int (Z 19 x)), (6, .int (((((Z 19 x) * al) + had) - 1) / had))] [1, 2, 3, 4, 5, 6, 0] dX10_sellsWork_220 (by decide) rfl ?_
    refine j_iload C 5 dX10_sellsWork_222 rfl ?_
    refine j_aload_n C 0 dX10_sellsWork_224 rfl rfl ?_
    refine mg_rule C hin (by decide +kernel) dX10_sellsWork_225 ?_
    refine j_iconst C 3 dX10_sellsWork_228 (by decide) ?_
    refine ml_rule C 3 rfl (by decide) dX10_sellsWork_229 ?_
    refine j_imul C dX10_sellsWork_230 ?_
    refine j_bipush C 100 dX10_sellsWork_231 (by decide) ?_
    refine j_idiv C dX10_sellsWork_233 (by decide) ?_
    refine j_istore C [(0, .ref o), (1, .int (nI x)), (2, .int v), (3, .int had), (4, .int al), (5, .int (Z 19 x)), (6, .int (((((Z 19 x) * al) + had) - 1) / had)), (7, .int (((Z 19 x) * (Z 3 3)) / 100))] [1, 2, 3, 4, 5, 6, 7, 0] dX10_sellsWork_234 (by decide) rfl ?_
    refine j_iload C 5 dX10_sellsWork_236 rfl ?_
    refine j_aload_n C 0 dX10_sellsWork_238 rfl rfl ?_
    refine mg_rule C hin (by decide +kernel) dX10_sellsWork_239 ?_
    refine j_iconst C 4 dX10_sellsWork_242 (by decide) ?_
    refine ml_rule C 4 rfl (by decide) dX10_sellsWork_243 ?_
    refine j_imul C dX10_sellsWork_244 ?_
    refine j_bipush C 99 dX10_sellsWork_245 (by decide) ?_
    refine j_iadd C dX10_sellsWork_247 ?_
    refine j_bipush C 100 dX10_sellsWork_248 (by decide) ?_
    refine j_idiv C dX10_sellsWork_250 (by decide) ?_
    refine j_istore C [(0, .ref o), (1, .int (nI x)), (2, .int v), (3, .int had), (4, .int al), (5, .int (Z 19 x)), (6, .int (((((Z 19 x) * al) + had) - 1) / had)), (7, .int (((Z 19 x) * (Z 3 3)) / 100)), (8, .int ((((Z 19 x) * (Z 3 4)) + 99) / 100))] [1, 2, 3, 4, 5, 6, 7, 8, 0] dX10_sellsWork_251 (by decide) rfl ?_
    exact t253 Z v had al _ _ _ _ hpost
  have t108 : ∀ (Z : Nat → Nat → Int32) (v : Int32), (¬ Z 18 x = 0 → okPart (mWl Z x 28) (Z 18 x) R2) → ((sSW1 Z x nP R1 R2 v).1 = (sSW m x nP R1 R2).1 ∧ (sSW1 Z x nP R1 R2 v).2 = (sSW m x nP R1 R2).2) → jJ X l d A 9 0 0 (mW o q d Z w) [(0, .ref o), (1, .int (nI x)), (2, .int v)] 108 [] := by
    intro Z v hok2 hpost
    refine j_aload_n C 0 dX10_sellsWork_108 rfl rfl ?_
    refine mg_left C hin (by decide +kernel) dX10_sellsWork_109 ?_
    refine j_iload_n C 1 dX10_sellsWork_112 rfl rfl ?_
    refine ml_left C x rfl (by omega) dX10_sellsWork_113 ?_
    refine j_istore_n C [(0, .ref o), (1, .int (nI x)), (2, .int v), (3, .int (Z 18 x))] [1, 2, 3, 0] dX10_sellsWork_114 rfl (by decide) rfl ?_
    refine j_iload_n C 3 dX10_sellsWork_115 rfl rfl ?_
    refine j_if_ne C 121 dX10_sellsWork_116 (by decide) (fun c116 => ?_) (fun c116 => ?_)
    · have t156 : jJ X l d A 9 0 0 (mW o q d (mWl Z x 28) w) [(0, .ref o), (1, .int (nI x)), (2, .int v), (3, .int (Z 18 x)), (4, .int (nI 28))] 156 [] := by
        refine j_aload_n C 0 dX10_sellsWork_156 rfl rfl ?_
        refine j_iload_n C 3 dX10_sellsWork_157 rfl rfl ?_
        refine j_callV_i C 1 0 (cm_part l d o q (mWl Z x 28) w (Z 18 x) R2 (hok2 c116)) rfl rfl gX10_sellsWork_X10_part rfl rfl rfl (by decide +kernel) ⟨(Nat.le_of_ble_eq_true rfl), (Nat.le_of_ble_eq_true rfl)⟩ ⟨(Nat.le_of_ble_eq_true rfl), (Nat.le_of_ble_eq_true rfl)⟩ rfl rfl (Nat.le_of_ble_eq_true rfl) dX10_sellsWork_158 (fun r158 u158 h158 => ?_)
        obtain ⟨rfl, rfl⟩ := h158
        refine j_istore C [(0, .ref o), (1, .int (nI x)), (2, .int v), (3, .int (Z 18 x)), (4, .int (allA Z x))] [1, 2, 3, 4, 0] dX10_sellsWork_161 (by decide) rfl ?_
        refine j_iload C 4 dX10_sellsWork_163 rfl ?_
        refine j_iload_n C 3 dX10_sellsWork_165 rfl rfl ?_
        refine j_icmp_le C 187 dX10_sellsWork_166 (by decide) (fun c166 => ?_) (fun c166 => ?_)
        · refine j_iload_n C 2 dX10_sellsWork_187 rfl rfl ?_
          refine j_aload_n C 0 dX10_sellsWork_188 rfl rfl ?_
          refine j_iload_n C 1 dX10_sellsWork_189 rfl rfl ?_
          refine j_aload_n C 0 dX10_sellsWork_190 rfl rfl ?_
          refine mg_price C hin (by decide +kernel) dX10_sellsWork_191 ?_
          refine j_iload_n C 1 dX10_sellsWork_194 rfl rfl ?_
          refine ml_price C x rfl (by omega) dX10_sellsWork_195 ?_
          refine j_callV_i C 2 0 (cm_sells l d o q (partA Z x R2) w x (partA Z x R2 19 x) hx) rfl rfl gX10_sellsWork_X10_sells rfl rfl rfl (by decide +kernel) ⟨(Nat.le_of_ble_eq_true rfl), (Nat.le_of_ble_eq_true rfl)⟩ ⟨(Nat.le_of_ble_eq_true rfl), (Nat.le_of_ble_eq_true rfl)⟩ rfl rfl (Nat.le_of_ble_eq_true rfl) dX10_sellsWork_196 (fun r196 u196 h196 => ?_)
          obtain ⟨rfl, rfl⟩ := h196
          refine j_iadd C dX10_sellsWork_199 ?_
          refine j_istore_n C [(0, .ref o), (1, .int (nI x)), (2, .int (v + (mSold (partA Z x R2) x (partA Z x R2 19 x) 28))), (3, .int (Z 18 x)), (4, .int (allA Z x))] [1, 2, 0, 3, 4] dX10_sellsWork_200 rfl (by decide) rfl ?_
          refine t201 _ _ _ _ c116 ?_
          have hg : goesA Z x R2 := Or.inl c166
          rw [sSW1, if_neg c116, if_pos hg, sAllP, sAll, if_pos hg, vAll, if_pos hg] at hpost
          exact hpost
        · refine j_iload C 4 dX10_sellsWork_169 rfl ?_
          refine j_iload_n C 3 dX10_sellsWork_171 rfl rfl ?_
          refine j_isub C dX10_sellsWork_172 ?_
          refine j_iload_n C 3 dX10_sellsWork_173 rfl rfl ?_
          refine j_aload_n C 0 dX10_sellsWork_174 rfl rfl ?_
          refine mg_rule C hin (by decide +kernel) dX10_sellsWork_175 ?_
          refine j_iconst C 2 dX10_sellsWork_178 (by decide) ?_
          refine ml_rule C 2 rfl (by decide) dX10_sellsWork_179 ?_
          refine j_imul C dX10_sellsWork_180 ?_
          refine j_bipush C 100 dX10_sellsWork_181 (by decide) ?_
          refine j_idiv C dX10_sellsWork_183 (by decide) ?_
          refine j_icmp_gt C 201 dX10_sellsWork_184 (by decide) (fun c184 => ?_) (fun c184 => ?_)
          · refine t201 _ _ _ _ c116 ?_
            have hg : ¬ goesA Z x R2 := fun h => h.elim (fun h => c166 h) (fun h => h c184)
            rw [sSW1, if_neg c116, if_neg hg, sAllP, sAll, if_neg hg] at hpost
            exact hpost
          · refine j_iload_n C 2 dX10_sellsWork_187 rfl rfl ?_
            refine j_aload_n C 0 dX10_sellsWork_188 rfl rfl ?_
            refine j_iload_n C 1 dX10_sellsWork_189 rfl rfl ?_
            refine j_aload_n C 0 dX10_sellsWork_190 rfl rfl ?_
            refine mg_price C hin (by decide +kernel) dX10_sellsWork_191 ?_
            refine j_iload_n C 1 dX10_sellsWork_194 rfl rfl ?_
            refine ml_price C x rfl (by omega) dX10_sellsWork_195 ?_
            refine j_callV_i C 2 0 (cm_sells l d o q (partA Z x R2) w x (partA Z x R2 19 x) hx) rfl rfl gX10_sellsWork_X10_sells rfl rfl rfl (by decide +kernel) ⟨(Nat.le_of_ble_eq_true rfl), (Nat.le_of_ble_eq_true rfl)⟩ ⟨(Nat.le_of_ble_eq_true rfl), (Nat.le_of_ble_eq_true rfl)⟩ rfl rfl (Nat.le_of_ble_eq_true rfl) dX10_sellsWork_196 (fun r196 u196 h196 => ?_)
            obtain ⟨rfl, rfl⟩ := h196
            refine j_iadd C dX10_sellsWork_199 ?_
            refine j_istore_n C [(0, .ref o), (1, .int (nI x)), (2, .int (v + (mSold (partA Z x R2) x (partA Z x R2 19 x) 28))), (3, .int (Z 18 x)), (4, .int (allA Z x))] [1, 2, 0, 3, 4] dX10_sellsWork_200 rfl (by decide) rfl ?_
            refine t201 _ _ _ _ c116 ?_
            have hg : goesA Z x R2 := Or.inr c184
            rw [sSW1, if_neg c116, if_pos hg, sAllP, sAll, if_pos hg, vAll, if_pos hg] at hpost
            exact hpost
      have loop : ∀ fz i : Nat, i ≤ 28 → 28 - i < fz → jJ X l d A 9 0 0 (mW o q d (mWl Z x i) w) [(0, .ref o), (1, .int (nI x)), (2, .int v), (3, .int (Z 18 x)), (4, .int (nI i))] 124 [] := by
        intro fz
        induction fz with
        | zero => intro i _ h; exact absurd h (Nat.not_lt_zero _)
        | succ fz ih =>
          intro i hi hn
          refine j_iload C 4 dX10_sellsWork_124 rfl ?_
          refine j_bipush C 28 dX10_sellsWork_126 (by decide) ?_
          refine j_icmp_ge C 156 dX10_sellsWork_128 (by decide) (fun c128 => ?_) (fun c128 => ?_)
          · have c128 := (nI_leI (a := 28) (b := i) (by omega) (by omega)).mp c128
            obtain rfl : i = 28 := by omega
            exact t156
          · have c128 : ¬ (28 ≤ i) := fun h => c128 ((nI_leI (a := 28) (b := i) (by omega) (by omega)).mpr h)
            refine j_aload_n C 0 dX10_sellsWork_131 rfl rfl ?_
            refine mg_wants C hin (by decide +kernel) dX10_sellsWork_132 ?_
            refine j_iload C 4 dX10_sellsWork_135 rfl ?_
            refine j_aload_n C 0 dX10_sellsWork_137 rfl rfl ?_
            refine mg_asked C hin (by decide +kernel) dX10_sellsWork_138 ?_
            refine j_bipush C 10 dX10_sellsWork_141 (by decide) ?_
            refine j_iload C 4 dX10_sellsWork_143 rfl ?_
            refine j_imulN C 10 i dX10_sellsWork_145 ?_
            refine j_iload_n C 1 dX10_sellsWork_146 rfl rfl ?_
            refine j_iaddN C (10 * i) x dX10_sellsWork_147 ?_
            refine ml_asked C (10 * i + x) rfl (by omega) dX10_sellsWork_148 ?_
            refine ms_wants C i rfl (by omega) dX10_sellsWork_149 ?_
            refine j_iinc C (nI (i + 1)) [(0, .ref o), (1, .int (nI x)), (2, .int v), (3, .int (Z 18 x)), (4, .int (nI (i + 1)))] 4 [1, 2, 3, 4, 0] dX10_sellsWork_150 rfl (nI_1 i) (by decide) rfl ?_
            refine j_goto C 124 dX10_sellsWork_153 (by decide) ?_
            exact ih (i + 1) (by omega) (by omega)
      refine j_iconst C 0 dX10_sellsWork_121 (by decide) ?_
      refine j_istore C [(0, .ref o), (1, .int (nI x)), (2, .int v), (3, .int (Z 18 x)), (4, .int 0)] [1, 2, 3, 4, 0] dX10_sellsWork_122 (by decide) rfl ?_
      exact loop _ 0 (Nat.zero_le _) (Nat.lt_succ_self _)
    · refine j_iload_n C 2 dX10_sellsWork_119 rfl rfl ?_
      exact j_iret C hQ dX10_sellsWork_120 (⟨by rw [← hpost.1, sSW1, if_pos c116], by rw [← hpost.2, sSW1, if_pos c116]⟩)
  refine j_lvq (lv2 := [(0, .ref o), (1, .int (nI x))]) rfl ?_
  refine j_iconst C 0 dX10_sellsWork_0 (by decide) ?_
  refine j_istore_n C [(0, .ref o), (1, .int (nI x)), (2, .int 0)] [1, 2, 0] dX10_sellsWork_1 rfl (by decide) rfl ?_
  refine j_aload_n C 0 dX10_sellsWork_2 rfl rfl ?_
  refine mg_round C hin (by decide +kernel) dX10_sellsWork_3 ?_
  refine j_if_ne C 108 dX10_sellsWork_6 (by decide) (fun c6 => ?_) (fun c6 => ?_)
  · exact t108 m 0 (fun h => hok.2 c6 h) ⟨by rw [sSW, if_neg c6], by rw [sSW, if_neg c6]⟩
  · have loop : ∀ fz i : Nat, i ≤ 28 → 28 - i < fz → jJ X l d A 9 0 0 (mW o q d (mWk m x nP i) w) [(0, .ref o), (1, .int (nI x)), (2, .int 0), (3, .int (nI i))] 11 [] := by
      intro fz
      induction fz with
      | zero => intro i _ h; exact absurd h (Nat.not_lt_zero _)
      | succ fz ih =>
        intro i hi hn
        refine j_iload_n C 3 dX10_sellsWork_11 rfl rfl ?_
        refine j_bipush C 28 dX10_sellsWork_12 (by decide) ?_
        refine j_icmp_ge C 62 dX10_sellsWork_14 (by decide) (fun c14 => ?_) (fun c14 => ?_)
        · have c14 := (nI_leI (a := 28) (b := i) (by omega) (by omega)).mp c14
          obtain rfl : i = 28 := by omega
          refine j_aload_n C 0 dX10_sellsWork_62 rfl rfl ?_
          refine j_aload_n C 0 dX10_sellsWork_63 rfl rfl ?_
          refine mg_shares C hin (by decide +kernel) dX10_sellsWork_64 ?_
          refine j_iload_n C 1 dX10_sellsWork_67 rfl rfl ?_
          refine ml_shares C x rfl (by omega) dX10_sellsWork_68 ?_
          refine j_aload_n C 0 dX10_sellsWork_69 rfl rfl ?_
          refine mg_rule C hin (by decide +kernel) dX10_sellsWork_70 ?_
          refine j_iconst C 0 dX10_sellsWork_73 (by decide) ?_
          refine ml_rule C 0 rfl (by decide) dX10_sellsWork_74 ?_
          refine j_imul C dX10_sellsWork_75 ?_
          refine j_bipush C 100 dX10_sellsWork_76 (by decide) ?_
          refine j_idiv C dX10_sellsWork_78 (by decide) ?_
          refine j_callV_i C 1 0 (cm_part l d o q (mWk m x nP 28) w (rsvW m x nP) R1 (hok.1 c6).1) rfl rfl gX10_sellsWork_X10_part rfl rfl rfl (by decide +kernel) ⟨(Nat.le_of_ble_eq_true rfl), (Nat.le_of_ble_eq_true rfl)⟩ ⟨(Nat.le_of_ble_eq_true rfl), (Nat.le_of_ble_eq_true rfl)⟩ rfl rfl (Nat.le_of_ble_eq_true rfl) dX10_sellsWork_79 (fun r79 u79 h79 => ?_)
          obtain ⟨rfl, rfl⟩ := h79
          refine j_pop C dX10_sellsWork_82 rfl ?_
          refine j_aload_n C 0 dX10_sellsWork_83 rfl rfl ?_
          refine j_iload_n C 1 dX10_sellsWork_84 rfl rfl ?_
          refine j_aload_n C 0 dX10_sellsWork_85 rfl rfl ?_
          refine mg_price C hin (by decide +kernel) dX10_sellsWork_86 ?_
          refine j_iload_n C 1 dX10_sellsWork_89 rfl rfl ?_
          refine ml_price C x rfl (by omega) dX10_sellsWork_90 ?_
          refine j_aload_n C 0 dX10_sellsWork_91 rfl rfl ?_
          refine mg_rule C hin (by decide +kernel) dX10_sellsWork_92 ?_
          refine j_iconst C 1 dX10_sellsWork_95 (by decide) ?_
          refine ml_rule C 1 rfl (by decide) dX10_sellsWork_96 ?_
          refine j_imul C dX10_sellsWork_97 ?_
          refine j_bipush C 99 dX10_sellsWork_98 (by decide) ?_
          refine j_iadd C dX10_sellsWork_100 ?_
          refine j_bipush C 100 dX10_sellsWork_101 (by decide) ?_
          refine j_idiv C dX10_sellsWork_103 (by decide) ?_
          refine j_callV_i C 2 0 (cm_sells l d o q (partW m x nP R1) w x (prcW m x nP R1) hx) rfl rfl gX10_sellsWork_X10_sells rfl rfl rfl (by decide +kernel) ⟨(Nat.le_of_ble_eq_true rfl), (Nat.le_of_ble_eq_true rfl)⟩ ⟨(Nat.le_of_ble_eq_true rfl), (Nat.le_of_ble_eq_true rfl)⟩ rfl rfl (Nat.le_of_ble_eq_true rfl) dX10_sellsWork_104 (fun r104 u104 h104 => ?_)
          obtain ⟨rfl, rfl⟩ := h104
          refine j_istore_n C [(0, .ref o), (1, .int (nI x)), (2, .int (vWk m x nP R1)), (3, .int (nI 28))] [1, 2, 0, 3] dX10_sellsWork_107 rfl (by decide) rfl ?_
          refine j_lv (lv' := [(0, .ref o), (1, .int (nI x)), (2, .int (vWk m x nP R1))]) [0, 1, 2] rfl ?_
          exact t108 (sWk m x nP R1) (vWk m x nP R1) (hok.1 c6).2 ⟨by rw [sSW, if_pos c6], by rw [sSW, if_pos c6]⟩
        · have c14 : ¬ (28 ≤ i) := fun h => c14 ((nI_leI (a := 28) (b := i) (by omega) (by omega)).mpr h)
          refine j_aload_n C 0 dX10_sellsWork_17 rfl rfl ?_
          refine mg_wants C hin (by decide +kernel) dX10_sellsWork_18 ?_
          refine j_iload_n C 3 dX10_sellsWork_21 rfl rfl ?_
          refine j_iload_n C 3 dX10_sellsWork_22 rfl rfl ?_
          refine j_aload_n C 0 dX10_sellsWork_23 rfl rfl ?_
          refine mg_people C hin (by decide +kernel) dX10_sellsWork_24 ?_
          refine j_st (st2 := [.int (nI nP), .int (nI i), .int (nI i), .ref (q 35)]) (congrArg (fun z => Value.int z :: _) (show mWk m x nP i 31 0 = nI nP by rw [mWk_r m x nP (by decide) i]; exact hP)) ?_
          refine j_icmp_ge C 54 dX10_sellsWork_27 (by decide) (fun c27 => ?_) (fun c27 => ?_)
          · have c27 := (nI_leI (a := nP) (b := i) (by omega) (by omega)).mp c27
            refine j_iconst C 0 dX10_sellsWork_54 (by decide) ?_
            refine ms_wants C i rfl (by omega) dX10_sellsWork_55 ?_
            refine j_iinc C (nI (i + 1)) [(0, .ref o), (1, .int (nI x)), (2, .int 0), (3, .int (nI (i + 1)))] 3 [1, 2, 3, 0] dX10_sellsWork_56 rfl (nI_1 i) (by decide) rfl ?_
            refine j_goto C 11 dX10_sellsWork_59 (by decide) ?_
            refine j_ws (ws2 := mW o q d (mWk m x nP (i + 1)) w) (by rw [mWk, if_neg (fun h => by omega)]) ?_
            exact ih (i + 1) (by omega) (by omega)
          · have c27 : ¬ (nP ≤ i) := fun h => c27 ((nI_leI (a := nP) (b := i) (by omega) (by omega)).mpr h)
            refine j_aload_n C 0 dX10_sellsWork_30 rfl rfl ?_
            refine mg_worker C hin (by decide +kernel) dX10_sellsWork_31 ?_
            refine j_iload_n C 3 dX10_sellsWork_34 rfl rfl ?_
            refine ml_worker C i rfl (by omega) dX10_sellsWork_35 ?_
            refine j_iload_n C 1 dX10_sellsWork_36 rfl rfl ?_
            refine j_icmp_ne C 54 dX10_sellsWork_37 (by decide) (fun c37 => ?_) (fun c37 => ?_)
            · refine j_iconst C 0 dX10_sellsWork_54 (by decide) ?_
              refine ms_wants C i rfl (by omega) dX10_sellsWork_55 ?_
              refine j_iinc C (nI (i + 1)) [(0, .ref o), (1, .int (nI x)), (2, .int 0), (3, .int (nI (i + 1)))] 3 [1, 2, 3, 0] dX10_sellsWork_56 rfl (nI_1 i) (by decide) rfl ?_
              refine j_goto C 11 dX10_sellsWork_59 (by decide) ?_
              refine j_ws (ws2 := mW o q d (mWk m x nP (i + 1)) w) (by rw [mWk, if_neg (fun h => c37 h.2)]) ?_
              exact ih (i + 1) (by omega) (by omega)
            · refine j_aload_n C 0 dX10_sellsWork_40 rfl rfl ?_
              refine mg_asked C hin (by decide +kernel) dX10_sellsWork_41 ?_
              refine j_bipush C 10 dX10_sellsWork_44 (by decide) ?_
              refine j_iload_n C 3 dX10_sellsWork_46 rfl rfl ?_
              refine j_imulN C 10 i dX10_sellsWork_47 ?_
              refine j_iload_n C 1 dX10_sellsWork_48 rfl rfl ?_
              refine j_iaddN C (10 * i) x dX10_sellsWork_49 ?_
              refine ml_asked C (10 * i + x) rfl (by omega) dX10_sellsWork_50 ?_
              refine j_goto C 55 dX10_sellsWork_51 (by decide) ?_
              refine ms_wants C i rfl (by omega) dX10_sellsWork_55 ?_
              refine j_iinc C (nI (i + 1)) [(0, .ref o), (1, .int (nI x)), (2, .int 0), (3, .int (nI (i + 1)))] 3 [1, 2, 3, 0] dX10_sellsWork_56 rfl (nI_1 i) (by decide) rfl ?_
              refine j_goto C 11 dX10_sellsWork_59 (by decide) ?_
              refine j_ws (ws2 := mW o q d (mWk m x nP (i + 1)) w) (by rw [mWk, if_pos ⟨by omega, c37⟩]) ?_
              exact ih (i + 1) (by omega) (by omega)
    refine j_iconst C 0 dX10_sellsWork_9 (by decide) ?_
    refine j_istore_n C [(0, .ref o), (1, .int (nI x)), (2, .int 0), (3, .int 0)] [1, 2, 3, 0] dX10_sellsWork_10 rfl (by decide) rfl ?_
    exact loop _ 0 (Nat.zero_le _) (Nat.lt_succ_self _)


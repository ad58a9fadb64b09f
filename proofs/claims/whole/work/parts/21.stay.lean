def nestW : List Cond := [.fieldLinkNest RX9 116 "CouponSale$Fund" "given" "I" "CouponSale",
  .fieldLinkNest RX9 119 "CouponSale$Fund" "givenBy" "[I" "CouponSale",
  .fieldLinkNest RX9 126 "CouponSale$Work" "asked" "[I" "CouponSale",
  .fieldLinkNest RX9 129 "CouponSale$Work" "priceNow" "I" "CouponSale",
  .fieldLinkNest RX9 141 "CouponSale$Work" "shares" "I" "CouponSale",
  .fieldLinkNest RX9 144 "CouponSale$Work" "left" "I" "CouponSale",
  .fieldLinkNest RX9 151 "CouponSale$Work" "madeIn" "I" "CouponSale",
  .fieldLinkNest RX9 154 "CouponSale$Work" "priceIn" "[I" "CouponSale",
  .fieldLinkNest RX9 175 "CouponSale$Fraction" "upper" "J" "CouponSale",
  .fieldLinkNest RX9 181 "CouponSale$Fraction" "lower" "J" "CouponSale",
  .fieldLinkNest RX9 184 "CouponSale$Work" "held" "[I" "CouponSale",
  .fieldLinkNest RX9 192 "CouponSale$Fund" "promised" "I" "CouponSale",
  .fieldLinkNest RX9 216 "CouponSale$Allotment" "wanted" "[I" "CouponSale",
  .fieldLinkNest RX9 219 "CouponSale$Person" "workerOf" "I" "CouponSale",
  .fieldLinkNest RX9 262 "CouponSale$Allotment" "won" "[I" "CouponSale",
  .fieldLinkNest RX9 56 "CouponSale$Tape" "length" "I" "CouponSale",
  .fieldLinkNest RX9 67 "CouponSale$RuleText" "faultKind" "I" "CouponSale",
  .fieldLinkNest RX9 70 "CouponSale$RuleText" "values" "[I" "CouponSale",
  .fieldLinkNest RX6 101 "CouponSale$Rule" "low" "I" "CouponSale",
  .fieldLinkNest RX6 104 "CouponSale$Rule" "high" "I" "CouponSale",
  .fieldLinkNest RX6 120 "CouponSale$Rule" "word" "Ljava/lang/String;" "CouponSale",
  .fieldLinkNest RX6 24 "CouponSale$Rule" "number" "I" "CouponSale",
  .fieldLinkNest RX6 28 "CouponSale$Rule" "untold" "I" "CouponSale",
  .fieldLinkNest RX6 34 "CouponSale$Tape" "length" "I" "CouponSale",
  .fieldLinkNest RX6 9 "CouponSale$Rule" "ALL" "[LCouponSale$Rule;" "CouponSale",
  .methodLinkNest RX9 11 yX7_init "CouponSale",
  .methodLinkNest RX9 43 yX0_init "CouponSale",
  .methodLinkNest RX0 21 yX9_sumOf "CouponSale",
  .methodLinkNest RX3 3 yX1_init "CouponSale",
  .methodLinkNest RX4 3 yX1_init "CouponSale",
  .methodLinkNest RX6 107 yX9_isWithin "CouponSale",
  .methodLinkNest RX7 19 yX9_isWithin "CouponSale",
  .methodLinkNest RX8 37 yX9_isWithin "CouponSale"]
def ruleNm : List String := ["WORKERS", "HALF", "CUT", "RISE", "FALL", "LEAST"]
def ruleF : List (String × String × String × List Int32) := [("CouponSale$Rule", "number", "I", [0, 1, 2, 3, 4, 5]), ("CouponSale$Rule", "low", "I", [0, 1, 0, 100, 1, 1]), ("CouponSale$Rule", "high", "I", [50, 100, 300, 999, 100, 9999]), ("CouponSale$Rule", "untold", "I", [10, 50, 25, 200, 50, 1])]
def lenR : List Nat := [7, 4, 3, 4, 4, 5]
def bytR : List (List Int32) := [[119, 111, 114, 107, 101, 114, 115], [104, 97, 108, 102], [99, 117, 116], [114, 105, 115, 101], [102, 97, 108, 108], [108, 101, 97, 115, 116]]
def nseN : String := "java/util/NoSuchElementException"
def nseB : List Cond := [.castable nseN nseN, .declares (Bundle.init0 "java/lang/RuntimeException"), .declares (Bundle.init0 "java/lang/Exception"), .declares (Bundle.init0 Bundle.tN)]
/-- the enum's constants at ad, their array at al, their texts at adK with the bytes at adV; all out of reach -/
def cEf (ad adK adV : Nat → Nat) (al : Nat) : jE := fun A U H => (∀ w ∈ nestW, va_Nw w U) ∧ va_En RX5 "LCouponSale$Rule;" ruleNm ruleF ad A U H ∧ va_Z RX5 "ALL" "[LCouponSale$Rule;" (.ref al) A U H ∧ va_T (.object RX5) al 6 (fun j => .ref (ad j)) A U H ∧ va_Ef 6 RX5 "word" "Ljava/lang/String;" (fun i => .ref (adK i)) ad A U H ∧ vk_S 6 lenR bytR adK adV A U H ∧ va_Z "java/lang/String" "COMPACT_STRINGS" "Z" (.int 1) A U H ∧ va_AO RX8 U ∧ va_AO RX4 U ∧ va_AO RX3 U ∧ (∀ w ∈ nseB, va_Nw w U) ∧ vx_Zq Bundle.tN "UNASSIGNED_STACK" Bundle.steD A U H ∧ vx_Zq Bundle.tN "SUPPRESSED_SENTINEL" Bundle.listD A U H ∧ va_Zq "jdk/internal/util/Preconditions" "SIOOBE_FORMATTER" "Ljava/util/function/BiFunction;" A U H
theorem nest_warm {s U : State} (h : s.WarmedH U.vm ∨ s.vm = U.vm) (hw : ∀ w ∈ nestW, va_Nw w s) : ∀ w ∈ nestW, va_Nw w U := by
  rcases h with h | h
  · intro w hm
    have h0 := hw w hm
    simp only [nestW, List.mem_cons, List.not_mem_nil, or_false] at hm
    rcases hm with rfl | rfl | rfl | rfl | rfl | rfl | rfl | rfl | rfl | rfl | rfl | rfl | rfl | rfl | rfl | rfl | rfl | rfl | rfl | rfl | rfl | rfl | rfl | rfl | rfl | rfl | rfl | rfl | rfl | rfl | rfl | rfl | rfl
    · exact va_Nw.warmF h h0
    · exact va_Nw.warmF h h0
    · exact va_Nw.warmF h h0
    · exact va_Nw.warmF h h0
    · exact va_Nw.warmF h h0
    · exact va_Nw.warmF h h0
    · exact va_Nw.warmF h h0
    · exact va_Nw.warmF h h0
    · exact va_Nw.warmF h h0
    · exact va_Nw.warmF h h0
    · exact va_Nw.warmF h h0
    · exact va_Nw.warmF h h0
    · exact va_Nw.warmF h h0
    · exact va_Nw.warmF h h0
    · exact va_Nw.warmF h h0
    · exact va_Nw.warmF h h0
    · exact va_Nw.warmF h h0
    · exact va_Nw.warmF h h0
    · exact va_Nw.warmF h h0
    · exact va_Nw.warmF h h0
    · exact va_Nw.warmF h h0
    · exact va_Nw.warmF h h0
    · exact va_Nw.warmF h h0
    · exact va_Nw.warmF h h0
    · exact va_Nw.warmF h h0
    · exact va_Nw.warmM h h0
    · exact va_Nw.warmM h h0
    · exact va_Nw.warmM h h0
    · exact va_Nw.warmM h h0
    · exact va_Nw.warmM h h0
    · exact va_Nw.warmM h h0
    · exact va_Nw.warmM h h0
    · exact va_Nw.warmM h h0
  · intro w hm
    have h0 := hw w hm
    simp only [nestW, List.mem_cons, List.not_mem_nil, or_false] at hm
    rcases hm with rfl | rfl | rfl | rfl | rfl | rfl | rfl | rfl | rfl | rfl | rfl | rfl | rfl | rfl | rfl | rfl | rfl | rfl | rfl | rfl | rfl | rfl | rfl | rfl | rfl | rfl | rfl | rfl | rfl | rfl | rfl | rfl | rfl <;> exact va_Nw.same rfl h h0
theorem cEf_k (ad adK adV : Nat → Nat) (al : Nat) : jKp (cEf ad adK adV al) := by
  intro A A' s U H h hW hU hsz hq hAB
  have hal : s.vm.Alike U.vm := by
    rcases hW with h1 | h1
    · exact h1.alike
    · rw [← h1]; exact Vm.Alike.refl s.vm
  obtain ⟨h1, h2, h3, h4, h5, h6, h7, h8, h9, h10, h11, h12, h13, h14⟩ := h
  have hc : ∀ w ∈ nseB, va_Nw w U := by
    intro w hm
    have h0 := h11 w hm
    simp only [nseB, List.mem_cons, List.not_mem_nil, or_false] at hm
    rcases hW with h | h
    · rcases hm with rfl | rfl | rfl | rfl
      · exact va_Nw.warmC h h0
      · exact va_Nw.warmD h h0
      · exact va_Nw.warmD h h0
      · exact va_Nw.warmD h h0
    · rcases hm with rfl | rfl | rfl | rfl <;> exact va_Nw.same rfl h h0
  exact ⟨nest_warm hW h1, ((h2.kept hq).narrow hAB).moved hal, ((h3.kept hq).narrow hAB).moved hal, ((h4.kept hq).narrow hAB).moved hal, ((h5.kept hq).narrow hAB).moved hal, ((h6.kept hq).narrow hAB).moved hal, ((h7.kept hq).narrow hAB).moved hal, h8.moved hal, h9.moved hal, h10.moved hal, hc, ((h12.kept hq).narrow hAB).moved hal, ((h13.kept hq).narrow hAB).moved hal, ((h14.kept hq).narrow hAB).moved hal⟩
theorem nst_X9_116 {ad adK adV : Nat → Nat} {al : Nat} : ∀ (A : Nat → Prop) (s : State) (H : Heap), cEf ad adK adV al A s H → va_Nw (Cond.fieldLinkNest RX9 116 "CouponSale$Fund" "given" "I" "CouponSale") s := fun _ _ _ h => h.1 _ (List.mem_of_getElem? (i := 0) rfl)
theorem nst_X9_119 {ad adK adV : Nat → Nat} {al : Nat} : ∀ (A : Nat → Prop) (s : State) (H : Heap), cEf ad adK adV al A s H → va_Nw (Cond.fieldLinkNest RX9 119 "CouponSale$Fund" "givenBy" "[I" "CouponSale") s := fun _ _ _ h => h.1 _ (List.mem_of_getElem? (i := 1) rfl)
theorem nst_X9_126 {ad adK adV : Nat → Nat} {al : Nat} : ∀ (A : Nat → Prop) (s : State) (H : Heap), cEf ad adK adV al A s H → va_Nw (Cond.fieldLinkNest RX9 126 "CouponSale$Work" "asked" "[I" "CouponSale") s := fun _ _ _ h => h.1 _ (List.mem_of_getElem? (i := 2) rfl)
theorem nst_X9_129 {ad adK adV : Nat → Nat} {al : Nat} : ∀ (A : Nat → Prop) (s : State) (H : Heap), cEf ad adK adV al A s H → va_Nw (Cond.fieldLinkNest RX9 129 "CouponSale$Work" "priceNow" "I" "CouponSale") s := fun _ _ _ h => h.1 _ (List.mem_of_getElem? (i := 3) rfl)
theorem nst_X9_141 {ad adK adV : Nat → Nat} {al : Nat} : ∀ (A : Nat → Prop) (s : State) (H : Heap), cEf ad adK adV al A s H → va_Nw (Cond.fieldLinkNest RX9 141 "CouponSale$Work" "shares" "I" "CouponSale") s := fun _ _ _ h => h.1 _ (List.mem_of_getElem? (i := 4) rfl)
theorem nst_X9_144 {ad adK adV : Nat → Nat} {al : Nat} : ∀ (A : Nat → Prop) (s : State) (H : Heap), cEf ad adK adV al A s H → va_Nw (Cond.fieldLinkNest RX9 144 "CouponSale$Work" "left" "I" "CouponSale") s := fun _ _ _ h => h.1 _ (List.mem_of_getElem? (i := 5) rfl)
theorem nst_X9_151 {ad adK adV : Nat → Nat} {al : Nat} : ∀ (A : Nat → Prop) (s : State) (H : Heap), cEf ad adK adV al A s H → va_Nw (Cond.fieldLinkNest RX9 151 "CouponSale$Work" "madeIn" "I" "CouponSale") s := fun _ _ _ h => h.1 _ (List.mem_of_getElem? (i := 6) rfl)
theorem nst_X9_154 {ad adK adV : Nat → Nat} {al : Nat} : ∀ (A : Nat → Prop) (s : State) (H : Heap), cEf ad adK adV al A s H → va_Nw (Cond.fieldLinkNest RX9 154 "CouponSale$Work" "priceIn" "[I" "CouponSale") s := fun _ _ _ h => h.1 _ (List.mem_of_getElem? (i := 7) rfl)
theorem nst_X9_175 {ad adK adV : Nat → Nat} {al : Nat} : ∀ (A : Nat → Prop) (s : State) (H : Heap), cEf ad adK adV al A s H → va_Nw (Cond.fieldLinkNest RX9 175 "CouponSale$Fraction" "upper" "J" "CouponSale") s := fun _ _ _ h => h.1 _ (List.mem_of_getElem? (i := 8) rfl)
theorem nst_X9_181 {ad adK adV : Nat → Nat} {al : Nat} : ∀ (A : Nat → Prop) (s : State) (H : Heap), cEf ad adK adV al A s H → va_Nw (Cond.fieldLinkNest RX9 181 "CouponSale$Fraction" "lower" "J" "CouponSale") s := fun _ _ _ h => h.1 _ (List.mem_of_getElem? (i := 9) rfl)
theorem nst_X9_184 {ad adK adV : Nat → Nat} {al : Nat} : ∀ (A : Nat → Prop) (s : State) (H : Heap), cEf ad adK adV al A s H → va_Nw (Cond.fieldLinkNest RX9 184 "CouponSale$Work" "held" "[I" "CouponSale") s := fun _ _ _ h => h.1 _ (List.mem_of_getElem? (i := 10) rfl)
theorem nst_X9_192 {ad adK adV : Nat → Nat} {al : Nat} : ∀ (A : Nat → Prop) (s : State) (H : Heap), cEf ad adK adV al A s H → va_Nw (Cond.fieldLinkNest RX9 192 "CouponSale$Fund" "promised" "I" "CouponSale") s := fun _ _ _ h => h.1 _ (List.mem_of_getElem? (i := 11) rfl)
theorem nst_X9_216 {ad adK adV : Nat → Nat} {al : Nat} : ∀ (A : Nat → Prop) (s : State) (H : Heap), cEf ad adK adV al A s H → va_Nw (Cond.fieldLinkNest RX9 216 "CouponSale$Allotment" "wanted" "[I" "CouponSale") s := fun _ _ _ h => h.1 _ (List.mem_of_getElem? (i := 12) rfl)
theorem nst_X9_219 {ad adK adV : Nat → Nat} {al : Nat} : ∀ (A : Nat → Prop) (s : State) (H : Heap), cEf ad adK adV al A s H → va_Nw (Cond.fieldLinkNest RX9 219 "CouponSale$Person" "workerOf" "I" "CouponSale") s := fun _ _ _ h => h.1 _ (List.mem_of_getElem? (i := 13) rfl)
theorem nst_X9_262 {ad adK adV : Nat → Nat} {al : Nat} : ∀ (A : Nat → Prop) (s : State) (H : Heap), cEf ad adK adV al A s H → va_Nw (Cond.fieldLinkNest RX9 262 "CouponSale$Allotment" "won" "[I" "CouponSale") s := fun _ _ _ h => h.1 _ (List.mem_of_getElem? (i := 14) rfl)
theorem nst_X9_56 {ad adK adV : Nat → Nat} {al : Nat} : ∀ (A : Nat → Prop) (s : State) (H : Heap), cEf ad adK adV al A s H → va_Nw (Cond.fieldLinkNest RX9 56 "CouponSale$Tape" "length" "I" "CouponSale") s := fun _ _ _ h => h.1 _ (List.mem_of_getElem? (i := 15) rfl)
theorem nst_X9_67 {ad adK adV : Nat → Nat} {al : Nat} : ∀ (A : Nat → Prop) (s : State) (H : Heap), cEf ad adK adV al A s H → va_Nw (Cond.fieldLinkNest RX9 67 "CouponSale$RuleText" "faultKind" "I" "CouponSale") s := fun _ _ _ h => h.1 _ (List.mem_of_getElem? (i := 16) rfl)
theorem nst_X9_70 {ad adK adV : Nat → Nat} {al : Nat} : ∀ (A : Nat → Prop) (s : State) (H : Heap), cEf ad adK adV al A s H → va_Nw (Cond.fieldLinkNest RX9 70 "CouponSale$RuleText" "values" "[I" "CouponSale") s := fun _ _ _ h => h.1 _ (List.mem_of_getElem? (i := 17) rfl)
theorem nst_X6_101 {ad adK adV : Nat → Nat} {al : Nat} : ∀ (A : Nat → Prop) (s : State) (H : Heap), cEf ad adK adV al A s H → va_Nw (Cond.fieldLinkNest RX6 101 "CouponSale$Rule" "low" "I" "CouponSale") s := fun _ _ _ h => h.1 _ (List.mem_of_getElem? (i := 18) rfl)
theorem nst_X6_104 {ad adK adV : Nat → Nat} {al : Nat} : ∀ (A : Nat → Prop) (s : State) (H : Heap), cEf ad adK adV al A s H → va_Nw (Cond.fieldLinkNest RX6 104 "CouponSale$Rule" "high" "I" "CouponSale") s := fun _ _ _ h => h.1 _ (List.mem_of_getElem? (i := 19) rfl)
theorem nst_X6_120 {ad adK adV : Nat → Nat} {al : Nat} : ∀ (A : Nat → Prop) (s : State) (H : Heap), cEf ad adK adV al A s H → va_Nw (Cond.fieldLinkNest RX6 120 "CouponSale$Rule" "word" "Ljava/lang/String;" "CouponSale") s := fun _ _ _ h => h.1 _ (List.mem_of_getElem? (i := 20) rfl)
theorem nst_X6_24 {ad adK adV : Nat → Nat} {al : Nat} : ∀ (A : Nat → Prop) (s : State) (H : Heap), cEf ad adK adV al A s H → va_Nw (Cond.fieldLinkNest RX6 24 "CouponSale$Rule" "number" "I" "CouponSale") s := fun _ _ _ h => h.1 _ (List.mem_of_getElem? (i := 21) rfl)
theorem nst_X6_28 {ad adK adV : Nat → Nat} {al : Nat} : ∀ (A : Nat → Prop) (s : State) (H : Heap), cEf ad adK adV al A s H → va_Nw (Cond.fieldLinkNest RX6 28 "CouponSale$Rule" "untold" "I" "CouponSale") s := fun _ _ _ h => h.1 _ (List.mem_of_getElem? (i := 22) rfl)
theorem nst_X6_34 {ad adK adV : Nat → Nat} {al : Nat} : ∀ (A : Nat → Prop) (s : State) (H : Heap), cEf ad adK adV al A s H → va_Nw (Cond.fieldLinkNest RX6 34 "CouponSale$Tape" "length" "I" "CouponSale") s := fun _ _ _ h => h.1 _ (List.mem_of_getElem? (i := 23) rfl)
theorem nst_X6_9 {ad adK adV : Nat → Nat} {al : Nat} : ∀ (A : Nat → Prop) (s : State) (H : Heap), cEf ad adK adV al A s H → va_Nw (Cond.fieldLinkNest RX6 9 "CouponSale$Rule" "ALL" "[LCouponSale$Rule;" "CouponSale") s := fun _ _ _ h => h.1 _ (List.mem_of_getElem? (i := 24) rfl)
theorem nst_X9_11 {ad adK adV : Nat → Nat} {al : Nat} : ∀ (A : Nat → Prop) (s : State) (H : Heap), cEf ad adK adV al A s H → va_Nw (Cond.methodLinkNest RX9 11 yX7_init "CouponSale") s := fun _ _ _ h => h.1 _ (List.mem_of_getElem? (i := 25) rfl)
theorem nst_X9_43 {ad adK adV : Nat → Nat} {al : Nat} : ∀ (A : Nat → Prop) (s : State) (H : Heap), cEf ad adK adV al A s H → va_Nw (Cond.methodLinkNest RX9 43 yX0_init "CouponSale") s := fun _ _ _ h => h.1 _ (List.mem_of_getElem? (i := 26) rfl)
theorem nst_X0_21 {ad adK adV : Nat → Nat} {al : Nat} : ∀ (A : Nat → Prop) (s : State) (H : Heap), cEf ad adK adV al A s H → va_Nw (Cond.methodLinkNest RX0 21 yX9_sumOf "CouponSale") s := fun _ _ _ h => h.1 _ (List.mem_of_getElem? (i := 27) rfl)
theorem nst_X3_3 {ad adK adV : Nat → Nat} {al : Nat} : ∀ (A : Nat → Prop) (s : State) (H : Heap), cEf ad adK adV al A s H → va_Nw (Cond.methodLinkNest RX3 3 yX1_init "CouponSale") s := fun _ _ _ h => h.1 _ (List.mem_of_getElem? (i := 28) rfl)
theorem nst_X4_3 {ad adK adV : Nat → Nat} {al : Nat} : ∀ (A : Nat → Prop) (s : State) (H : Heap), cEf ad adK adV al A s H → va_Nw (Cond.methodLinkNest RX4 3 yX1_init "CouponSale") s := fun _ _ _ h => h.1 _ (List.mem_of_getElem? (i := 29) rfl)
theorem nst_X6_107 {ad adK adV : Nat → Nat} {al : Nat} : ∀ (A : Nat → Prop) (s : State) (H : Heap), cEf ad adK adV al A s H → va_Nw (Cond.methodLinkNest RX6 107 yX9_isWithin "CouponSale") s := fun _ _ _ h => h.1 _ (List.mem_of_getElem? (i := 30) rfl)
theorem nst_X7_19 {ad adK adV : Nat → Nat} {al : Nat} : ∀ (A : Nat → Prop) (s : State) (H : Heap), cEf ad adK adV al A s H → va_Nw (Cond.methodLinkNest RX7 19 yX9_isWithin "CouponSale") s := fun _ _ _ h => h.1 _ (List.mem_of_getElem? (i := 31) rfl)
theorem nst_X8_37 {ad adK adV : Nat → Nat} {al : Nat} : ∀ (A : Nat → Prop) (s : State) (H : Heap), cEf ad adK adV al A s H → va_Nw (Cond.methodLinkNest RX8 37 yX9_isWithin "CouponSale") s := fun _ _ _ h => h.1 _ (List.mem_of_getElem? (i := 32) rfl)

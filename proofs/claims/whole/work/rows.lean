section
-- ===== PART A: goes FIRST, ahead of the names: the tables' words, and 'selects' of the private methods out of them =====
/-- a private method of a class that the tables say can be made, by its rows of tables_1 -/
def lw_okq (q : MethodName × Nat) : Prop := (q.1.cls ≠ "java/lang/invoke/MethodHandle" ∧ q.1.cls ≠ "java/lang/invoke/VarHandle") ∧ Cond.instantiable q.1.cls q.2 ∈ tables_1 ∧ Cond.privateMethod q.1 ∈ tables_1 ∧ Cond.instanceMethod q.1 ∈ tables_1
theorem lw_p0 : lw_okq (⟨"CouponSale$RuleText", "begin", "()V"⟩, 7) := ⟨⟨by decide +kernel, by decide +kernel⟩, List.mem_of_getElem? (i := 48) (by decide +kernel), List.mem_of_getElem? (i := 170) (by decide +kernel), List.mem_of_getElem? (i := 171) (by decide +kernel)⟩
theorem lw_p1 : lw_okq (⟨"CouponSale$RuleText", "takeToken", "(LCouponSale$Tape;II)V"⟩, 7) := ⟨⟨by decide +kernel, by decide +kernel⟩, List.mem_of_getElem? (i := 48) (by decide +kernel), List.mem_of_getElem? (i := 199) (by decide +kernel), List.mem_of_getElem? (i := 200) (by decide +kernel)⟩
theorem lw_p2 : lw_okq (⟨"CouponSale$RuleText", "setFault", "(II)V"⟩, 7) := ⟨⟨by decide +kernel, by decide +kernel⟩, List.mem_of_getElem? (i := 48) (by decide +kernel), List.mem_of_getElem? (i := 206) (by decide +kernel), List.mem_of_getElem? (i := 207) (by decide +kernel)⟩
theorem lw_p3 : lw_okq (⟨"CouponSale$RuleText", "takeWord", "(LCouponSale$Tape;II)V"⟩, 7) := ⟨⟨by decide +kernel, by decide +kernel⟩, List.mem_of_getElem? (i := 48) (by decide +kernel), List.mem_of_getElem? (i := 210) (by decide +kernel), List.mem_of_getElem? (i := 211) (by decide +kernel)⟩
theorem lw_p4 : lw_okq (⟨"CouponSale$RuleText", "takeNumber", "(LCouponSale$Tape;II)V"⟩, 7) := ⟨⟨by decide +kernel, by decide +kernel⟩, List.mem_of_getElem? (i := 48) (by decide +kernel), List.mem_of_getElem? (i := 268) (by decide +kernel), List.mem_of_getElem? (i := 269) (by decide +kernel)⟩
theorem lw_p5 : lw_okq (⟨"CouponSale$RuleText", "putInForce", "()V"⟩, 7) := ⟨⟨by decide +kernel, by decide +kernel⟩, List.mem_of_getElem? (i := 48) (by decide +kernel), List.mem_of_getElem? (i := 273) (by decide +kernel), List.mem_of_getElem? (i := 274) (by decide +kernel)⟩
theorem lw_p6 : lw_okq (⟨"CouponSale", "workAt", "(I)LCouponSale$Work;"⟩, 11) := ⟨⟨by decide +kernel, by decide +kernel⟩, List.mem_of_getElem? (i := 24) (by decide +kernel), List.mem_of_getElem? (i := 332) (by decide +kernel), List.mem_of_getElem? (i := 333) (by decide +kernel)⟩
theorem lw_p7 : lw_okq (⟨"CouponSale", "personAt", "(I)LCouponSale$Person;"⟩, 11) := ⟨⟨by decide +kernel, by decide +kernel⟩, List.mem_of_getElem? (i := 24) (by decide +kernel), List.mem_of_getElem? (i := 383) (by decide +kernel), List.mem_of_getElem? (i := 384) (by decide +kernel)⟩
theorem lw_p8 : lw_okq (⟨"CouponSale", "fundAt", "(I)LCouponSale$Fund;"⟩, 11) := ⟨⟨by decide +kernel, by decide +kernel⟩, List.mem_of_getElem? (i := 24) (by decide +kernel), List.mem_of_getElem? (i := 387) (by decide +kernel), List.mem_of_getElem? (i := 388) (by decide +kernel)⟩
theorem lw_p9 : lw_okq (⟨"CouponSale", "costOfBids", "(I)I"⟩, 11) := ⟨⟨by decide +kernel, by decide +kernel⟩, List.mem_of_getElem? (i := 24) (by decide +kernel), List.mem_of_getElem? (i := 391) (by decide +kernel), List.mem_of_getElem? (i := 392) (by decide +kernel)⟩
theorem lw_p10 : lw_okq (⟨"CouponSale", "bidderAt", "(I)LCouponSale$Bidder;"⟩, 11) := ⟨⟨by decide +kernel, by decide +kernel⟩, List.mem_of_getElem? (i := 24) (by decide +kernel), List.mem_of_getElem? (i := 399) (by decide +kernel), List.mem_of_getElem? (i := 400) (by decide +kernel)⟩
theorem lw_p11 : lw_okq (⟨"CouponSale", "endRoundOf", "(I)I"⟩, 11) := ⟨⟨by decide +kernel, by decide +kernel⟩, List.mem_of_getElem? (i := 24) (by decide +kernel), List.mem_of_getElem? (i := 407) (by decide +kernel), List.mem_of_getElem? (i := 408) (by decide +kernel)⟩
theorem lw_p12 : lw_okq (⟨"CouponSale", "sellToWorkers", "(LCouponSale$Work;I)V"⟩, 11) := ⟨⟨by decide +kernel, by decide +kernel⟩, List.mem_of_getElem? (i := 24) (by decide +kernel), List.mem_of_getElem? (i := 411) (by decide +kernel), List.mem_of_getElem? (i := 412) (by decide +kernel)⟩
theorem lw_p13 : lw_okq (⟨"CouponSale$Allotment", "giveOneToGreatestRest", "()V"⟩, 3) := ⟨⟨by decide +kernel, by decide +kernel⟩, List.mem_of_getElem? (i := 87) (by decide +kernel), List.mem_of_getElem? (i := 430) (by decide +kernel), List.mem_of_getElem? (i := 431) (by decide +kernel)⟩
theorem lw_p14 : lw_okq (⟨"CouponSale", "handOver", "(LCouponSale$Work;I)V"⟩, 11) := ⟨⟨by decide +kernel, by decide +kernel⟩, List.mem_of_getElem? (i := 24) (by decide +kernel), List.mem_of_getElem? (i := 439) (by decide +kernel), List.mem_of_getElem? (i := 440) (by decide +kernel)⟩
theorem lw_p15 : lw_okq (⟨"CouponSale", "sellToAll", "(LCouponSale$Work;)V"⟩, 11) := ⟨⟨by decide +kernel, by decide +kernel⟩, List.mem_of_getElem? (i := 24) (by decide +kernel), List.mem_of_getElem? (i := 443) (by decide +kernel), List.mem_of_getElem? (i := 444) (by decide +kernel)⟩
def lw_privs_1 : List (MethodName × Nat) := [(⟨"CouponSale$RuleText", "begin", "()V"⟩, 7), (⟨"CouponSale$RuleText", "takeToken", "(LCouponSale$Tape;II)V"⟩, 7), (⟨"CouponSale$RuleText", "setFault", "(II)V"⟩, 7), (⟨"CouponSale$RuleText", "takeWord", "(LCouponSale$Tape;II)V"⟩, 7), (⟨"CouponSale$RuleText", "takeNumber", "(LCouponSale$Tape;II)V"⟩, 7), (⟨"CouponSale$RuleText", "putInForce", "()V"⟩, 7), (⟨"CouponSale", "workAt", "(I)LCouponSale$Work;"⟩, 11), (⟨"CouponSale", "personAt", "(I)LCouponSale$Person;"⟩, 11), (⟨"CouponSale", "fundAt", "(I)LCouponSale$Fund;"⟩, 11), (⟨"CouponSale", "costOfBids", "(I)I"⟩, 11), (⟨"CouponSale", "bidderAt", "(I)LCouponSale$Bidder;"⟩, 11), (⟨"CouponSale", "endRoundOf", "(I)I"⟩, 11), (⟨"CouponSale", "sellToWorkers", "(LCouponSale$Work;I)V"⟩, 11), (⟨"CouponSale$Allotment", "giveOneToGreatestRest", "()V"⟩, 3), (⟨"CouponSale", "handOver", "(LCouponSale$Work;I)V"⟩, 11), (⟨"CouponSale", "sellToAll", "(LCouponSale$Work;)V"⟩, 11)]
theorem lw_r1 : ∀ q ∈ lw_privs_1, lw_okq q := List.forall_mem_cons.mpr ⟨lw_p0, List.forall_mem_cons.mpr ⟨lw_p1, List.forall_mem_cons.mpr ⟨lw_p2, List.forall_mem_cons.mpr ⟨lw_p3, List.forall_mem_cons.mpr ⟨lw_p4, List.forall_mem_cons.mpr ⟨lw_p5, List.forall_mem_cons.mpr ⟨lw_p6, List.forall_mem_cons.mpr ⟨lw_p7, List.forall_mem_cons.mpr ⟨lw_p8, List.forall_mem_cons.mpr ⟨lw_p9, List.forall_mem_cons.mpr ⟨lw_p10, List.forall_mem_cons.mpr ⟨lw_p11, List.forall_mem_cons.mpr ⟨lw_p12, List.forall_mem_cons.mpr ⟨lw_p13, List.forall_mem_cons.mpr ⟨lw_p14, List.forall_mem_cons.mpr ⟨lw_p15, fun _ h => absurd h List.not_mem_nil⟩⟩⟩⟩⟩⟩⟩⟩⟩⟩⟩⟩⟩⟩⟩⟩
theorem lw_p16 : lw_okq (⟨"CouponSale", "movedPrice", "(III)I"⟩, 11) := ⟨⟨by decide +kernel, by decide +kernel⟩, List.mem_of_getElem? (i := 24) (by decide +kernel), List.mem_of_getElem? (i := 453) (by decide +kernel), List.mem_of_getElem? (i := 454) (by decide +kernel)⟩
theorem lw_p17 : lw_okq (⟨"java/lang/Throwable", "fillInStackTrace", "(I)Ljava/lang/Throwable;"⟩, 6) := ⟨⟨by decide +kernel, by decide +kernel⟩, List.mem_of_getElem? (i := 536) (by decide +kernel), List.mem_of_getElem? (i := 534) (by decide +kernel), List.mem_of_getElem? (i := 535) (by decide +kernel)⟩
theorem lw_p18 : lw_okq (⟨"CouponSale", "isKept", "(LCouponSale$Fund;I)Z"⟩, 11) := ⟨⟨by decide +kernel, by decide +kernel⟩, List.mem_of_getElem? (i := 24) (by decide +kernel), List.mem_of_getElem? (i := 561) (by decide +kernel), List.mem_of_getElem? (i := 562) (by decide +kernel)⟩
theorem lw_p19 : lw_okq (⟨"CouponSale", "worthHeldBy", "(I)I"⟩, 11) := ⟨⟨by decide +kernel, by decide +kernel⟩, List.mem_of_getElem? (i := 24) (by decide +kernel), List.mem_of_getElem? (i := 566) (by decide +kernel), List.mem_of_getElem? (i := 567) (by decide +kernel)⟩
theorem lw_p20 : lw_okq (⟨"CouponSale", "sharesHeldBy", "(I)I"⟩, 11) := ⟨⟨by decide +kernel, by decide +kernel⟩, List.mem_of_getElem? (i := 24) (by decide +kernel), List.mem_of_getElem? (i := 570) (by decide +kernel), List.mem_of_getElem? (i := 571) (by decide +kernel)⟩
theorem lw_p21 : lw_okq (⟨"CouponSale", "partOwned", "(ILCouponSale$Work;I)LCouponSale$Fraction;"⟩, 11) := ⟨⟨by decide +kernel, by decide +kernel⟩, List.mem_of_getElem? (i := 24) (by decide +kernel), List.mem_of_getElem? (i := 581) (by decide +kernel), List.mem_of_getElem? (i := 582) (by decide +kernel)⟩
theorem lw_p22 : lw_okq (⟨"CouponSale$Fraction", "shorten", "()V"⟩, 2) := ⟨⟨by decide +kernel, by decide +kernel⟩, List.mem_of_getElem? (i := 585) (by decide +kernel), List.mem_of_getElem? (i := 604) (by decide +kernel), List.mem_of_getElem? (i := 605) (by decide +kernel)⟩
theorem lw_p23 : lw_okq (⟨"CouponSaleModel", "come", "(I)V"⟩, 37) := ⟨⟨by decide +kernel, by decide +kernel⟩, List.mem_of_getElem? (i := 615) (by decide +kernel), List.mem_of_getElem? (i := 741) (by decide +kernel), List.mem_of_getElem? (i := 742) (by decide +kernel)⟩
theorem lw_p24 : lw_okq (⟨"CouponSaleModel", "go", "()V"⟩, 37) := ⟨⟨by decide +kernel, by decide +kernel⟩, List.mem_of_getElem? (i := 615) (by decide +kernel), List.mem_of_getElem? (i := 753) (by decide +kernel), List.mem_of_getElem? (i := 754) (by decide +kernel)⟩
theorem lw_p25 : lw_okq (⟨"CouponSaleModel", "byteAt", "(I)I"⟩, 37) := ⟨⟨by decide +kernel, by decide +kernel⟩, List.mem_of_getElem? (i := 615) (by decide +kernel), List.mem_of_getElem? (i := 763) (by decide +kernel), List.mem_of_getElem? (i := 764) (by decide +kernel)⟩
theorem lw_p26 : lw_okq (⟨"CouponSaleModel", "readRule", "()Z"⟩, 37) := ⟨⟨by decide +kernel, by decide +kernel⟩, List.mem_of_getElem? (i := 615) (by decide +kernel), List.mem_of_getElem? (i := 770) (by decide +kernel), List.mem_of_getElem? (i := 771) (by decide +kernel)⟩
theorem lw_p27 : lw_okq (⟨"CouponSaleModel", "ruleAtHand", "()I"⟩, 37) := ⟨⟨by decide +kernel, by decide +kernel⟩, List.mem_of_getElem? (i := 615) (by decide +kernel), List.mem_of_getElem? (i := 774) (by decide +kernel), List.mem_of_getElem? (i := 775) (by decide +kernel)⟩
theorem lw_p28 : lw_okq (⟨"CouponSaleModel", "isKey", "(J)Z"⟩, 37) := ⟨⟨by decide +kernel, by decide +kernel⟩, List.mem_of_getElem? (i := 615) (by decide +kernel), List.mem_of_getElem? (i := 783) (by decide +kernel), List.mem_of_getElem? (i := 784) (by decide +kernel)⟩
theorem lw_p29 : lw_okq (⟨"CouponSaleModel", "bad", "(I)Z"⟩, 37) := ⟨⟨by decide +kernel, by decide +kernel⟩, List.mem_of_getElem? (i := 615) (by decide +kernel), List.mem_of_getElem? (i := 791) (by decide +kernel), List.mem_of_getElem? (i := 792) (by decide +kernel)⟩
theorem lw_p30 : lw_okq (⟨"CouponSaleModel", "isWork", "(I)Z"⟩, 37) := ⟨⟨by decide +kernel, by decide +kernel⟩, List.mem_of_getElem? (i := 615) (by decide +kernel), List.mem_of_getElem? (i := 814) (by decide +kernel), List.mem_of_getElem? (i := 815) (by decide +kernel)⟩
theorem lw_p31 : lw_okq (⟨"CouponSaleModel", "isPerson", "(I)Z"⟩, 37) := ⟨⟨by decide +kernel, by decide +kernel⟩, List.mem_of_getElem? (i := 615) (by decide +kernel), List.mem_of_getElem? (i := 826) (by decide +kernel), List.mem_of_getElem? (i := 827) (by decide +kernel)⟩
def lw_privs_2 : List (MethodName × Nat) := [(⟨"CouponSale", "movedPrice", "(III)I"⟩, 11), (⟨"java/lang/Throwable", "fillInStackTrace", "(I)Ljava/lang/Throwable;"⟩, 6), (⟨"CouponSale", "isKept", "(LCouponSale$Fund;I)Z"⟩, 11), (⟨"CouponSale", "worthHeldBy", "(I)I"⟩, 11), (⟨"CouponSale", "sharesHeldBy", "(I)I"⟩, 11), (⟨"CouponSale", "partOwned", "(ILCouponSale$Work;I)LCouponSale$Fraction;"⟩, 11), (⟨"CouponSale$Fraction", "shorten", "()V"⟩, 2), (⟨"CouponSaleModel", "come", "(I)V"⟩, 37), (⟨"CouponSaleModel", "go", "()V"⟩, 37), (⟨"CouponSaleModel", "byteAt", "(I)I"⟩, 37), (⟨"CouponSaleModel", "readRule", "()Z"⟩, 37), (⟨"CouponSaleModel", "ruleAtHand", "()I"⟩, 37), (⟨"CouponSaleModel", "isKey", "(J)Z"⟩, 37), (⟨"CouponSaleModel", "bad", "(I)Z"⟩, 37), (⟨"CouponSaleModel", "isWork", "(I)Z"⟩, 37), (⟨"CouponSaleModel", "isPerson", "(I)Z"⟩, 37)]
theorem lw_r2 : ∀ q ∈ lw_privs_2, lw_okq q := List.forall_mem_cons.mpr ⟨lw_p16, List.forall_mem_cons.mpr ⟨lw_p17, List.forall_mem_cons.mpr ⟨lw_p18, List.forall_mem_cons.mpr ⟨lw_p19, List.forall_mem_cons.mpr ⟨lw_p20, List.forall_mem_cons.mpr ⟨lw_p21, List.forall_mem_cons.mpr ⟨lw_p22, List.forall_mem_cons.mpr ⟨lw_p23, List.forall_mem_cons.mpr ⟨lw_p24, List.forall_mem_cons.mpr ⟨lw_p25, List.forall_mem_cons.mpr ⟨lw_p26, List.forall_mem_cons.mpr ⟨lw_p27, List.forall_mem_cons.mpr ⟨lw_p28, List.forall_mem_cons.mpr ⟨lw_p29, List.forall_mem_cons.mpr ⟨lw_p30, List.forall_mem_cons.mpr ⟨lw_p31, fun _ h => absurd h List.not_mem_nil⟩⟩⟩⟩⟩⟩⟩⟩⟩⟩⟩⟩⟩⟩⟩⟩
theorem lw_p32 : lw_okq (⟨"CouponSaleModel", "isFund", "(I)Z"⟩, 37) := ⟨⟨by decide +kernel, by decide +kernel⟩, List.mem_of_getElem? (i := 615) (by decide +kernel), List.mem_of_getElem? (i := 830) (by decide +kernel), List.mem_of_getElem? (i := 831) (by decide +kernel)⟩
theorem lw_p33 : lw_okq (⟨"CouponSaleModel", "costs", "(I)I"⟩, 37) := ⟨⟨by decide +kernel, by decide +kernel⟩, List.mem_of_getElem? (i := 615) (by decide +kernel), List.mem_of_getElem? (i := 834) (by decide +kernel), List.mem_of_getElem? (i := 835) (by decide +kernel)⟩
theorem lw_p34 : lw_okq (⟨"CouponSaleModel", "isBidder", "(I)Z"⟩, 37) := ⟨⟨by decide +kernel, by decide +kernel⟩, List.mem_of_getElem? (i := 615) (by decide +kernel), List.mem_of_getElem? (i := 842) (by decide +kernel), List.mem_of_getElem? (i := 843) (by decide +kernel)⟩
theorem lw_p35 : lw_okq (⟨"CouponSaleModel", "sellsWork", "(I)I"⟩, 37) := ⟨⟨by decide +kernel, by decide +kernel⟩, List.mem_of_getElem? (i := 615) (by decide +kernel), List.mem_of_getElem? (i := 850) (by decide +kernel), List.mem_of_getElem? (i := 851) (by decide +kernel)⟩
theorem lw_p36 : lw_okq (⟨"CouponSaleModel", "part", "(I)I"⟩, 37) := ⟨⟨by decide +kernel, by decide +kernel⟩, List.mem_of_getElem? (i := 615) (by decide +kernel), List.mem_of_getElem? (i := 854) (by decide +kernel), List.mem_of_getElem? (i := 855) (by decide +kernel)⟩
theorem lw_p37 : lw_okq (⟨"CouponSaleModel", "sells", "(II)I"⟩, 37) := ⟨⟨by decide +kernel, by decide +kernel⟩, List.mem_of_getElem? (i := 615) (by decide +kernel), List.mem_of_getElem? (i := 858) (by decide +kernel), List.mem_of_getElem? (i := 859) (by decide +kernel)⟩
theorem lw_p38 : lw_okq (⟨"CouponSaleModel", "refuse", "()I"⟩, 37) := ⟨⟨by decide +kernel, by decide +kernel⟩, List.mem_of_getElem? (i := 615) (by decide +kernel), List.mem_of_getElem? (i := 874) (by decide +kernel), List.mem_of_getElem? (i := 875) (by decide +kernel)⟩
theorem lw_p39 : lw_okq (⟨"CouponSaleModel", "isKept", "(I)Z"⟩, 37) := ⟨⟨by decide +kernel, by decide +kernel⟩, List.mem_of_getElem? (i := 615) (by decide +kernel), List.mem_of_getElem? (i := 878) (by decide +kernel), List.mem_of_getElem? (i := 879) (by decide +kernel)⟩
theorem lw_p40 : lw_okq (⟨"CouponSaleModel", "isRound", "(I)Z"⟩, 37) := ⟨⟨by decide +kernel, by decide +kernel⟩, List.mem_of_getElem? (i := 615) (by decide +kernel), List.mem_of_getElem? (i := 887) (by decide +kernel), List.mem_of_getElem? (i := 888) (by decide +kernel)⟩
theorem lw_p41 : lw_okq (⟨"CouponSaleModel", "heldAsOf", "(III)I"⟩, 37) := ⟨⟨by decide +kernel, by decide +kernel⟩, List.mem_of_getElem? (i := 615) (by decide +kernel), List.mem_of_getElem? (i := 891) (by decide +kernel), List.mem_of_getElem? (i := 892) (by decide +kernel)⟩
def lw_privs_3 : List (MethodName × Nat) := [(⟨"CouponSaleModel", "isFund", "(I)Z"⟩, 37), (⟨"CouponSaleModel", "costs", "(I)I"⟩, 37), (⟨"CouponSaleModel", "isBidder", "(I)Z"⟩, 37), (⟨"CouponSaleModel", "sellsWork", "(I)I"⟩, 37), (⟨"CouponSaleModel", "part", "(I)I"⟩, 37), (⟨"CouponSaleModel", "sells", "(II)I"⟩, 37), (⟨"CouponSaleModel", "refuse", "()I"⟩, 37), (⟨"CouponSaleModel", "isKept", "(I)Z"⟩, 37), (⟨"CouponSaleModel", "isRound", "(I)Z"⟩, 37), (⟨"CouponSaleModel", "heldAsOf", "(III)I"⟩, 37)]
theorem lw_r3 : ∀ q ∈ lw_privs_3, lw_okq q := List.forall_mem_cons.mpr ⟨lw_p32, List.forall_mem_cons.mpr ⟨lw_p33, List.forall_mem_cons.mpr ⟨lw_p34, List.forall_mem_cons.mpr ⟨lw_p35, List.forall_mem_cons.mpr ⟨lw_p36, List.forall_mem_cons.mpr ⟨lw_p37, List.forall_mem_cons.mpr ⟨lw_p38, List.forall_mem_cons.mpr ⟨lw_p39, List.forall_mem_cons.mpr ⟨lw_p40, List.forall_mem_cons.mpr ⟨lw_p41, fun _ h => absurd h List.not_mem_nil⟩⟩⟩⟩⟩⟩⟩⟩⟩⟩
def lw_privs : List (MethodName × Nat) := lw_privs_1 ++ (lw_privs_2 ++ (lw_privs_3))
def lw_tbl : List Cond := k2_sels lw_privs ++ tables_1
theorem lw_privs_ok : ∀ q ∈ lw_privs, lw_okq q := by
  show ∀ q ∈ lw_privs_1 ++ (lw_privs_2 ++ (lw_privs_3)), lw_okq q
  exact List.forall_mem_append.mpr ⟨lw_r1, List.forall_mem_append.mpr ⟨lw_r2, lw_r3⟩⟩
end
section
/-! ===== BEGIN words of one list among another's, by their places ===== -/
theorem goodIn_r {big : List Cond} (ws : List Cond) (ps : List Nat) (hp : ws = ps.filterMap (fun i => big[i]?)) (h : ws.all goodWord = true) : GoodIn big ws := by
  intro w hw
  have h1 := List.all_eq_true.mp h w hw
  rw [hp] at hw
  obtain ⟨i, -, hi⟩ := List.mem_filterMap.mp hw
  have hm : w ∈ big := by first | exact List.mem_of_getElem? hi | exact List.getElem?_mem hi
  exact ⟨hm, good_of_word h1⟩
theorem goodIn_app {big a b : List Cond} (ha : GoodIn big a) (hb : GoodIn big b) : GoodIn big (a ++ b) := fun w h => (List.mem_append.mp h).elim (ha w) (hb w)
theorem goodIn_ca {big a b : List Cond} {c : Cond} (ha : GoodIn big (c :: a)) (hb : GoodIn big b) : GoodIn big (c :: (a ++ b)) := fun w h => (List.mem_cons.mp h).elim (fun e => ha w (List.mem_cons.mpr (Or.inl e))) (fun h => (List.mem_append.mp h).elim (fun h => ha w (List.mem_cons.mpr (Or.inr h))) (hb w))
theorem goodIn_sub {big ws : List Cond} (hm : ∀ w ∈ ws, w ∈ big) (h : ws.all goodWord = true) : GoodIn big ws := fun w hw => ⟨hm w hw, good_of_word (List.all_eq_true.mp h w hw)⟩
/-! ===== END ===== -/

/-! ===== BEGIN exceptions that leave a method, and their catching by the caller (launches without stack traces) ===== -/
section VXA
/-! The laws vx_back, vx_callV, vx_callS, vx_callSW, vx_throw0, vx_throwS follow proofs of the library, with one case more: JvmDerived/Free/Laws.lean (Back.of_free), Shelf42/LK1.lean (callV, callS), Shelf/KitTraced.lean (throwNew0V, throwNewS). -/
/-- where a method has thrown q: the class by its name, the cell, what was written, the world -/
def vx_T (XC : String → State → State → Prop) (st : State) (q : Addr) (t : State) (mc ms : Nat) (free : Addr → Prop) : Prop :=
  ∃ (E : String) (ce : Cell) (L : List Loc), XC E st t ∧ t.heap[q]? = some ce ∧ ce.vm = .none ∧ st.vm.findClass E = some ce.cls ∧ st.WarmedH t.vm ∧ st.sameButNew ({ t with vm := st.vm } : State) L mc ms ∧ ∀ z ∈ L, free z.base
def vx_Q (Qc : Array Value → State → Outcome → State → Prop) (XC : String → State → State → Prop) (mc ms : Nat) (free : Addr → Prop) : Array Value → State → Outcome → State → Prop := fun a st o t =>
  (Qc a st o t ∧ ∃ L, FrameEnd st o t L mc ms ∧ ∀ q ∈ L, free q.base) ∨ ∃ q, o = .threw q ∧ vx_T XC st q t mc ms free
/-- a callee that returns or throws -/
def vx_Met (l : Launch) (y : MethodName) (ws : List Cond) (rm : Room) (Pc : Array Value → State → Prop) (Qc : Array Value → State → Outcome → State → Prop) (XC : String → State → State → Prop) (mc ms : Nat) (free : Addr → Prop) : Prop :=
  MetFree l y (headSpec ws rm) Pc (fun _ _ _ _ _ => True) (vx_Q Qc XC mc ms free)
def vx_Post (XC : String → State → State → Prop) (mc ms : Nat) (free : Addr → Prop) : Pt → Array Value → Addr → Pt → Prop := fun A a q B =>
  ∃ (g : JFrame) (mk : MethodId) (t : State) (L : List Loc) (E : String) (ce : Cell), B.U.heap = t.heap ∧ B.U.vm = t.vm ∧ XC E (A.U.calling g mk a) t ∧ t.heap[q]? = some ce ∧ ce.vm = .none ∧ A.U.vm.findClass E = some ce.cls ∧ B.locs = A.locs ++ L ∧ (∀ z ∈ L, free z.base) ∧ B.cells = A.cells + mc ∧ B.slots = A.slots + ms
def vx_Back (l : Launch) (R : Room) (p : Program) (e : Env) (below : List Frame) (s : State) (sargs : Array Value) (y : MethodName) (len W9 : Nat)
    (Pre : Pt → Array Value → Prop) (Post : Pt → Array Value → Option Value → Pt → Prop) (PostX : Pt → Array Value → Addr → Pt → Prop) : Prop :=
  ∀ (m : MethodId) (meth : Method) (c : Code) (A : Pt) (g : JFrame) (ig : Instr) (mk : MethodId) (a : Array Value),
    Stand p l e R s m sargs below meth c A.U A.locs A.cells A.slots → g.method = m → g.locals.size = c.maxLocals → decode c.code g.pc = .ok (ig, len) →
    2 * g.monitorRoom + (g.stack.map fun v => v.category).sum ≤ W9 → A.U.methodNamed? y = some mk → Pre A a →
    (∃ (v : Option Value) (B : Pt), Stand p l e R s m sargs below meth c B.U B.locs B.cells B.slots ∧ Post A a v B ∧
      Steps p.tables e below (doInvoke e (A.U.setTop g) [] mk a).1 (B.U.setTop { g with pc := g.pc + len, stack := v.toList ++ g.stack })) ∨
    (∃ (q : Addr) (B : Pt), Stand p l e R s m sargs below meth c B.U B.locs B.cells B.slots ∧ PostX A a q B ∧
      Steps p.tables e below (doInvoke e (A.U.setTop g) [] mk a).1 ((B.U.setTop g).pushFrame (.throwing q)))
section Payer
variable {l : Launch} {R : Room} {p : Program} {e : Env} {below : List Frame} {s : State} {sargs : Array Value} {y : MethodName} {len W9 : Nat}
theorem vx_back {ws : List Cond} {rm : Room} {Pc : Array Value → State → Prop} {Qc : Array Value → State → Outcome → State → Prop} {XC : String → State → State → Prop} {mc ms : Nat} {free : Addr → Prop} {bytes : ByteArray} {maxL : Nat} {ret : Option FieldType}
    (hM : vx_Met l y ws rm Pc Qc XC mc ms free) (hblind : FrameBlind Pc) (hrc : rm.cells = mc) (hrs : rm.slots = ms)
    (hframes : rm.frames + 1 ≤ R.frames) (hlocals : W9 + (maxL + 11) + rm.locals ≤ R.locals)
    (hws : ∀ w ∈ ws, ∀ a' U, s.WarmedH U.vm → w.before a' U = true) (hcode : Cond.code y bytes maxL ret ∈ ws) (hinit : ∀ a' U, s.WarmedH U.vm → (Cond.initialized y.cls).before a' U = true) :
    vx_Back l R p e below s sargs y len W9 (PreOf R mc ms Pc) (PostOf Qc mc ms free) (vx_Post XC mc ms free) := by
  intro m meth c A g ig mk a X hg hsize hdg hW hn hp
  have h1 : (headSpec ws rm).pre.before a A.U = true := atoms_intro fun w hw => hws w hw _ _ X.warmed
  have h2 : (Cond.code y bytes maxL ret).before a A.U = true := hws _ hcode _ _ X.warmed
  have h3 : (Cond.initialized y.cls).before a A.U = true := hinit _ _ X.warmed
  have h4 : A.cells + (headSpec ws rm).room.cells ≤ R.cells := by rw [show (headSpec ws rm).room.cells = mc from hrc]; exact hp.1
  have h5 : A.slots + (headSpec ws rm).room.slots ≤ R.slots := by rw [show (headSpec ws rm).room.slots = ms from hrs]; exact hp.2.1
  have hPc : Pc a (A.U.calling g mk a) := hblind _ _ _ _ hp.2.2
  obtain ⟨U, Ls, c0, s0⟩ := A
  dsimp only [Pt.U, Pt.locs, Pt.cells, Pt.slots] at h1 h2 h3 h4 h5 X hn hPc ⊢
  obtain ⟨methY, cY, hmY, hcY, -, hlY, -, -, -, -⟩ := Cond.code_spec hn h2
  obtain ⟨kY, hkY, -⟩ := className_of_methodNamed hn
  have hinitY : kY.init = .initialized := Cond.initialized_spec (findClass_of_methodNamed hn) hkY h3
  have h : At U g.method c below := by rw [hg]; exact X.here
  have hlocals9 : W9 + (maxL + 11) + (headSpec ws rm).room.locals ≤ R.locals := hlocals
  have happ : (headSpec ws rm).appliesLoose y e.platform (U.calling g mk a) = true :=
    Spec.appliesLoose_calling (g := g) h hdg hn hkY hinitY
      (X.room_calling (g := g) (R' := (headSpec ws rm).room) hsize hmY hcY hframes (by rw [hlY]; omega) h4 h5) h1
  obtain ⟨mid, hmid⟩ := h.above
  have hfr : (U.setTop g).frames = (.java g :: mid) ++ below := by rw [State.frames_setTop' g h.top, hmid]; rfl
  obtain ⟨o, s₂, hsteps, -, hend, hq⟩ := Steps.callFree hM p X.admits X.cas X.clock (acts := []) hfr happ hPc trivial
  have hq' : vx_Q Qc XC mc ms free a (U.calling g mk a) o s₂ := hq
  rw [State.frames_setTop' g h.top] at hend
  obtain ⟨g₀, hg0⟩ := Option.isSome_iff_exists.mp h.top
  obtain ⟨r, hr⟩ := State.topJava?_eq_some.mp hg0
  have hr' : (({ U with heap := s₂.heap, slotsUsed := s₂.slotsUsed } : State).setVm s₂.vm).frames = .java g₀ :: r := hr
  rcases hq' with ⟨hqc, L, hfe, hL⟩ | ⟨q, rfl, E, ce, L, hx, hce, hcv, hcl, hW₂, hsm, hL⟩
  · obtain ⟨⟨v, rfl⟩, hW₂, e2, q2, q3, q4, q5, q6⟩ := id hfe
    have e3 : s₂ = ({ (U.calling g mk a).setFrames s₂.frames with heap := s₂.heap, slotsUsed := s₂.slotsUsed } : State).setVm s₂.vm := by
      have : s₂ = ({ s₂ with vm := (U.calling g mk a).vm } : State).setVm s₂.vm := rfl
      rw [e2] at this
      exact this
    obtain ⟨c₂, i₂, len₂, hc₂, hd₂, hf₂⟩ := hend
    have hW' : U.WarmedH s₂.vm := hW₂
    have hcc : c₂ = c := by
      have h1 : s₂.code? g.method = U.code? g.method := by
        rw [State.code?_eq, State.code?_eq, hW'.alike.method?]
      exact Option.some.inj (hc₂.symm.trans (h1.trans h.code))
    subst hcc
    have hlen : len₂ = len := by rw [hdg] at hd₂; cases hd₂; rfl
    subst hlen
    have hs₂ : s₂ = (({ U with heap := s₂.heap, slotsUsed := s₂.slotsUsed } : State).setVm s₂.vm).setTop { g with pc := g.pc + len₂, stack := v.toList ++ g.stack } := by
      refine e3.trans ?_
      rw [hf₂, State.calling_eq h.top, State.setFrames_setFrames, State.setTop_of_frames _ hr', hr]
      rfl
    have hsame : U.sameButNew ({ U with heap := s₂.heap, slotsUsed := s₂.slotsUsed } : State) L mc ms := by
      refine ⟨?_, q2, q3, q4, q5, q6⟩
      obtain ⟨t, ht, -⟩ := State.frames_cons hr
      show ({ U with heap := s₂.heap, slotsUsed := s₂.slotsUsed } : State) = { U.setFrames U.frames with heap := s₂.heap, slotsUsed := s₂.slotsUsed }
      rw [State.setFrames_self ht]
    subst hg
    refine Or.inl ⟨v, ⟨(({ U with heap := s₂.heap, slotsUsed := s₂.slotsUsed } : State).setVm s₂.vm), Ls ++ L, c0 + mc, s0 + ms⟩,
      ⟨X.admits, X.cas, X.clock, X.frames, X.room, X.hears, X.method, X.code, (X.here.setHeapUsed s₂.heap s₂.slotsUsed).setVm hW'.alike, X.tail, State.WarmedH.trans X.warmed hW', X.limits, X.bytes, X.same.trans (hsame.setVm s.vm)⟩,
      ⟨g, mk, s₂, L, rfl, rfl, hqc, rfl, hL, rfl, rfl⟩, ?_⟩
    show Steps p.tables e below _ ((({ U with heap := s₂.heap, slotsUsed := s₂.slotsUsed } : State).setVm s₂.vm).setTop { g with pc := g.pc + len₂, stack := v.toList ++ g.stack })
    rw [← hs₂]
    exact hsteps
  · obtain ⟨e2, q2, q3, q4, q5, q6⟩ := id hsm
    have e3 : s₂ = ({ (U.calling g mk a).setFrames s₂.frames with heap := s₂.heap, slotsUsed := s₂.slotsUsed } : State).setVm s₂.vm := by
      have : s₂ = ({ s₂ with vm := (U.calling g mk a).vm } : State).setVm s₂.vm := rfl
      rw [e2] at this
      exact this
    have hf₂ : s₂.frames = .throwing q :: .java g :: U.frames.tail := hend
    have hW' : U.WarmedH s₂.vm := hW₂
    have hs₂ : s₂ = ((({ U with heap := s₂.heap, slotsUsed := s₂.slotsUsed } : State).setVm s₂.vm).setTop g).pushFrame (.throwing q) := by
      refine e3.trans ?_
      rw [hf₂, State.calling_eq h.top, State.setFrames_setFrames, State.pushFrame, State.frames_setTop _ hr', State.setTop_of_frames _ hr', State.setFrames_setFrames, hr]
      rfl
    have hsame : U.sameButNew ({ U with heap := s₂.heap, slotsUsed := s₂.slotsUsed } : State) L mc ms := by
      refine ⟨?_, q2, q3, q4, q5, q6⟩
      obtain ⟨t, ht, -⟩ := State.frames_cons hr
      show ({ U with heap := s₂.heap, slotsUsed := s₂.slotsUsed } : State) = { U.setFrames U.frames with heap := s₂.heap, slotsUsed := s₂.slotsUsed }
      rw [State.setFrames_self ht]
    subst hg
    refine Or.inr ⟨q, ⟨(({ U with heap := s₂.heap, slotsUsed := s₂.slotsUsed } : State).setVm s₂.vm), Ls ++ L, c0 + mc, s0 + ms⟩,
      ⟨X.admits, X.cas, X.clock, X.frames, X.room, X.hears, X.method, X.code, (X.here.setHeapUsed s₂.heap s₂.slotsUsed).setVm hW'.alike, X.tail, State.WarmedH.trans X.warmed hW', X.limits, X.bytes, X.same.trans (hsame.setVm s.vm)⟩,
      ⟨g, mk, s₂, L, E, ce, rfl, rfl, hx, hce, hcv, hcl, rfl, hL, rfl, rfl⟩, ?_⟩
    show Steps p.tables e below _ (((({ U with heap := s₂.heap, slotsUsed := s₂.slotsUsed } : State).setVm s₂.vm).setTop g).pushFrame (.throwing q))
    rw [← hs₂]
    exact hsteps
end Payer
section Calls
variable {p : Program} {l : Launch} {e : Env} {R : Room} {s : State} {m : MethodId} {args : Array Value} {below : List Frame} {meth : Method} {c : Code} {T : State} {locs : List Loc} {cells slots : Nat}
theorem vx_callV (X : Stand p l e R s m args below meth c T locs cells slots) (hexec : p.tables.exec = Jvm.exec) {own C : String} {index : Nat} {y : MethodName} {bytes : ByteArray} {maxL : Nat} {ret : Option FieldType}
    (hown : s.vm.findClass own = some m.cls) (hlink : (Cond.methodLink own index y).before args s = true) (hinst : (Cond.instanceMethod y).before args s = true) (hsel : (Cond.selects C y y).before args s = true)
    (hcode : (Cond.code y bytes maxL ret).before args s = true) (hy : y.cls ≠ "java/lang/invoke/MethodHandle" ∧ y.cls ≠ "java/lang/invoke/VarHandle")
    {W9 : Nat} {Pre : Pt → Array Value → Prop} {Post : Pt → Array Value → Option Value → Pt → Prop} {PostX : Pt → Array Value → Addr → Pt → Prop} (hK : vx_Back l R p e below s args y 3 W9 Pre Post PostX)
    {b : Addr} {cellB : Cell} (hcell : T.heap[b]? = some cellB) (hobj : cellB.vm.isStatics = false) (hcls : s.vm.findClass C = some cellB.cls)
    {g : JFrame} (hg : g.method = m) (hsize : g.locals.size = c.maxLocals) {argsL rest : List Value} (hlen : ∀ sig, parseMethodDescriptor y.desc = some sig → argsL.length = sig.parameters.length)
    (hstack : g.stack = argsL.reverse ++ .ref b :: rest) (hW : 2 * g.monitorRoom + (rest.map fun v => v.category).sum ≤ W9) (hdg : decode c.code g.pc = .ok (.invokevirtual index, 3))
    (hpre : ∀ vm₁, s.WarmedH vm₁ → Pre ⟨T.setVm vm₁, locs, cells, slots⟩ (Value.ref b :: argsL).toArray) :
    (∃ (v : Option Value) (vm₁ : Vm) (B : Pt), s.WarmedH vm₁ ∧ Stand p l e R s m args below meth c B.U B.locs B.cells B.slots ∧ Post ⟨T.setVm vm₁, locs, cells, slots⟩ (Value.ref b :: argsL).toArray v B ∧
      ∀ target, Steps p.tables e below (B.U.setTop { g with pc := g.pc + 3, stack := v.toList ++ rest }) target → Steps p.tables e below (T.setTop g) target) ∨
    (∃ (q : Addr) (vm₁ : Vm) (B : Pt), s.WarmedH vm₁ ∧ Stand p l e R s m args below meth c B.U B.locs B.cells B.slots ∧ PostX ⟨T.setVm vm₁, locs, cells, slots⟩ (Value.ref b :: argsL).toArray q B ∧
      Steps p.tables e below (T.setTop g) ((B.U.setTop { g with stack := rest }).pushFrame (.throwing q))) := by
  obtain ⟨mk, methM, hnamed, hmethM, hstM, habM⟩ := Cond.instanceMethod_spec hinst
  obtain ⟨methM', cM, hmethM', -, -, -, -, -, -, hsigM⟩ := Cond.code_spec hnamed hcode
  cases hmethM.symm.trans hmethM'
  obtain ⟨c2, r2, m2, q1, q2, q3, q4, kP, hkP, hkPi⟩ := Cond.selects_spec hsel
  cases hcls.symm.trans q1
  cases (State.methodFound?_of_named hnamed hy).symm.trans q2
  cases hnamed.symm.trans q3
  have hselP : selectMethod e.platform s.vm cellB.cls mk = .method mk := by rw [Launch.admits_selectMethod X.admits]; exact q4
  obtain ⟨vm₁, X₁, hstep₁⟩ := X.invokevirtual hexec hown hlink hnamed hmethM hstM hkP hkPi hy (a := b) (cell := cellB) hcell
    (fun z h => by rw [h] at hobj; cases hobj) hselP hmethM habM hkP hkPi (g := g) hg (argsL := argsL) (rest := rest) (hlen _ hsigM) hstack hdg
  rcases hK m meth c ⟨T.setVm vm₁, locs, cells, slots⟩ { g with stack := rest } (.invokevirtual index) mk (Value.ref b :: argsL).toArray X₁ hg hsize hdg hW (X₁.named hnamed) (hpre vm₁ X₁.warmed) with ⟨v, B, X', hpost, hsteps⟩ | ⟨q, B, X', hpost, hsteps⟩
  · exact Or.inl ⟨v, vm₁, B, X₁.warmed, X', hpost, fun target h => hstep₁ _ fun acts => by rw [doInvoke_state]; exact hsteps.trans h⟩
  · exact Or.inr ⟨q, vm₁, B, X₁.warmed, X', hpost, hstep₁ _ fun acts => by rw [doInvoke_state]; exact hsteps⟩
theorem vx_callS (X : Stand p l e R s m args below meth c T locs cells slots) (hexec : p.tables.exec = Jvm.exec) {own : String} {index : Nat} {y : MethodName} {bytes : ByteArray} {maxL : Nat} {ret : Option FieldType}
    (hown : s.vm.findClass own = some m.cls) (hlink : (Cond.methodLink own index y).before args s = true) (hstat : (Cond.static y).before args s = true) (hinit : (Cond.initialized y.cls).before args s = true)
    (hcode : (Cond.code y bytes maxL ret).before args s = true) (hy : y.cls ≠ "java/lang/invoke/MethodHandle" ∧ y.cls ≠ "java/lang/invoke/VarHandle")
    {W9 : Nat} {Pre : Pt → Array Value → Prop} {Post : Pt → Array Value → Option Value → Pt → Prop} {PostX : Pt → Array Value → Addr → Pt → Prop} (hK : vx_Back l R p e below s args y 3 W9 Pre Post PostX)
    {g : JFrame} (hg : g.method = m) (hsize : g.locals.size = c.maxLocals) {argsL rest : List Value} (hlen : ∀ sig, parseMethodDescriptor y.desc = some sig → argsL.length = sig.parameters.length)
    (hstack : g.stack = argsL.reverse ++ rest) (hW : 2 * g.monitorRoom + (rest.map fun v => v.category).sum ≤ W9) (hdg : decode c.code g.pc = .ok (.invokestatic index, 3))
    (hpre : ∀ vm₁, s.WarmedH vm₁ → Pre ⟨T.setVm vm₁, locs, cells, slots⟩ argsL.toArray) :
    (∃ (v : Option Value) (vm₁ : Vm) (B : Pt), s.WarmedH vm₁ ∧ Stand p l e R s m args below meth c B.U B.locs B.cells B.slots ∧ Post ⟨T.setVm vm₁, locs, cells, slots⟩ argsL.toArray v B ∧
      ∀ target, Steps p.tables e below (B.U.setTop { g with pc := g.pc + 3, stack := v.toList ++ rest }) target → Steps p.tables e below (T.setTop g) target) ∨
    (∃ (q : Addr) (vm₁ : Vm) (B : Pt), s.WarmedH vm₁ ∧ Stand p l e R s m args below meth c B.U B.locs B.cells B.slots ∧ PostX ⟨T.setVm vm₁, locs, cells, slots⟩ argsL.toArray q B ∧
      Steps p.tables e below (T.setTop g) ((B.U.setTop { g with stack := rest }).pushFrame (.throwing q))) := by
  obtain ⟨mk, hnamed⟩ := Cond.code_named hcode
  obtain ⟨methM, cM, hmethM, -, -, -, -, -, -, hsigM⟩ := Cond.code_spec hnamed hcode
  have hstatic : methM.isStatic = true := Cond.static_spec hnamed hmethM hstat
  obtain ⟨kP, hkP, -⟩ := className_of_methodNamed hnamed
  have hinitP : kP.init = .initialized := Cond.initialized_spec (findClass_of_methodNamed hnamed) hkP hinit
  obtain ⟨vm₁, X₁, hstep₁⟩ := X.invokestatic hexec hown hlink hnamed hmethM hstatic hkP hinitP hy (g := g) hg (argsL := argsL) (rest := rest) (hlen _ hsigM) hstack hdg
  rcases hK m meth c ⟨T.setVm vm₁, locs, cells, slots⟩ { g with stack := rest } (.invokestatic index) mk argsL.toArray X₁ hg hsize hdg hW (X₁.named hnamed) (hpre vm₁ X₁.warmed) with ⟨v, B, X', hpost, hsteps⟩ | ⟨q, B, X', hpost, hsteps⟩
  · exact Or.inl ⟨v, vm₁, B, X₁.warmed, X', hpost, fun target h => hstep₁ _ fun acts => by rw [doInvoke_state]; exact hsteps.trans h⟩
  · exact Or.inr ⟨q, vm₁, B, X₁.warmed, X', hpost, hstep₁ _ fun acts => by rw [doInvoke_state]; exact hsteps⟩
end Calls
theorem vx_cls {s : State} {T : State} {vm₁ : Vm} {E : String} {k : ClassId} (hW : s.WarmedH vm₁) (h : (T.setVm vm₁).vm.findClass E = some k) : s.vm.findClass E = some k := by
  have h1 : vm₁.findClass E = some k := h
  rw [hW.alike.findClass] at h1
  exact h1
/-- the method's frame g, with q thrown over it -/
def vx_W (p : Program) (l : Launch) (e : Env) (R : Room) (s : State) (m : MethodId) (args : Array Value) (below : List Frame) (meth : Method) (c : Code) (H : Heap) (locs : List Loc) (cells slots : Nat) (Q : State → Prop) (g : JFrame) (q : Addr) : Prop :=
  ∀ T : State, T.heap = H → Stand p l e R s m args below meth c T locs cells slots → ∃ t, Steps p.tables e below ((T.setTop g).pushFrame (.throwing q)) t ∧ Q t
def vx_Run (p : Program) (l : Launch) (e : Env) (R : Room) (s : State) (m : MethodId) (args : Array Value) (below : List Frame) (meth : Method) (c : Code) (H : Heap) (locs : List Loc) (cells slots mc ms : Nat) (g : JFrame) (rest : List Value) (Qa : State → Outcome → State → Prop) (XC : String → State → State → Prop) (free : Addr → Prop) : Prop :=
  ∀ T : State, T.heap = H → Stand p l e R s m args below meth c T locs cells slots →
    (∃ (v : Option Value) (st₀ t T' : State) (L : List Loc), st₀.heap = H ∧ Stand p l e R s m args below meth c T' (locs ++ L) (cells + mc) (slots + ms) ∧ (∀ q ∈ L, free q.base) ∧ T'.heap = t.heap ∧ T'.vm = t.vm ∧ Qa st₀ (.returned v) t ∧
      Goes p e below T g T' { g with pc := g.pc + 3, stack := v.toList ++ rest }) ∨
    (∃ (q : Addr) (st₀ t T' : State) (L : List Loc) (E : String) (ce : Cell), st₀.heap = H ∧ Stand p l e R s m args below meth c T' (locs ++ L) (cells + mc) (slots + ms) ∧ (∀ z ∈ L, free z.base) ∧ T'.heap = t.heap ∧ T'.vm = t.vm ∧ XC E st₀ t ∧ t.heap[q]? = some ce ∧ ce.vm = .none ∧ s.vm.findClass E = some ce.cls ∧
      Steps p.tables e below (T.setTop g) ((T'.setTop { g with stack := rest }).pushFrame (.throwing q)))
def vx_X {S : Type} (px : S → Prop) (B : String → S → State → Prop) (A : Nat → Prop) : String → State → State → Prop := fun E st t => ∃ u : S, px u ∧ B E u t ∧ va_F A st t
section Runs
variable {p : Program} {l : Launch} {e : Env} {R : Room} {s : State} {m : MethodId} {args : Array Value} {below : List Frame} {meth : Method} {c : Code} {H : Heap} {locs : List Loc} {cells slots : Nat}
variable {y : MethodName} {bytes cc : ByteArray} {maxL nL mc ms n index : Nat} {ret : Option FieldType} {ws : List Cond} {rm : Room} {Pc : Array Value → State → Prop} {Qc : Array Value → State → Outcome → State → Prop} {XC : String → State → State → Prop} {free : Addr → Prop} {Ts : List Cond} {own C : String} {b : Addr} {As rest : List Value} {g : JFrame}
theorem vx_callBack (cb : CallB R s args own index y bytes maxL ret ws rm mc ms n) (hM : vx_Met l y ws rm Pc Qc XC mc ms free) (hbl : FrameBlind Pc) : vx_Back l R p e below s args y 3 8 (PreOf R mc ms Pc) (PostOf Qc mc ms free) (vx_Post XC mc ms free) := by
  obtain ⟨hrc, hrs, hfr, hlo, hws, hcw, -, hini, -⟩ := cb
  exact vx_back (bytes := bytes) (maxL := maxL) (ret := ret) hM hbl hrc hrs hfr hlo hws hcw (fun a' U hW => word_at hW (Or.inl (by first | rfl | simp [Cond.onTables, Cond.keeps, Cond.steady])) hini)
theorem vx_runV (S : CallFix p m c cc nL s args Ts own) (hM : vx_Met l y ws rm Pc Qc XC mc ms free) (cw : CallW R s args own C index y bytes maxL ret ws rm mc ms n) (hp : PreV s H C b Pc As)
    (hg : g.method = m) (hn : As.length = n) (hsize : g.locals.size = nL) (hstack : g.stack = As.reverse ++ .ref b :: rest) (hW : 2 * g.monitorRoom + (rest.map fun v => v.category).sum ≤ 8) (hdg : decode cc g.pc = .ok (.invokevirtual index, 3)) (hf : cells + mc ≤ R.cells ∧ slots + ms ≤ R.slots) :
    vx_Run p l e R s m args below meth c H locs cells slots mc ms g rest (Qc (Value.ref b :: As).toArray) XC free := by
  have hK : vx_Back l R p e below s args y 3 8 (PreOf R mc ms Pc) (PostOf Qc mc ms free) (vx_Post XC mc ms free) := vx_callBack cw.1 hM hp.1
  obtain ⟨⟨-, -, -, -, -, -, hcode, -, hy, hlen, hl⟩, hin, hse⟩ := cw
  obtain ⟨hx, hb, hml, ho, -⟩ := S
  obtain ⟨-, ⟨cellB, hcB, hoB, hclB⟩, hPc⟩ := hp
  intro T hT X
  rcases vx_callV X hx (C := C) (bytes := bytes) (maxL := maxL) (ret := ret) ho hl hin hse hcode hy hK (by rw [hT]; exact hcB) hoB hclB hg (hsize.trans hml.symm) (argsL := As) (rest := rest) (fun sig h => hn.trans (hlen sig h)) hstack hW (by rw [hb]; exact hdg)
    (fun vm₁ hW₁ => ⟨hf.1, hf.2, hPc (T.setVm vm₁) hT hW₁⟩) with ⟨v, vm₁, ⟨U', l2, c2, s2⟩, hW₁, X', ⟨g', mk, t, L, e1, e2, hq, h1, hL, h2, h3⟩, st⟩ | ⟨q, vm₁, ⟨U', l2, c2, s2⟩, hW₁, X', ⟨g', mk, t, L, E, ce, e1, e2, hq, hce, hcv, hcl, h1, hL, h2, h3⟩, st⟩
  · dsimp only [Pt.U, Pt.locs, Pt.cells, Pt.slots] at X' e1 e2 h1 h2 h3 st
    subst h1; subst h2; subst h3
    exact Or.inl ⟨v, (T.setVm vm₁).calling g' mk (Value.ref b :: As).toArray, t, U', L, hT, X', hL, e1, e2, hq, st⟩
  · dsimp only [Pt.U, Pt.locs, Pt.cells, Pt.slots] at X' e1 e2 h1 h2 h3 st hcl
    subst h1; subst h2; subst h3
    exact Or.inr ⟨q, (T.setVm vm₁).calling g' mk (Value.ref b :: As).toArray, t, U', L, E, ce, hT, X', hL, e1, e2, hq, hce, hcv, vx_cls hW₁ hcl, st⟩
theorem vx_runS (S : CallFix p m c cc nL s args Ts own) (hM : vx_Met l y ws rm Pc Qc XC mc ms free) (cw : CallB R s args own index y bytes maxL ret ws rm mc ms n ∧ (Cond.static y).before args s = true) (hp : PreS s H Pc As)
    (hg : g.method = m) (hn : As.length = n) (hsize : g.locals.size = nL) (hstack : g.stack = As.reverse ++ rest) (hW : 2 * g.monitorRoom + (rest.map fun v => v.category).sum ≤ 8) (hdg : decode cc g.pc = .ok (.invokestatic index, 3)) (hf : cells + mc ≤ R.cells ∧ slots + ms ≤ R.slots) :
    vx_Run p l e R s m args below meth c H locs cells slots mc ms g rest (Qc As.toArray) XC free := by
  have hK : vx_Back l R p e below s args y 3 8 (PreOf R mc ms Pc) (PostOf Qc mc ms free) (vx_Post XC mc ms free) := vx_callBack cw.1 hM hp.1
  obtain ⟨⟨-, -, -, -, -, -, hcode, hini, hy, hlen, hl⟩, hstt⟩ := cw
  obtain ⟨hx, hb, hml, ho, -⟩ := S
  intro T hT X
  rcases vx_callS X hx (bytes := bytes) (maxL := maxL) (ret := ret) ho hl hstt hini hcode hy hK hg (hsize.trans hml.symm) (argsL := As) (rest := rest) (fun sig h => hn.trans (hlen sig h)) hstack hW (by rw [hb]; exact hdg)
    (fun vm₁ hW₁ => ⟨hf.1, hf.2, hp.2 (T.setVm vm₁) hT hW₁⟩) with ⟨v, vm₁, ⟨U', l2, c2, s2⟩, hW₁, X', ⟨g', mk, t, L, e1, e2, hq, h1, hL, h2, h3⟩, st⟩ | ⟨q, vm₁, ⟨U', l2, c2, s2⟩, hW₁, X', ⟨g', mk, t, L, E, ce, e1, e2, hq, hce, hcv, hcl, h1, hL, h2, h3⟩, st⟩
  · dsimp only [Pt.U, Pt.locs, Pt.cells, Pt.slots] at X' e1 e2 h1 h2 h3 st
    subst h1; subst h2; subst h3
    exact Or.inl ⟨v, (T.setVm vm₁).calling g' mk As.toArray, t, U', L, hT, X', hL, e1, e2, hq, st⟩
  · dsimp only [Pt.U, Pt.locs, Pt.cells, Pt.slots] at X' e1 e2 h1 h2 h3 st hcl
    subst h1; subst h2; subst h3
    exact Or.inr ⟨q, (T.setVm vm₁).calling g' mk As.toArray, t, U', L, E, ce, hT, X', hL, e1, e2, hq, hce, hcv, vx_cls hW₁ hcl, st⟩
end Runs
section Rows
variable {p : Program} {l : Launch} {e : Env} {R : Room} {s : State} {m : MethodId} {args : Array Value} {below : List Frame} {meth : Method} {c : Code} {H : Heap} {locs : List Loc} {cells slots : Nat} {Q : State → Prop}
variable {mc ms : Nat} {free : Addr → Prop} {A0 A1 : Nat → Prop} {H0 : Heap} {a : Array Value} {pc : Nat} {ls : Array Slot} {st0 rest : List Value}
theorem vx_keep {st₀ t T' : State} {L : List Loc} (h0 : st₀.heap = H) (e1 : T'.heap = t.heap) (hS : va_S A0 H0 H locs) (hA : ∀ q, q < H.size → A1 q → A0 q) (hf : ∀ q, free q → A0 q) (hL : ∀ q ∈ L, free q.base) (hF : va_F A1 st₀ t) :
    H.size ≤ T'.heap.size ∧ (∀ q : Nat, q < H.size → ¬ A1 q → T'.heap[q]? = H[q]?) ∧ va_S A0 H0 T'.heap (locs ++ L) := by
  obtain ⟨hz, hk⟩ := hF
  rw [h0] at hz hk
  exact ⟨by rw [e1]; exact hz, fun q h1 h2 => by rw [e1]; exact hk q h1 h2,
    ⟨Nat.le_trans hS.1 (by rw [e1]; exact hz), fun q h1 h2 => by rw [e1, hk q (Nat.lt_of_lt_of_le h1 hS.1) (fun z => h2 (hA q (Nat.lt_of_lt_of_le h1 hS.1) z))]; exact hS.2.1 q h1 h2, fun q hq => by
      rcases List.mem_append.mp hq with h | h
      · exact hS.2.2 q h
      · exact hf _ (hL q h)⟩⟩
theorem vx_calli {S SX : Type} {post : Int32 → S → Prop} {px : SX → Prop} {B : S → State → Prop} {BX : String → SX → State → Prop} {AX : Nat → Prop} (hr : vx_Run p l e R s m args below meth c H locs cells slots mc ms (F0 m pc ls st0) rest (va_Qi post B A1 a) (vx_X px BX AX) free) (hS : va_S A0 H0 H locs) (hA : ∀ q, q < H.size → A1 q → A0 q) (hf : ∀ q, free q → A0 q) (hAX : ∀ q, q < H.size → AX q → A0 q)
    (kx : ∀ (E : String) (ce : Cell) (q9 : Addr) (u : SX) (t : State) (H1 : Heap) (locs1 : List Loc), t.heap = H1 → s.vm.Alike t.vm → px u → BX E u t → H.size ≤ H1.size → (∀ q : Nat, q < H.size → ¬ AX q → H1[q]? = H[q]?) → va_S A0 H0 H1 locs1 → H1[q9]? = some ce → ce.vm = .none → s.vm.findClass E = some ce.cls → vx_W p l e R s m args below meth c H1 locs1 (cells + mc) (slots + ms) Q (F0 m pc ls rest) q9)
    (kk : ∀ (r : Int32) (u : S) (t : State) (H1 : Heap) (locs1 : List Loc), t.heap = H1 → s.vm.Alike t.vm → post r u → B u t → H.size ≤ H1.size → (∀ q : Nat, q < H.size → ¬ A1 q → H1[q]? = H[q]?) → va_S A0 H0 H1 locs1 → W p l e R s m args below meth c H1 locs1 (cells + mc) (slots + ms) Q (F0 m (pc + 3) ls (.int r :: rest))) : W p l e R s m args below meth c H locs cells slots Q (F0 m pc ls st0) := by
  intro T hT X
  rcases hr T hT X with ⟨v, st₀, t, T', L, h0, X', hL, e1, e2, ⟨⟨r, u, hv, hp, hb⟩, hF⟩, st⟩ | ⟨q, st₀, t, T', L, E, ce, h0, X', hL, e1, e2, ⟨u, hp, hb, hF⟩, hce, hcv, hcl, st⟩
  · cases hv
    obtain ⟨k1, k2, k3⟩ := vx_keep h0 e1 hS hA hf hL hF
    obtain ⟨t2, a1, b1⟩ := kk r u t T'.heap (locs ++ L) e1.symm (by rw [← e2]; exact X'.warmed.alike) hp hb k1 k2 k3 T' rfl X'
    exact ⟨t2, st t2 a1, b1⟩
  · obtain ⟨k1, k2, k3⟩ := vx_keep h0 e1 hS hAX hf hL hF
    obtain ⟨t2, a1, b1⟩ := kx E ce q u t T'.heap (locs ++ L) e1.symm (by rw [← e2]; exact X'.warmed.alike) hp hb k1 k2 k3 (by rw [e1]; exact hce) hcv hcl T' rfl X'
    exact ⟨t2, st.trans a1, b1⟩
theorem vx_calll {S SX : Type} {post : Int64 → S → Prop} {px : SX → Prop} {B : S → State → Prop} {BX : String → SX → State → Prop} {AX : Nat → Prop} (hr : vx_Run p l e R s m args below meth c H locs cells slots mc ms (F0 m pc ls st0) rest (va_Ql post B A1 a) (vx_X px BX AX) free) (hS : va_S A0 H0 H locs) (hA : ∀ q, q < H.size → A1 q → A0 q) (hf : ∀ q, free q → A0 q) (hAX : ∀ q, q < H.size → AX q → A0 q)
    (kx : ∀ (E : String) (ce : Cell) (q9 : Addr) (u : SX) (t : State) (H1 : Heap) (locs1 : List Loc), t.heap = H1 → s.vm.Alike t.vm → px u → BX E u t → H.size ≤ H1.size → (∀ q : Nat, q < H.size → ¬ AX q → H1[q]? = H[q]?) → va_S A0 H0 H1 locs1 → H1[q9]? = some ce → ce.vm = .none → s.vm.findClass E = some ce.cls → vx_W p l e R s m args below meth c H1 locs1 (cells + mc) (slots + ms) Q (F0 m pc ls rest) q9)
    (kk : ∀ (r : Int64) (u : S) (t : State) (H1 : Heap) (locs1 : List Loc), t.heap = H1 → s.vm.Alike t.vm → post r u → B u t → H.size ≤ H1.size → (∀ q : Nat, q < H.size → ¬ A1 q → H1[q]? = H[q]?) → va_S A0 H0 H1 locs1 → W p l e R s m args below meth c H1 locs1 (cells + mc) (slots + ms) Q (F0 m (pc + 3) ls (.long r :: rest))) : W p l e R s m args below meth c H locs cells slots Q (F0 m pc ls st0) := by
  intro T hT X
  rcases hr T hT X with ⟨v, st₀, t, T', L, h0, X', hL, e1, e2, ⟨⟨r, u, hv, hp, hb⟩, hF⟩, st⟩ | ⟨q, st₀, t, T', L, E, ce, h0, X', hL, e1, e2, ⟨u, hp, hb, hF⟩, hce, hcv, hcl, st⟩
  · cases hv
    obtain ⟨k1, k2, k3⟩ := vx_keep h0 e1 hS hA hf hL hF
    obtain ⟨t2, a1, b1⟩ := kk r u t T'.heap (locs ++ L) e1.symm (by rw [← e2]; exact X'.warmed.alike) hp hb k1 k2 k3 T' rfl X'
    exact ⟨t2, st t2 a1, b1⟩
  · obtain ⟨k1, k2, k3⟩ := vx_keep h0 e1 hS hAX hf hL hF
    obtain ⟨t2, a1, b1⟩ := kx E ce q u t T'.heap (locs ++ L) e1.symm (by rw [← e2]; exact X'.warmed.alike) hp hb k1 k2 k3 (by rw [e1]; exact hce) hcv hcl T' rfl X'
    exact ⟨t2, st.trans a1, b1⟩
theorem vx_callf {S SX : Type} {post : UInt32 → S → Prop} {px : SX → Prop} {B : S → State → Prop} {BX : String → SX → State → Prop} {AX : Nat → Prop} (hr : vx_Run p l e R s m args below meth c H locs cells slots mc ms (F0 m pc ls st0) rest (va_Qf post B A1 a) (vx_X px BX AX) free) (hS : va_S A0 H0 H locs) (hA : ∀ q, q < H.size → A1 q → A0 q) (hf : ∀ q, free q → A0 q) (hAX : ∀ q, q < H.size → AX q → A0 q)
    (kx : ∀ (E : String) (ce : Cell) (q9 : Addr) (u : SX) (t : State) (H1 : Heap) (locs1 : List Loc), t.heap = H1 → s.vm.Alike t.vm → px u → BX E u t → H.size ≤ H1.size → (∀ q : Nat, q < H.size → ¬ AX q → H1[q]? = H[q]?) → va_S A0 H0 H1 locs1 → H1[q9]? = some ce → ce.vm = .none → s.vm.findClass E = some ce.cls → vx_W p l e R s m args below meth c H1 locs1 (cells + mc) (slots + ms) Q (F0 m pc ls rest) q9)
    (kk : ∀ (r : UInt32) (u : S) (t : State) (H1 : Heap) (locs1 : List Loc), t.heap = H1 → s.vm.Alike t.vm → post r u → B u t → H.size ≤ H1.size → (∀ q : Nat, q < H.size → ¬ A1 q → H1[q]? = H[q]?) → va_S A0 H0 H1 locs1 → W p l e R s m args below meth c H1 locs1 (cells + mc) (slots + ms) Q (F0 m (pc + 3) ls (.float r :: rest))) : W p l e R s m args below meth c H locs cells slots Q (F0 m pc ls st0) := by
  intro T hT X
  rcases hr T hT X with ⟨v, st₀, t, T', L, h0, X', hL, e1, e2, ⟨⟨r, u, hv, hp, hb⟩, hF⟩, st⟩ | ⟨q, st₀, t, T', L, E, ce, h0, X', hL, e1, e2, ⟨u, hp, hb, hF⟩, hce, hcv, hcl, st⟩
  · cases hv
    obtain ⟨k1, k2, k3⟩ := vx_keep h0 e1 hS hA hf hL hF
    obtain ⟨t2, a1, b1⟩ := kk r u t T'.heap (locs ++ L) e1.symm (by rw [← e2]; exact X'.warmed.alike) hp hb k1 k2 k3 T' rfl X'
    exact ⟨t2, st t2 a1, b1⟩
  · obtain ⟨k1, k2, k3⟩ := vx_keep h0 e1 hS hAX hf hL hF
    obtain ⟨t2, a1, b1⟩ := kx E ce q u t T'.heap (locs ++ L) e1.symm (by rw [← e2]; exact X'.warmed.alike) hp hb k1 k2 k3 (by rw [e1]; exact hce) hcv hcl T' rfl X'
    exact ⟨t2, st.trans a1, b1⟩
theorem vx_calld {S SX : Type} {post : UInt64 → S → Prop} {px : SX → Prop} {B : S → State → Prop} {BX : String → SX → State → Prop} {AX : Nat → Prop} (hr : vx_Run p l e R s m args below meth c H locs cells slots mc ms (F0 m pc ls st0) rest (va_Qd post B A1 a) (vx_X px BX AX) free) (hS : va_S A0 H0 H locs) (hA : ∀ q, q < H.size → A1 q → A0 q) (hf : ∀ q, free q → A0 q) (hAX : ∀ q, q < H.size → AX q → A0 q)
    (kx : ∀ (E : String) (ce : Cell) (q9 : Addr) (u : SX) (t : State) (H1 : Heap) (locs1 : List Loc), t.heap = H1 → s.vm.Alike t.vm → px u → BX E u t → H.size ≤ H1.size → (∀ q : Nat, q < H.size → ¬ AX q → H1[q]? = H[q]?) → va_S A0 H0 H1 locs1 → H1[q9]? = some ce → ce.vm = .none → s.vm.findClass E = some ce.cls → vx_W p l e R s m args below meth c H1 locs1 (cells + mc) (slots + ms) Q (F0 m pc ls rest) q9)
    (kk : ∀ (r : UInt64) (u : S) (t : State) (H1 : Heap) (locs1 : List Loc), t.heap = H1 → s.vm.Alike t.vm → post r u → B u t → H.size ≤ H1.size → (∀ q : Nat, q < H.size → ¬ A1 q → H1[q]? = H[q]?) → va_S A0 H0 H1 locs1 → W p l e R s m args below meth c H1 locs1 (cells + mc) (slots + ms) Q (F0 m (pc + 3) ls (.double r :: rest))) : W p l e R s m args below meth c H locs cells slots Q (F0 m pc ls st0) := by
  intro T hT X
  rcases hr T hT X with ⟨v, st₀, t, T', L, h0, X', hL, e1, e2, ⟨⟨r, u, hv, hp, hb⟩, hF⟩, st⟩ | ⟨q, st₀, t, T', L, E, ce, h0, X', hL, e1, e2, ⟨u, hp, hb, hF⟩, hce, hcv, hcl, st⟩
  · cases hv
    obtain ⟨k1, k2, k3⟩ := vx_keep h0 e1 hS hA hf hL hF
    obtain ⟨t2, a1, b1⟩ := kk r u t T'.heap (locs ++ L) e1.symm (by rw [← e2]; exact X'.warmed.alike) hp hb k1 k2 k3 T' rfl X'
    exact ⟨t2, st t2 a1, b1⟩
  · obtain ⟨k1, k2, k3⟩ := vx_keep h0 e1 hS hAX hf hL hF
    obtain ⟨t2, a1, b1⟩ := kx E ce q u t T'.heap (locs ++ L) e1.symm (by rw [← e2]; exact X'.warmed.alike) hp hb k1 k2 k3 (by rw [e1]; exact hce) hcv hcl T' rfl X'
    exact ⟨t2, st.trans a1, b1⟩
theorem vx_callv {S SX : Type} {post : S → Prop} {px : SX → Prop} {B : S → State → Prop} {BX : String → SX → State → Prop} {AX : Nat → Prop} (hr : vx_Run p l e R s m args below meth c H locs cells slots mc ms (F0 m pc ls st0) rest (va_Qv post B A1 a) (vx_X px BX AX) free) (hS : va_S A0 H0 H locs) (hA : ∀ q, q < H.size → A1 q → A0 q) (hf : ∀ q, free q → A0 q) (hAX : ∀ q, q < H.size → AX q → A0 q)
    (kx : ∀ (E : String) (ce : Cell) (q9 : Addr) (u : SX) (t : State) (H1 : Heap) (locs1 : List Loc), t.heap = H1 → s.vm.Alike t.vm → px u → BX E u t → H.size ≤ H1.size → (∀ q : Nat, q < H.size → ¬ AX q → H1[q]? = H[q]?) → va_S A0 H0 H1 locs1 → H1[q9]? = some ce → ce.vm = .none → s.vm.findClass E = some ce.cls → vx_W p l e R s m args below meth c H1 locs1 (cells + mc) (slots + ms) Q (F0 m pc ls rest) q9)
    (kk : ∀ (u : S) (t : State) (H1 : Heap) (locs1 : List Loc), t.heap = H1 → s.vm.Alike t.vm → post u → B u t → H.size ≤ H1.size → (∀ q : Nat, q < H.size → ¬ A1 q → H1[q]? = H[q]?) → va_S A0 H0 H1 locs1 → W p l e R s m args below meth c H1 locs1 (cells + mc) (slots + ms) Q (F0 m (pc + 3) ls (rest))) : W p l e R s m args below meth c H locs cells slots Q (F0 m pc ls st0) := by
  intro T hT X
  rcases hr T hT X with ⟨v, st₀, t, T', L, h0, X', hL, e1, e2, ⟨⟨u, hv, hp, hb⟩, hF⟩, st⟩ | ⟨q, st₀, t, T', L, E, ce, h0, X', hL, e1, e2, ⟨u, hp, hb, hF⟩, hce, hcv, hcl, st⟩
  · cases hv
    obtain ⟨k1, k2, k3⟩ := vx_keep h0 e1 hS hA hf hL hF
    obtain ⟨t2, a1, b1⟩ := kk u t T'.heap (locs ++ L) e1.symm (by rw [← e2]; exact X'.warmed.alike) hp hb k1 k2 k3 T' rfl X'
    exact ⟨t2, st t2 a1, b1⟩
  · obtain ⟨k1, k2, k3⟩ := vx_keep h0 e1 hS hAX hf hL hF
    obtain ⟨t2, a1, b1⟩ := kx E ce q u t T'.heap (locs ++ L) e1.symm (by rw [← e2]; exact X'.warmed.alike) hp hb k1 k2 k3 (by rw [e1]; exact hce) hcv hcl T' rfl X'
    exact ⟨t2, st.trans a1, b1⟩
/-- caught by the row x of this method's table; the rows ahead don't take it -/
theorem vx_catch {own name : String} {E : String} {ce : Cell} {q : Addr} (hown : s.vm.findClass own = some m.cls) (pre : List ExceptionTableEntry) (x : ExceptionTableEntry) (suf : List ExceptionTableEntry) (hsplit : c.exceptionTable.toList = pre ++ x :: suf)
    (hpass : ∀ z ∈ pre, covers z pc = false ∨ (z.catchType ≠ 0 ∧ ∃ nm : String, (Cond.classLink own z.catchType nm).before args s = true ∧ va_Nc E nm s)) (hx : covers x pc = true) (h0 : x.catchType ≠ 0)
    (hlink : (Cond.classLink own x.catchType name).before args s = true) (hcast : (Cond.castable E name).before args s = true) (hcell : H[q]? = some ce) (hv : ce.vm = .none) (hcl : s.vm.findClass E = some ce.cls)
    (kk : W p l e R s m args below meth c H locs cells slots Q (F0 m x.handlerPc ls [.ref q])) : vx_W p l e R s m args below meth c H locs cells slots Q (F0 m pc ls rest) q := by
  intro T hT X
  have hpl : e.platform.magicAccessors = ({} : Platform).magicAccessors := by rw [X.admits.platform]
  obtain ⟨c3, c4, hc3, hc4, hasg⟩ := Cond.castable_spec hcast
  cases Option.some.inj (hc3.symm.trans hcl)
  obtain ⟨c5, hc5, hcl5⟩ := Cond.classLink_spec hown hlink e.platform hpl
  cases Option.some.inj (hc4.symm.trans hc5)
  obtain ⟨vm', X', st⟩ := Jvm.Stand.thenCaughtThrough X q (g := F0 m pc ls rest) rfl (Steps.refl _) (by rw [hT]; exact hcell) (by rw [hv]; rfl) (by obtain ⟨k9, h9, -⟩ := Vm.findClass_spec hcl; exact ⟨k9, h9⟩) pre x suf hsplit
    (fun z hz => by
      rcases hpass z hz with h | ⟨hz0, nm, hl1, hn1⟩
      · exact Or.inl h
      · obtain ⟨c6, hc6, hcl6⟩ := Cond.classLink_spec hown hl1 e.platform hpl
        obtain ⟨a8, b8, h1, h2, h3⟩ := hn1
        cases Option.some.inj (h1.symm.trans hcl)
        cases Option.some.inj (h2.symm.trans hc6)
        exact Or.inr ⟨hz0, _, hcl6, h3⟩) hx (Or.inr ⟨h0, c4, hcl5, hasg⟩)
  obtain ⟨t, a1, b1⟩ := kk (T.setVm vm') hT X'
  exact ⟨t, st.trans a1, b1⟩
end Rows
section Ends
variable {p : Program} {l : Launch} {e : Env} {R : Room} {s : State} {m : MethodId} {args : Array Value} {below : List Frame} {meth : Method} {c : Code} {H : Heap} {locs : List Loc} {cells slots : Nat} {Q : State → Prop}
variable {mc ms : Nat} {free : Addr → Prop} {A0 A1 : Nat → Prop} {H0 : Heap} {a : Array Value} {ls : Array Slot} {st0 rest : List Value}
variable {Qc : Array Value → State → Outcome → State → Prop} {XC : String → State → State → Prop}
/-- what a body that may throw owes at its end -/
def vx_MQ (below : List Frame) (Qc : Array Value → State → Outcome → State → Prop) (XC : String → State → State → Prop) (a : Array Value) (s : State) (mc ms : Nat) (free : Addr → Prop) : State → Prop := fun t =>
  ∃ o, t.status = .running ∧ Ended t below o ∧ vx_Q Qc XC mc ms free a s o t
theorem vx_ret {g : JFrame} {mc ms : Nat} (k : W p l e R s m args below meth c H locs cells slots (MQ below Qc args s mc ms free) g) : W p l e R s m args below meth c H locs cells slots (vx_MQ below Qc XC args s mc ms free) g := by
  intro T hT X
  obtain ⟨t, a1, o, b1, b2, b3, b4⟩ := k T hT X
  exact ⟨t, a1, o, b1, b2, Or.inl ⟨b3, b4⟩⟩
/-- not caught here: it goes on to the caller -/
theorem vx_widen {g : JFrame} {q : Addr} {k n : Nat} (h1 : cells ≤ k) (h2 : slots ≤ n) (kk : vx_W p l e R s m args below meth c H locs k n Q g q) : vx_W p l e R s m args below meth c H locs cells slots Q g q := fun T hT X => kk T hT (stand_widen X h1 h2)
theorem vx_out {pc : Nat} {E : String} {ce : Cell} {q : Addr} {mc ms : Nat} (hout : ∀ x ∈ c.exceptionTable.toList, covers x pc = false) (hlocks : meth.locks = false) (hcell : H[q]? = some ce) (hv : ce.vm = .none) (hcl : s.vm.findClass E = some ce.cls)
    (hx : ∀ t : State, t.heap = H → s.vm.Alike t.vm → XC E s t) (hf : ∀ z ∈ locs, free z.base) (hc : cells ≤ mc) (hs : slots ≤ ms) :
    vx_W p l e R s m args below meth c H locs cells slots (vx_MQ below Qc XC args s mc ms free) (F0 m pc ls rest) q := by
  intro T hT X
  obtain ⟨st1, hrun, hend, hW, hsm⟩ := X.leaveThrown q (g := F0 m pc ls rest) rfl rfl rfl hout hlocks
  have hcell9 : (T.setFrames (.throwing q :: below)).heap[q]? = some ce := by
    show T.heap[q]? = some ce
    rw [hT]; exact hcell
  exact ⟨_, st1, .threw q, hrun, hend, Or.inr ⟨q, rfl, E, ce, locs, hx _ hT hW.alike, hcell9, hv, hcl, hW, hsm.mono hc hs, hf⟩⟩
theorem vx_frame {U : State} {k n : Nat} (h : s.sameButNew ({ U with vm := s.vm } : State) locs k n) : s.heap.size ≤ U.heap.size ∧ ∀ q : Nat, q < s.heap.size → (∀ z ∈ locs, z.base ≠ q) → U.heap[q]? = s.heap[q]? := by
  obtain ⟨-, h2, -, -, -, h6⟩ := h
  refine ⟨h2, fun q hq hz => ?_⟩
  obtain ⟨c9, e1, e2, e3, e4⟩ := h6 q _ (Array.getElem?_eq_getElem hq)
  have hs : c9.slots = (s.heap[q]).slots := Array.ext_getElem? fun i => e4 i fun hm => hz _ hm rfl
  have h9 : c9 = s.heap[q] := by
    rw [hs] at e2
    exact e2
  have e5 : U.heap[q]? = some c9 := e1
  rw [e5, h9, Array.getElem?_eq_getElem hq]
/-- the words of a throw but the four that speak of the heap -/
def vx_no (w : Cond) : Bool := decide (w ≠ .isRef (.static Bundle.tN "UNASSIGNED_STACK" Bundle.steD)) && decide (w ≠ .isRef (.static Bundle.tN "SUPPRESSED_SENTINEL" Bundle.listD)) && decide (w ≠ .laysStatic Bundle.tN "UNASSIGNED_STACK" Bundle.steD) && decide (w ≠ .laysStatic Bundle.tN "SUPPRESSED_SENTINEL" Bundle.listD)
def vx_at0 (own : String) (ic : Nat) (X : String) (names : List String) : List Cond := (Bundle.ownAtoms0 own ic X names).filter vx_no
def vx_atS (own : String) (ic : Nat) (X : String) (names : List String) : List Cond := (Bundle.ownAtoms own ic X names).filter vx_no
/-- a word that the tables alone decide, or a good one -/
def vx_ot (w : Cond) : Bool := w.onTables || goodWord w
theorem vx_ot_at {args a' : Array Value} {s U : State} {w : Cond} (hW : s.WarmedH U.vm) (hvm : s.vm = U.vm) (hg : vx_ot w = true) (h : w.before args s = true) : w.before a' U = true := by
  simp only [vx_ot, Bool.or_eq_true] at hg
  rcases hg with hg | hg
  · exact va_tabs hg hvm h
  · exact word_at hW (good_of_word hg) h
/-- a list's words: the good ones out of the method's own list, the others by premises of their own -/
theorem vx_hat {args : Array Value} {s : State} {L B : List Cond} (h1 : ∀ w ∈ L.filter goodWord, w.before args s = true) (h2 : ∀ w ∈ L.filter (fun w => !goodWord w), w ∈ B) (h3 : ∀ w ∈ B, w.before args s = true) : ∀ w ∈ L, w.before args s = true := by
  intro w hw
  by_cases g : goodWord w = true
  · exact h1 w (List.mem_filter.mpr ⟨hw, g⟩)
  · refine h3 w (h2 w (List.mem_filter.mpr ⟨hw, ?_⟩))
    show (!goodWord w) = true
    cases hgw : goodWord w
    · rfl
    · exact absurd hgw g
theorem vx_c {args : Array Value} {s : State} {w : Cond} {B : List Cond} (h : w.before args s = true) (t : ∀ w ∈ B, w.before args s = true) : ∀ w' ∈ w :: B, w'.before args s = true := fun w' h' => (List.mem_cons.mp h').elim (fun e => by rw [e]; exact h) (t w')
theorem vx_n {args : Array Value} {s : State} : ∀ w ∈ ([] : List Cond), w.before args s = true := fun _ h => nomatch h
theorem vx_own {args : Array Value} {s : State} {L : List Cond} (h1 : ∀ w ∈ L.filter vx_no, w.before args s = true)
    (hU : (Cond.isRef (.static Bundle.tN "UNASSIGNED_STACK" Bundle.steD)).before args s = true) (hN : (Cond.isRef (.static Bundle.tN "SUPPRESSED_SENTINEL" Bundle.listD)).before args s = true)
    (lU : (Cond.laysStatic Bundle.tN "UNASSIGNED_STACK" Bundle.steD).before args s = true) (lN : (Cond.laysStatic Bundle.tN "SUPPRESSED_SENTINEL" Bundle.listD).before args s = true) : ∀ w ∈ L, w.before args s = true := by
  intro w hw
  by_cases e1 : w = .isRef (.static Bundle.tN "UNASSIGNED_STACK" Bundle.steD)
  · rw [e1]; exact hU
  · by_cases e2 : w = .isRef (.static Bundle.tN "SUPPRESSED_SENTINEL" Bundle.listD)
    · rw [e2]; exact hN
    · by_cases e3 : w = .laysStatic Bundle.tN "UNASSIGNED_STACK" Bundle.steD
      · rw [e3]; exact lU
      · by_cases e4 : w = .laysStatic Bundle.tN "SUPPRESSED_SENTINEL" Bundle.listD
        · rw [e4]; exact lN
        · exact h1 w (List.mem_filter.mpr ⟨hw, by unfold vx_no; rw [decide_eq_true e1, decide_eq_true e2, decide_eq_true e3, decide_eq_true e4]; rfl⟩)
/-- where a static field lies, its class's statics cell in H -/
def vx_L (C n d : String) (A : Nat → Prop) (U : State) (H : Heap) : Prop := ∃ (c : ClassId) (k : Class) (i : Nat) (f : Field) (a : Nat) (cell : Cell), U.vm.findClass C = some c ∧ U.fieldFound? C n d = some (c, k, i, f) ∧ f.isStatic = true ∧ k.statics = some a ∧ H[a]? = some cell ∧ cell.vm.isStatics = true ∧ cell.cls = c ∧ f.slot < cell.slots.size ∧ k.staticTypes[f.slot]? = some f.type ∧ ¬ A a
theorem vx_L.moved {C n d : String} {A : Nat → Prop} {u U : State} {H : Heap} (hvm : u.vm.Alike U.vm) (h : vx_L C n d A u H) : vx_L C n d A U H := by
  obtain ⟨c, k, i, f, a, cell, h1, h2, h3, h4, h5, h6, h7, h8, h9, h10⟩ := h
  obtain ⟨k', hi', he⟩ := State.fieldFound?_setVm hvm h2
  exact ⟨c, k', i, f, a, cell, by rw [hvm.findClass]; exact h1, hi', h3, by rw [he]; exact h4, h5, h6, h7, h8, by rw [he]; exact h9, h10⟩
theorem vx_L.kept {C n d : String} {A : Nat → Prop} {U : State} {H H1 : Heap} (h : vx_L C n d A U H) (hq : ∀ a : Nat, a < H.size → ¬ A a → H1[a]? = H[a]?) : vx_L C n d A U H1 := by
  obtain ⟨c, k, i, f, a, cell, h1, h2, h3, h4, h5, h6, h7, h8, h9, h10⟩ := h
  exact ⟨c, k, i, f, a, cell, h1, h2, h3, h4, by rw [hq a (Array.getElem?_eq_some_iff.mp h5).1 h10]; exact h5, h6, h7, h8, h9, h10⟩
theorem vx_L.narrow {C n d : String} {A B : Nat → Prop} {U : State} {H : Heap} (h : vx_L C n d A U H) (hAB : ∀ q, B q → A q) : vx_L C n d B U H := by
  obtain ⟨c, k, i, f, a, cell, h1, h2, h3, h4, h5, h6, h7, h8, h9, h10⟩ := h
  exact ⟨c, k, i, f, a, cell, h1, h2, h3, h4, h5, h6, h7, h8, h9, fun z => h10 (hAB _ z)⟩
theorem vx_L.word {C n d : String} {A : Nat → Prop} {s : State} {args : Array Value} (h : vx_L C n d A s s.heap) : (Cond.laysStatic C n d).before args s = true := by
  obtain ⟨c, k, i, f, a, cell, h1, h2, h3, h4, h5, h6, h7, h8, h9, -⟩ := h
  show (Cond.laysStatic C n d).holds args s none s [] = true
  exact Cond.laysStatic_of h1 h2 h3 h4 h5 h6 h7 h8 h9
/-- .. and what it holds: null or some reference -/
def vx_Zq (C n d : String) (A : Nat → Prop) (U : State) (H : Heap) : Prop := va_Zq C n d A U H ∧ vx_L C n d A U H
theorem vx_Zq.moved {C n d : String} {A : Nat → Prop} {u U : State} {H : Heap} (hvm : u.vm.Alike U.vm) (h : vx_Zq C n d A u H) : vx_Zq C n d A U H := ⟨va_Zq.moved hvm h.1, vx_L.moved hvm h.2⟩
theorem vx_Zq.kept {C n d : String} {A : Nat → Prop} {U : State} {H H1 : Heap} (h : vx_Zq C n d A U H) (hq : ∀ a : Nat, a < H.size → ¬ A a → H1[a]? = H[a]?) : vx_Zq C n d A U H1 := ⟨va_Zq.kept h.1 hq, vx_L.kept h.2 hq⟩
theorem vx_Zq.narrow {C n d : String} {A B : Nat → Prop} {U : State} {H : Heap} (h : vx_Zq C n d A U H) (hAB : ∀ q, B q → A q) : vx_Zq C n d B U H := ⟨va_Zq.narrow h.1 hAB, vx_L.narrow h.2 hAB⟩
theorem vx_Zqof {args : Array Value} {s : State} {C n d : String} {A : Nat → Prop} (hl : (Cond.laysStatic C n d).before args s = true) (hini : (Cond.initialized C).before args s = true) (h : (Cond.isRef (.static C n d)).before args s = true) (hA : ∀ a : Nat, a < s.heap.size → ¬ A a) : vx_Zq C n d A s s.heap := by
  refine ⟨va_Zqof hl hini h hA, ?_⟩
  obtain ⟨c, k, i, f, a, cell, h1, h2, h3, h4, h5, h6, h7, h8, h9⟩ := Cond.laysStatic_spec hl
  exact ⟨c, k, i, f, a, cell, h1, h2, h3, h4, h5, h6, h7, h8, h9, hA a (Array.getElem?_eq_some_iff.mp h5).1⟩
theorem vx_isRef {C n d : String} {v : Value} {A : Nat → Prop} {s : State} {args : Array Value} (h : va_Z C n d v A s s.heap) (hv : v.isRef = true) : (Cond.isRef (.static C n d)).before args s = true := by
  obtain ⟨cf, kf, fi, f, a, cell, h1, h2, h3, h4, h5, h6, h7, -⟩ := h
  have he : (Term.static C n d).eval args s none [] s = some v := by
    simp [Term.eval, State.fieldNamed?, h1, h2, h4, h5, h6, h7]
  simp only [Cond.before, Cond.holds, Cond.value, he]
  cases v <;> simp_all [Value.isRef]
theorem vx_isRefq {C n d : String} {A : Nat → Prop} {s : State} {args : Array Value} (h : va_Zq C n d A s s.heap) : (Cond.isRef (.static C n d)).before args s = true := by
  rcases h with h | ⟨t, h⟩
  · exact vx_isRef h rfl
  · exact vx_isRef h rfl
/-- the same frame, seen from here: as if the method were called anew in this heap -/
theorem vx_rebase {T : State} (X : Stand p l e R s m args below meth c T locs cells slots) {R' : Room} (hf : R'.frames ≤ R.frames) (hl : R'.locals ≤ R.locals) (hc : cells + R'.cells ≤ R.cells) (hs : slots + R'.slots ≤ R.slots) :
    Stand p l e R' ((T.setVm s.vm).setFrames (.invoking m args :: below)) m args below meth c T [] 0 0 := by
  have htop : (T.setVm s.vm).topJava?.isSome := X.here.top
  have hF : ((T.setVm s.vm).setFrames (.invoking m args :: below)).frames = .invoking m args :: below := State.frames_setFrames _ (State.cur_lt_of_top htop)
  obtain ⟨g₀, hg0⟩ := Option.isSome_iff_exists.mp htop
  obtain ⟨r, hr⟩ := State.topJava?_eq_some.mp hg0
  have hl9 : e.platform.stackLimits (T.setVm s.vm).me = e.platform.stackLimits s.me := X.limits
  have hb9 : (T.setVm s.vm).me.stackBytes = s.me.stackBytes := X.bytes
  refine ⟨X.admits, X.cas, X.clock, hF, ?_, X.hears, X.method, X.code, X.here, X.tail, X.warmed, ?_, ?_, ?_⟩
  · have h := X.room
    have hU : ((T.setVm s.vm).setFrames (.invoking m args :: below)).localsInUse = s.localsInUse := by
      rw [State.localsInUse_invoking hF (meth := meth) (c := c) X.method X.code, State.localsInUse_invoking X.frames X.method X.code]
    simp only [State.hasRoom, Bool.and_eq_true, decide_eq_true_eq] at h ⊢
    obtain ⟨⟨⟨⟨h1, h2, h3, h4, h5, h6⟩, h7⟩, h8⟩, h9⟩ := h
    rw [X.frames, List.length_cons] at h2 h3
    have q1 := X.heapSize
    have q2 := X.used
    simp only [hF, hU, List.length_cons, State.stackLimits_setFrames, State.stackBytes_setFrames, hl9, hb9]
    refine ⟨⟨⟨⟨by omega, by omega, by omega, by omega, by omega, h6⟩, ?_⟩, ?_⟩, X.book⟩
    · show T.heap.size + R'.cells ≤ e.platform.maxCells
      omega
    · show T.slotsUsed + R'.slots ≤ e.platform.maxSlots
      omega
  · rw [State.stackLimits_setFrames]; rfl
  · rw [State.stackBytes_setFrames]; rfl
  · refine ⟨?_, Nat.le_refl _, Nat.le_refl _, ?_, ?_, fun a c9 h9 => ⟨c9, h9, rfl, rfl, fun _ _ => rfl⟩⟩
    · obtain ⟨t, ht, -⟩ := State.frames_cons hr
      show T.setVm s.vm = { ((T.setVm s.vm).setFrames (.invoking m args :: below)).setFrames (T.setVm s.vm).frames with heap := T.heap, slotsUsed := T.slotsUsed }
      rw [State.setFrames_setFrames, State.setFrames_self ht]
      rfl
    · show T.slotsUsed = T.slotsUsed + ((T.heap.toList.drop T.heap.size).map (·.slots.size)).sum
      rw [List.drop_eq_nil_of_le (Nat.le_of_eq Array.length_toList)]
      rfl
    · show ((T.heap.toList.drop T.heap.size).map (·.slots.size)).sum ≤ 0
      rw [List.drop_eq_nil_of_le (Nat.le_of_eq Array.length_toList)]
      exact Nat.le_refl _
/-- 'throw new E()': new; dup; invokespecial; athrow -/
theorem vx_throw0 {cc : ByteArray} {pc : Nat} (hexec : p.tables.exec = Jvm.exec) (hb : c.code = cc) (hl : l.stackTraces = false) {own cls : String} {names : List String} {ik ic mc ms : Nat} {A : Nat → Prop}
    (hown : s.vm.findClass own = some m.cls) (hcls : Bundle.fit cls = true) (hnames : ∀ n ∈ names, Bundle.fit n = true)
    (hk : (Cond.classLink own ik cls).before args s = true) (hini : (Cond.initialized cls).before args s = true) (hat : ∀ w ∈ vx_at0 own ic cls names, w.before args s = true)
    (hgood : ∀ w ∈ Cond.classLink own ik cls :: Cond.initialized cls :: vx_at0 own ic cls names, vx_ot w = true)
    (hU : vx_Zq Bundle.tN "UNASSIGNED_STACK" Bundle.steD A s s.heap) (hN : vx_Zq Bundle.tN "SUPPRESSED_SENTINEL" Bundle.listD A s s.heap) (hS : va_S A s.heap H locs) (hsize : ls.size = c.maxLocals)
    (d0 : decode cc pc = .ok (.new ik, 3)) (d3 : decode cc (pc + 3) = .ok (.dup, 1)) (d4 : decode cc (pc + 4) = .ok (.invokespecial ic, 3)) (d7 : decode cc (pc + 7) = .ok (.athrow, 1))
    (hout : ∀ x ∈ c.exceptionTable.toList, covers x (pc + 7) = false)
    (hRframes : names.length + 3 < R.frames) (hRlocals : (rest.map fun v => v.category).sum + (13 * (names.length + 1) + 42) ≤ R.locals) (hRcells : cells + 1 ≤ R.cells) (hRslots : slots + 6 ≤ R.slots) (hlocks : meth.locks = false)
    (hx : ∀ t : State, s.vm.Alike t.vm → H.size ≤ t.heap.size → (∀ q : Nat, q < H.size → t.heap[q]? = H[q]?) → XC cls s t)
    (hf : ∀ z ∈ locs, free z.base) (hc : cells + 1 ≤ mc) (hs : slots + 6 ≤ ms) :
    W p l e R s m args below meth c H locs cells slots (vx_MQ below Qc XC args s mc ms free) (F0 m pc ls rest) := by
  intro T hT X
  have htr : e.platform.stackTraces = false := (show e.platform.stackTraces = l.stackTraces by rw [X.admits.platform]).trans hl
  have Y := vx_rebase X (R' := { frames := R.frames, locals := R.locals, cells := 1, slots := 6 }) (Nat.le_refl _) (Nat.le_refl _) hRcells hRslots
  obtain ⟨s', hA⟩ : ∃ z, z = (T.setVm s.vm).setFrames (.invoking m args :: below) := ⟨_, rfl⟩
  rw [← hA] at Y
  have hvm : s'.vm = s.vm := by rw [hA]; rfl
  have hhp : s'.heap = H := by rw [hA]; exact hT
  have hW0 : s.WarmedH s'.vm := by rw [hvm]; exact State.WarmedH.refl s
  have hat' : ∀ w ∈ vx_at0 own ic cls names, w.before args s' = true := fun w hw => vx_ot_at hW0 hvm.symm (hgood w (List.mem_cons_of_mem _ (List.mem_cons_of_mem _ hw))) (hat w hw)
  have hk' : (Cond.classLink own ik cls).before args s' = true := vx_ot_at hW0 hvm.symm (hgood _ List.mem_cons_self) hk
  have hini' : (Cond.initialized cls).before args s' = true := vx_ot_at hW0 hvm.symm (hgood _ (List.mem_cons_of_mem _ List.mem_cons_self)) hini
  have hU' : vx_Zq Bundle.tN "UNASSIGNED_STACK" Bundle.steD A s' s'.heap := by rw [hhp]; exact vx_Zq.moved hW0.alike (hU.kept hS.2.1)
  have hN' : vx_Zq Bundle.tN "SUPPRESSED_SENTINEL" Bundle.listD A s' s'.heap := by rw [hhp]; exact vx_Zq.moved hW0.alike (hN.kept hS.2.1)
  have h : ∀ w ∈ Bundle.ownAtoms0 own ic cls names, w.before args s' = true := vx_own hat' (vx_isRefq hU'.1) (vx_isRefq hN'.1) hU'.2.word hN'.2.word
  have hown' : s'.vm.findClass own = some m.cls := by rw [hvm]; exact hown
  have hins : (Cond.instantiable cls 6).before args s' = true := h _ (by simp [Bundle.ownAtoms0])
  obtain ⟨vm₁, cX, kX, hfX, hkX, -, -, X₁, st1⟩ := Y.newCold hexec (own := own) (C := cls) (index := ik) (n := 6) hown' hk' hins hini'
    (g := F0 m pc ls rest) rfl (by rw [hb]; exact d0) (Nat.le_refl _) (Nat.le_refl _)
  generalize hT1 : (T.setVm vm₁).pushCell { cls := cX, slots := kX.instanceTypes.map defaultValue, vm := .none } = T1 at X₁ st1
  have hcat : (Value.ref T.heap.size).category = 1 := rfl
  have hcellA : T1.heap[T.heap.size]? = some (freshCell cX kX) := by rw [← hT1]; exact State.heap_pushCell_size _ _
  have d3' : decode c.code (pc + 3) = .ok (.dup, 1) := by rw [hb]; exact d3
  obtain ⟨U, hsteps, hrun, hend, hW, hsame, ce, hce, hO⟩ := X₁.ctorThrow0 hexec htr (own := own) (cls := cls) (names := names) (ic := ic) hown' hcls hnames h (fun x hx => nomatch hx) hfX hkX hcellA (by rw [hhp, hT]; exact Nat.le_refl _)
    (g := { method := m, pc := pc + 4, locals := ls, stack := .ref T.heap.size :: .ref T.heap.size :: rest, locked := none }) rfl hsize rfl rfl (rest := rest) rfl
    (by rw [hb]; exact d4) (by rw [hb]; exact d7) hout hRframes (by simp only [List.map_cons, List.sum_cons, hcat]; omega) hlocks
  obtain ⟨f1, f2⟩ := vx_frame hsame
  rw [hhp] at f1 f2
  have hWs : s.WarmedH U.vm := State.WarmedH.trans hW0 hW
  have hcl : s.vm.findClass cls = some ce.cls := by
    have h9 := hO.cls
    rw [hvm] at h9
    exact h9
  have hall : s.sameButNew ({ U with vm := s.vm } : State) locs mc ms := by
    subst hA
    obtain ⟨e1, e2⟩ := hsame
    rw [State.setFrames_setFrames] at e1
    have h2 : (T.setVm s.vm).sameButNew ({ U with vm := s.vm } : State) [] (0 + 1) (0 + 6) := ⟨e1, e2⟩
    have h3 := X.same.trans h2
    rw [List.append_nil] at h3
    exact h3.mono hc hs
  refine ⟨U, ?_, .threw T.heap.size, hrun, hend, Or.inr ⟨T.heap.size, rfl, cls, ce, locs, hx U hWs.alike f1 (fun q hq => f2 q hq (fun z hz => nomatch hz)), hce, hO.vm, hcl, hWs, hall, hf⟩⟩
  refine st1 _ ?_
  show Steps p.tables e below (T1.setTop { method := m, pc := pc + 3, locals := ls, stack := .ref T.heap.size :: rest, locked := none }) _
  jvm_step X₁.here [X₁.here.top, hexec, d3', Value.category]
  exact hsteps
/-- 'throw new E("text")': new; dup; ldc; invokespecial; athrow -/
theorem vx_throwS {cc : ByteArray} {pc : Nat} (hexec : p.tables.exec = Jvm.exec) (hb : c.code = cc) (hl : l.stackTraces = false) {own cls text : String} {names : List String} {ik is ic mc ms sa : Nat} {A : Nat → Prop}
    (hown : s.vm.findClass own = some m.cls) (hcls : Bundle.fit cls = true) (hnames : ∀ n ∈ names, Bundle.fit n = true)
    (hk : (Cond.classLink own ik cls).before args s = true) (hini : (Cond.initialized cls).before args s = true) (hstr : vk_R own is text sa s) (hat : ∀ w ∈ vx_atS own ic cls names, w.before args s = true)
    (hgood : ∀ w ∈ Cond.classLink own ik cls :: Cond.initialized cls :: vx_atS own ic cls names, vx_ot w = true)
    (hU : vx_Zq Bundle.tN "UNASSIGNED_STACK" Bundle.steD A s s.heap) (hN : vx_Zq Bundle.tN "SUPPRESSED_SENTINEL" Bundle.listD A s s.heap) (hS : va_S A s.heap H locs) (hsize : ls.size = c.maxLocals)
    (d0 : decode cc pc = .ok (.new ik, 3)) (d3 : decode cc (pc + 3) = .ok (.dup, 1)) (d4 : decode cc (pc + 4) = .ok (.ldc is, 2)) (d6 : decode cc (pc + 6) = .ok (.invokespecial ic, 3)) (d9 : decode cc (pc + 9) = .ok (.athrow, 1))
    (hout : ∀ x ∈ c.exceptionTable.toList, covers x (pc + 9) = false)
    (hRframes : names.length + 3 < R.frames) (hRlocals : (rest.map fun v => v.category).sum + (13 * (names.length + 1) + 43) ≤ R.locals) (hRcells : cells + 1 ≤ R.cells) (hRslots : slots + 6 ≤ R.slots) (hlocks : meth.locks = false)
    (hx : ∀ t : State, s.vm.Alike t.vm → H.size ≤ t.heap.size → (∀ q : Nat, q < H.size → t.heap[q]? = H[q]?) → XC cls s t)
    (hf : ∀ z ∈ locs, free z.base) (hc : cells + 1 ≤ mc) (hs : slots + 6 ≤ ms) :
    W p l e R s m args below meth c H locs cells slots (vx_MQ below Qc XC args s mc ms free) (F0 m pc ls rest) := by
  intro T hT X
  have htr : e.platform.stackTraces = false := (show e.platform.stackTraces = l.stackTraces by rw [X.admits.platform]).trans hl
  have Y := vx_rebase X (R' := { frames := R.frames, locals := R.locals, cells := 1, slots := 6 }) (Nat.le_refl _) (Nat.le_refl _) hRcells hRslots
  obtain ⟨s', hA⟩ : ∃ z, z = (T.setVm s.vm).setFrames (.invoking m args :: below) := ⟨_, rfl⟩
  rw [← hA] at Y
  have hvm : s'.vm = s.vm := by rw [hA]; rfl
  have hhp : s'.heap = H := by rw [hA]; exact hT
  have hW0 : s.WarmedH s'.vm := by rw [hvm]; exact State.WarmedH.refl s
  have hat' : ∀ w ∈ vx_atS own ic cls names, w.before args s' = true := fun w hw => vx_ot_at hW0 hvm.symm (hgood w (List.mem_cons_of_mem _ (List.mem_cons_of_mem _ hw))) (hat w hw)
  have hk' : (Cond.classLink own ik cls).before args s' = true := vx_ot_at hW0 hvm.symm (hgood _ List.mem_cons_self) hk
  have hini' : (Cond.initialized cls).before args s' = true := vx_ot_at hW0 hvm.symm (hgood _ (List.mem_cons_of_mem _ List.mem_cons_self)) hini
  have hU' : vx_Zq Bundle.tN "UNASSIGNED_STACK" Bundle.steD A s' s'.heap := by rw [hhp]; exact vx_Zq.moved hW0.alike (hU.kept hS.2.1)
  have hN' : vx_Zq Bundle.tN "SUPPRESSED_SENTINEL" Bundle.listD A s' s'.heap := by rw [hhp]; exact vx_Zq.moved hW0.alike (hN.kept hS.2.1)
  have h : ∀ w ∈ Bundle.ownAtoms own ic cls names, w.before args s' = true := vx_own hat' (vx_isRefq hU'.1) (vx_isRefq hN'.1) hU'.2.word hN'.2.word
  have hown' : s'.vm.findClass own = some m.cls := by rw [hvm]; exact hown
  have hins : (Cond.instantiable cls 6).before args s' = true := h _ (by simp [Bundle.ownAtoms])
  obtain ⟨vm₁, cX, kX, hfX, hkX, -, -, X₁, st1⟩ := Y.newCold hexec (own := own) (C := cls) (index := ik) (n := 6) hown' hk' hins hini'
    (g := F0 m pc ls rest) rfl (by rw [hb]; exact d0) (Nat.le_refl _) (Nat.le_refl _)
  generalize hT1 : (T.setVm vm₁).pushCell { cls := cX, slots := kX.instanceTypes.map defaultValue, vm := .none } = T1 at X₁ st1
  have hcat : (Value.ref T.heap.size).category = 1 := rfl
  have hcellA : T1.heap[T.heap.size]? = some (freshCell cX kX) := by rw [← hT1]; exact State.heap_pushCell_size _ _
  have d3' : decode c.code (pc + 3) = .ok (.dup, 1) := by rw [hb]; exact d3
  have d4' : decode c.code (pc + 4) = .ok (.ldc is, 2) := by rw [hb]; exact d4
  have hstr' : vk_R own is text sa s' := vk_R.warm hW0 hstr
  obtain ⟨U, hsteps, hrun, hend, hW, hsame, ce, hce, hO⟩ := X₁.ctorThrowS hexec htr (own := own) (cls := cls) (names := names) (ic := ic) hown' hcls hnames h (fun x hx => nomatch hx) hfX hkX hcellA (by rw [hhp, hT]; exact Nat.le_refl _) (msg := .ref sa) rfl
    (g := { method := m, pc := pc + 6, locals := ls, stack := .ref sa :: .ref T.heap.size :: .ref T.heap.size :: rest, locked := none }) rfl hsize rfl rfl (rest := rest) rfl
    (by rw [hb]; exact d6) (by rw [hb]; exact d9) hout hRframes (by simp only [List.map_cons, List.sum_cons, hcat]; omega) hlocks
  obtain ⟨f1, f2⟩ := vx_frame hsame
  rw [hhp] at f1 f2
  have hWs : s.WarmedH U.vm := State.WarmedH.trans hW0 hW
  have hcl : s.vm.findClass cls = some ce.cls := by
    have h9 := hO.cls
    rw [hvm] at h9
    exact h9
  have hall : s.sameButNew ({ U with vm := s.vm } : State) locs mc ms := by
    subst hA
    obtain ⟨e1, e2⟩ := hsame
    rw [State.setFrames_setFrames] at e1
    have h2 : (T.setVm s.vm).sameButNew ({ U with vm := s.vm } : State) [] (0 + 1) (0 + 6) := ⟨e1, e2⟩
    have h3 := X.same.trans h2
    rw [List.append_nil] at h3
    exact h3.mono hc hs
  refine ⟨U, ?_, .threw T.heap.size, hrun, hend, Or.inr ⟨T.heap.size, rfl, cls, ce, locs, hx U hWs.alike f1 (fun q hq => f2 q hq (fun z hz => nomatch hz)), hce, hO.vm, hcl, hWs, hall, hf⟩⟩
  refine st1 _ ?_
  show Steps p.tables e below (T1.setTop { method := m, pc := pc + 3, locals := ls, stack := .ref T.heap.size :: rest, locked := none }) _
  jvm_step X₁.here [X₁.here.top, hexec, d3', Value.category]
  exact X₁.ldcString hexec (own := own) (text := text) (index := is) (a := sa) hown' hstr'.1 hstr'.2
    (g := { method := m, pc := pc + 4, locals := ls, stack := .ref T.heap.size :: .ref T.heap.size :: rest, locked := none }) rfl d4' _ hsteps
/-- 'throw new E("text")', the text by a wide index -/
theorem vx_throwSW {cc : ByteArray} {pc : Nat} (hexec : p.tables.exec = Jvm.exec) (hb : c.code = cc) (hl : l.stackTraces = false) {own cls text : String} {names : List String} {ik is ic mc ms sa : Nat} {A : Nat → Prop}
    (hown : s.vm.findClass own = some m.cls) (hcls : Bundle.fit cls = true) (hnames : ∀ n ∈ names, Bundle.fit n = true)
    (hk : (Cond.classLink own ik cls).before args s = true) (hini : (Cond.initialized cls).before args s = true) (hstr : vk_R own is text sa s) (hat : ∀ w ∈ vx_atS own ic cls names, w.before args s = true)
    (hgood : ∀ w ∈ Cond.classLink own ik cls :: Cond.initialized cls :: vx_atS own ic cls names, vx_ot w = true)
    (hU : vx_Zq Bundle.tN "UNASSIGNED_STACK" Bundle.steD A s s.heap) (hN : vx_Zq Bundle.tN "SUPPRESSED_SENTINEL" Bundle.listD A s s.heap) (hS : va_S A s.heap H locs) (hsize : ls.size = c.maxLocals)
    (d0 : decode cc pc = .ok (.new ik, 3)) (d3 : decode cc (pc + 3) = .ok (.dup, 1)) (d4 : decode cc (pc + 4) = .ok (.ldc_w is, 3)) (d7 : decode cc (pc + 7) = .ok (.invokespecial ic, 3)) (d10 : decode cc (pc + 10) = .ok (.athrow, 1))
    (hout : ∀ x ∈ c.exceptionTable.toList, covers x (pc + 10) = false)
    (hRframes : names.length + 3 < R.frames) (hRlocals : (rest.map fun v => v.category).sum + (13 * (names.length + 1) + 43) ≤ R.locals) (hRcells : cells + 1 ≤ R.cells) (hRslots : slots + 6 ≤ R.slots) (hlocks : meth.locks = false)
    (hx : ∀ t : State, s.vm.Alike t.vm → H.size ≤ t.heap.size → (∀ q : Nat, q < H.size → t.heap[q]? = H[q]?) → XC cls s t)
    (hf : ∀ z ∈ locs, free z.base) (hc : cells + 1 ≤ mc) (hs : slots + 6 ≤ ms) :
    W p l e R s m args below meth c H locs cells slots (vx_MQ below Qc XC args s mc ms free) (F0 m pc ls rest) := by
  intro T hT X
  have htr : e.platform.stackTraces = false := (show e.platform.stackTraces = l.stackTraces by rw [X.admits.platform]).trans hl
  have Y := vx_rebase X (R' := { frames := R.frames, locals := R.locals, cells := 1, slots := 6 }) (Nat.le_refl _) (Nat.le_refl _) hRcells hRslots
  obtain ⟨s', hA⟩ : ∃ z, z = (T.setVm s.vm).setFrames (.invoking m args :: below) := ⟨_, rfl⟩
  rw [← hA] at Y
  have hvm : s'.vm = s.vm := by rw [hA]; rfl
  have hhp : s'.heap = H := by rw [hA]; exact hT
  have hW0 : s.WarmedH s'.vm := by rw [hvm]; exact State.WarmedH.refl s
  have hat' : ∀ w ∈ vx_atS own ic cls names, w.before args s' = true := fun w hw => vx_ot_at hW0 hvm.symm (hgood w (List.mem_cons_of_mem _ (List.mem_cons_of_mem _ hw))) (hat w hw)
  have hk' : (Cond.classLink own ik cls).before args s' = true := vx_ot_at hW0 hvm.symm (hgood _ List.mem_cons_self) hk
  have hini' : (Cond.initialized cls).before args s' = true := vx_ot_at hW0 hvm.symm (hgood _ (List.mem_cons_of_mem _ List.mem_cons_self)) hini
  have hU' : vx_Zq Bundle.tN "UNASSIGNED_STACK" Bundle.steD A s' s'.heap := by rw [hhp]; exact vx_Zq.moved hW0.alike (hU.kept hS.2.1)
  have hN' : vx_Zq Bundle.tN "SUPPRESSED_SENTINEL" Bundle.listD A s' s'.heap := by rw [hhp]; exact vx_Zq.moved hW0.alike (hN.kept hS.2.1)
  have h : ∀ w ∈ Bundle.ownAtoms own ic cls names, w.before args s' = true := vx_own hat' (vx_isRefq hU'.1) (vx_isRefq hN'.1) hU'.2.word hN'.2.word
  have hown' : s'.vm.findClass own = some m.cls := by rw [hvm]; exact hown
  have hins : (Cond.instantiable cls 6).before args s' = true := h _ (by simp [Bundle.ownAtoms])
  obtain ⟨vm₁, cX, kX, hfX, hkX, -, -, X₁, st1⟩ := Y.newCold hexec (own := own) (C := cls) (index := ik) (n := 6) hown' hk' hins hini'
    (g := F0 m pc ls rest) rfl (by rw [hb]; exact d0) (Nat.le_refl _) (Nat.le_refl _)
  generalize hT1 : (T.setVm vm₁).pushCell { cls := cX, slots := kX.instanceTypes.map defaultValue, vm := .none } = T1 at X₁ st1
  have hcat : (Value.ref T.heap.size).category = 1 := rfl
  have hcellA : T1.heap[T.heap.size]? = some (freshCell cX kX) := by rw [← hT1]; exact State.heap_pushCell_size _ _
  have d3' : decode c.code (pc + 3) = .ok (.dup, 1) := by rw [hb]; exact d3
  have d4' : decode c.code (pc + 4) = .ok (.ldc_w is, 3) := by rw [hb]; exact d4
  have hstr' : vk_R own is text sa s' := vk_R.warm hW0 hstr
  obtain ⟨U, hsteps, hrun, hend, hW, hsame, ce, hce, hO⟩ := X₁.ctorThrowS hexec htr (own := own) (cls := cls) (names := names) (ic := ic) hown' hcls hnames h (fun x hx => nomatch hx) hfX hkX hcellA (by rw [hhp, hT]; exact Nat.le_refl _) (msg := .ref sa) rfl
    (g := { method := m, pc := pc + 7, locals := ls, stack := .ref sa :: .ref T.heap.size :: .ref T.heap.size :: rest, locked := none }) rfl hsize rfl rfl (rest := rest) rfl
    (by rw [hb]; exact d7) (by rw [hb]; exact d10) hout hRframes (by simp only [List.map_cons, List.sum_cons, hcat]; omega) hlocks
  obtain ⟨f1, f2⟩ := vx_frame hsame
  rw [hhp] at f1 f2
  have hWs : s.WarmedH U.vm := State.WarmedH.trans hW0 hW
  have hcl : s.vm.findClass cls = some ce.cls := by
    have h9 := hO.cls
    rw [hvm] at h9
    exact h9
  have hall : s.sameButNew ({ U with vm := s.vm } : State) locs mc ms := by
    subst hA
    obtain ⟨e1, e2⟩ := hsame
    rw [State.setFrames_setFrames] at e1
    have h2 : (T.setVm s.vm).sameButNew ({ U with vm := s.vm } : State) [] (0 + 1) (0 + 6) := ⟨e1, e2⟩
    have h3 := X.same.trans h2
    rw [List.append_nil] at h3
    exact h3.mono hc hs
  refine ⟨U, ?_, .threw T.heap.size, hrun, hend, Or.inr ⟨T.heap.size, rfl, cls, ce, locs, hx U hWs.alike f1 (fun q hq => f2 q hq (fun z hz => nomatch hz)), hce, hO.vm, hcl, hWs, hall, hf⟩⟩
  refine st1 _ ?_
  show Steps p.tables e below (T1.setTop { method := m, pc := pc + 3, locals := ls, stack := .ref T.heap.size :: rest, locked := none }) _
  jvm_step X₁.here [X₁.here.top, hexec, d3', Value.category]
  exact X₁.ldcStringW hexec (own := own) (text := text) (index := is) (a := sa) hown' hstr'.1 hstr'.2
    (g := { method := m, pc := pc + 4, locals := ls, stack := .ref T.heap.size :: .ref T.heap.size :: rest, locked := none }) rfl d4' _ hsteps
end Ends
section Bodies
variable {l : Launch}
theorem vx_ofW {y : MethodName} {ws ws' : List Cond} {rm : Room} {Pc : Array Value → State → Prop} {Qc : Array Value → State → Outcome → State → Prop} {XC : String → State → State → Prop} {mc ms : Nat} {free : Addr → Prop} {cc : ByteArray} {maxL : Nat} {ret : Option FieldType}
    (hy : plainName y.cls = true) (hw : ws = Cond.code y cc maxL ret :: ws')
    (body : ∀ p e s m args below meth c s₁, BodyLoose p l y (headSpec ws rm) cc maxL ret e s m args below meth c s₁ → c.maxLocals = maxL → (∀ x ∈ c.exceptionTable.toList, False) → Pc args s →
      W p l e (headSpec ws rm).room s m args below meth c s.heap [] 0 0 (vx_MQ below Qc XC args s mc ms free) (entryFrame m args maxL)) : vx_Met l y ws rm Pc Qc XC mc ms free := by
  refine MetFree.of_bodyS (code := cc) (maxLocals := maxL) (ret := ret) hy ?_ ?_
  · intro args s m h hn
    obtain ⟨meth, c, h1, h2, h3, h4, h5, h6, -, -⟩ := Cond.code_spec hn (atoms_spec (ws := ws) h _ (by rw [hw]; exact List.mem_cons_self))
    exact ⟨meth, c, h1, h2, h3, h4, h5, h6⟩
  · intro p e s m args below meth c s₁ B hml hP _
    have hh0 : s₁.heap = s.heap := by rw [B.state]; rfl
    have ht : ∀ x ∈ c.exceptionTable.toList, False := by
      obtain ⟨meth9, c9, h1, h2, -, -, -, -, h7, -⟩ := Cond.code_spec B.named (atoms_spec (ws := ws) B.pre _ (by rw [hw]; exact List.mem_cons_self))
      cases Option.some.inj (h1.symm.trans B.method)
      cases Option.some.inj (h2.symm.trans (Stand.of_body B).code)
      intro x hx
      rw [Array.isEmpty_iff.mp h7] at hx
      cases hx
    obtain ⟨t, a1, o, b1, b2, b3⟩ := body p e s m args below meth c s₁ B hml ht hP s₁ hh0 (Stand.of_body B)
    exact ⟨t, o, a1, b1, b2, b3⟩
/-- the table of a body with handlers -/
theorem vx_table {p : Program} {x y : MethodName} {S : Spec} {cc bytes : ByteArray} {maxL maxL' : Nat} {ret ret' : Option FieldType} {e : Env} {s s₁ : State} {m : MethodId} {args : Array Value} {below : List Frame} {meth : Method} {c : Code} {hh : List (Nat × Nat × Nat × Nat)}
    (B : BodyLoose p l y S cc maxL ret e s m args below meth c s₁) (h : (Cond.codeWith y bytes maxL' ret' hh).before args s = true) : c.exceptionTable.toList = tableOf hh := by
  obtain ⟨m9, meth9, c9, hn9, h1, h2, -, -, h6, -⟩ := Cond.codeWith_spec h
  cases Option.some.inj (hn9.symm.trans B.named)
  cases Option.some.inj (h1.symm.trans B.method)
  cases Option.some.inj (h2.symm.trans (Stand.of_body B).code)
  rw [← h6, table_eq]
end Bodies
end VXA
/-! ===== END ===== -/
/-! ===== BEGIN a static call of a method with an exception table ===== -/
section VXS
variable {p : Program} {l : Launch} {e : Env} {R : Room} {s : State} {m : MethodId} {args : Array Value} {below : List Frame} {meth : Method} {c : Code} {T : State} {H : Heap} {locs : List Loc} {cells slots : Nat}
abbrev vx_CSW (R : Room) (s : State) (args : Array Value) (own : String) (index : Nat) (y : MethodName) (bytes : ByteArray) (maxL : Nat) (ret : Option FieldType) (hh : List (Nat × Nat × Nat × Nat)) (ws : List Cond) (rm : Room) (mc ms n : Nat) : Prop :=
  (rm.cells = mc ∧ rm.slots = ms ∧ rm.frames + 1 ≤ R.frames ∧ 8 + (maxL + 11) + rm.locals ≤ R.locals ∧ (∀ w ∈ ws, ∀ (a' : Array Value) (U : State), s.WarmedH U.vm → w.before a' U = true) ∧ Cond.codeWith y bytes maxL ret hh ∈ ws) ∧
  (Cond.codeWith y bytes maxL ret hh).before args s = true ∧ (Cond.initialized y.cls).before args s = true ∧ (y.cls ≠ "java/lang/invoke/MethodHandle" ∧ y.cls ≠ "java/lang/invoke/VarHandle") ∧
  (∀ sig, parseMethodDescriptor y.desc = some sig → n = sig.parameters.length) ∧ (Cond.methodLink own index y).before args s = true ∧ (Cond.static y).before args s = true
theorem vx_cwSW {own : String} {index maxL mc ms : Nat} {y : MethodName} {bytes : ByteArray} {ret : Option FieldType} {hh : List (Nat × Nat × Nat × Nat)} {Ts ws ws' : List Cond} {rm : Room} (n : Nat) (ht : ∀ w ∈ Ts, w.before args s = true) (hT : GoodIn Ts (va_wsS own index y ws)) (hw : ws = Cond.codeWith y bytes maxL ret hh :: ws') (hrc : rm.cells = mc) (hrs : rm.slots = ms)
    (hd : y.cls ≠ "java/lang/invoke/MethodHandle" ∧ y.cls ≠ "java/lang/invoke/VarHandle" ∧ (parseMethodDescriptor y.desc).map (fun d => d.parameters.length) = some n) (hR : rm.frames + 1 ≤ R.frames ∧ 8 + (maxL + 11) + rm.locals ≤ R.locals) :
    vx_CSW R s args own index y bytes maxL ret hh ws rm mc ms n := by
  have ok : ∀ w ∈ va_wsS own index y ws, w.before args s = true := fun w h => ht w (hT w h).1
  have hG : GoodIn Ts ws := fun w h => hT w (by unfold va_wsS; exact List.mem_append_right _ h)
  have hc : Cond.codeWith y bytes maxL ret hh ∈ ws := by rw [hw]; exact List.mem_cons_self
  refine ⟨⟨hrc, hrs, hR.1, hR.2, pay_in ht hG, hc⟩, ht _ (hG _ hc).1, ok _ (by simp [va_wsS]), ⟨hd.1, hd.2.1⟩, fun sig h => ?_, ok _ (by simp [va_wsS]), ok _ (by simp [va_wsS])⟩
  have h2 := hd.2.2
  rw [h] at h2
  exact (Option.some.inj h2).symm
theorem vx_callSW (X : Stand p l e R s m args below meth c T locs cells slots) (hexec : p.tables.exec = Jvm.exec) {own : String} {index : Nat} {y : MethodName} {bytes : ByteArray} {maxL : Nat} {ret : Option FieldType} {hh : List (Nat × Nat × Nat × Nat)}
    (hown : s.vm.findClass own = some m.cls) (hlink : (Cond.methodLink own index y).before args s = true) (hstat : (Cond.static y).before args s = true) (hinit : (Cond.initialized y.cls).before args s = true)
    (hcode : (Cond.codeWith y bytes maxL ret hh).before args s = true) (hy : y.cls ≠ "java/lang/invoke/MethodHandle" ∧ y.cls ≠ "java/lang/invoke/VarHandle")
    {W9 : Nat} {Pre : Pt → Array Value → Prop} {Post : Pt → Array Value → Option Value → Pt → Prop} (hK : Back l R p e below s args y 3 W9 Pre Post)
    {g : JFrame} (hg : g.method = m) (hsize : g.locals.size = c.maxLocals) {argsL rest : List Value} (hlen : ∀ sig, parseMethodDescriptor y.desc = some sig → argsL.length = sig.parameters.length)
    (hstack : g.stack = argsL.reverse ++ rest) (hW : 2 * g.monitorRoom + (rest.map fun v => v.category).sum ≤ W9) (hdg : decode c.code g.pc = .ok (.invokestatic index, 3))
    (hpre : ∀ vm₁, s.WarmedH vm₁ → Pre ⟨T.setVm vm₁, locs, cells, slots⟩ argsL.toArray) :
    ∃ (v : Option Value) (vm₁ : Vm) (B : Pt), s.WarmedH vm₁ ∧ Stand p l e R s m args below meth c B.U B.locs B.cells B.slots ∧ Post ⟨T.setVm vm₁, locs, cells, slots⟩ argsL.toArray v B ∧
      ∀ target, Steps p.tables e below (B.U.setTop { g with pc := g.pc + 3, stack := v.toList ++ rest }) target → Steps p.tables e below (T.setTop g) target := by
  obtain ⟨mk, methM, cM, hnamed, hmethM, -, -, -, -, -, -, hsigM⟩ := Cond.codeWith_spec hcode
  have hstatic : methM.isStatic = true := Cond.static_spec hnamed hmethM hstat
  obtain ⟨kP, hkP, -⟩ := className_of_methodNamed hnamed
  have hinitP : kP.init = .initialized := Cond.initialized_spec (findClass_of_methodNamed hnamed) hkP hinit
  obtain ⟨vm₁, X₁, hstep₁⟩ := X.invokestatic hexec hown hlink hnamed hmethM hstatic hkP hinitP hy (g := g) hg (argsL := argsL) (rest := rest) (hlen _ hsigM) hstack hdg
  obtain ⟨v, B, X', hpost, hsteps⟩ := hK m meth c ⟨T.setVm vm₁, locs, cells, slots⟩ { g with stack := rest } (.invokestatic index) mk argsL.toArray X₁ hg hsize hdg hW (X₁.named hnamed) (hpre vm₁ X₁.warmed)
  exact ⟨v, vm₁, B, X₁.warmed, X', hpost, fun target h => hstep₁ _ fun acts => by rw [doInvoke_state]; exact hsteps.trans h⟩
theorem vx_runSW {y : MethodName} {bytes cc : ByteArray} {maxL nL mc ms n index : Nat} {ret : Option FieldType} {hh : List (Nat × Nat × Nat × Nat)} {ws : List Cond} {rm : Room} {Pc : Array Value → State → Prop} {Qc : Array Value → State → Outcome → State → Prop} {free : Addr → Prop} {Ts : List Cond} {own : String} {As rest : List Value} {g : JFrame}
    (S : CallFix p m c cc nL s args Ts own) (hM : Met l y ws rm Pc Qc mc ms free) (cw : vx_CSW R s args own index y bytes maxL ret hh ws rm mc ms n) (hp : PreS s H Pc As)
    (hg : g.method = m) (hn : As.length = n) (hsize : g.locals.size = nL) (hstack : g.stack = As.reverse ++ rest) (hW : 2 * g.monitorRoom + (rest.map fun v => v.category).sum ≤ 8) (hdg : decode cc g.pc = .ok (.invokestatic index, 3)) (hf : cells + mc ≤ R.cells ∧ slots + ms ≤ R.slots) :
    va_Run p l e R s m args below meth c H locs cells slots mc ms g rest (Qc As.toArray) (free) := by
  obtain ⟨⟨hrc, hrs, hfr, hlo, hws, hcw⟩, hcode, hini, hy, hlen, hl, hstt⟩ := cw
  have hK : Back l R p e below s args y 3 8 (PreOf R mc ms Pc) (PostOf Qc mc ms free) := va_backW (hh := hh) (bytes := bytes) (maxL := maxL) (ret := ret) hM hp.1 hrc hrs hfr hlo hws hcw (fun a' U hW => word_at hW (Or.inl (by first | rfl | simp [Cond.onTables, Cond.keeps, Cond.steady])) hini)
  obtain ⟨hx, hb, hml, ho, -⟩ := S
  intro T hT X
  obtain ⟨v, vm₁, ⟨U', l2, c2, s2⟩, hW₁, X', ⟨g', mk, t, L, e1, e2, hq, h1, hL, h2, h3⟩, st⟩ := vx_callSW X hx (hh := hh) (bytes := bytes) (maxL := maxL) (ret := ret) ho hl hstt hini hcode hy hK hg (hsize.trans hml.symm) (argsL := As) (rest := rest) (fun sig h => hn.trans (hlen sig h)) hstack hW (by rw [hb]; exact hdg)
    (fun vm₁ hW₁ => ⟨hf.1, hf.2, hp.2 (T.setVm vm₁) hT hW₁⟩)
  dsimp only [Pt.U, Pt.locs, Pt.cells, Pt.slots] at X' e1 e2 h1 h2 h3 st
  subst h1; subst h2; subst h3
  exact ⟨v, (T.setVm vm₁).calling g' mk As.toArray, t, U', L, hT, X', hL, e1, e2, hq, st⟩
/-- not caught here, past rows that name other classes: it goes on to the caller -/
theorem vx_outP {p : Program} {l : Launch} {e : Env} {R : Room} {s : State} {m : MethodId} {args : Array Value} {below : List Frame} {meth : Method} {c : Code} {H : Heap} {locs : List Loc} {cells slots : Nat} {free : Addr → Prop} {ls : Array Slot} {rest : List Value} {Qc : Array Value → State → Outcome → State → Prop} {XC : String → State → State → Prop}
    {pc : Nat} {own E : String} {ce : Cell} {q : Addr} {mc ms : Nat} (hown : s.vm.findClass own = some m.cls) (hlocks : meth.locks = false)
    (hpass : ∀ z ∈ c.exceptionTable.toList, covers z pc = false ∨ (z.catchType ≠ 0 ∧ ∃ nm : String, (Cond.classLink own z.catchType nm).before args s = true ∧ va_Nc E nm s)) (hcell : H[q]? = some ce) (hv : ce.vm = .none) (hcl : s.vm.findClass E = some ce.cls)
    (hx : ∀ t : State, t.heap = H → s.vm.Alike t.vm → XC E s t) (hf : ∀ z ∈ locs, free z.base) (hc : cells ≤ mc) (hs : slots ≤ ms) :
    vx_W p l e R s m args below meth c H locs cells slots (vx_MQ below Qc XC args s mc ms free) (F0 m pc ls rest) q := by
  intro T hT X
  have hpl : e.platform.magicAccessors = ({} : Platform).magicAccessors := by rw [X.admits.platform]
  obtain ⟨vm', hW', X', st⟩ := Jvm.Stand.outThrough X hlocks q (g := F0 m pc ls rest) rfl rfl rfl (cell := ce) (by rw [hT]; exact hcell) (by rw [hv]; rfl)
    (by obtain ⟨k9, h9, -⟩ := Vm.findClass_spec hcl; exact ⟨k9, h9⟩) (fun z hz => by
      rcases hpass z hz with h | ⟨hz0, nm, hl1, hn1⟩
      · exact Or.inl h
      · obtain ⟨c6, hc6, hcl6⟩ := Cond.classLink_spec hown hl1 e.platform hpl
        obtain ⟨a8, b8, h1, h2, h3⟩ := hn1
        cases Option.some.inj (h1.symm.trans hcl)
        cases Option.some.inj (h2.symm.trans hc6)
        exact Or.inr ⟨hz0, _, hcl6, h3⟩)
  obtain ⟨g₀, hfr⟩ := X'.frames_eq
  have hcell9 : ((T.setVm vm').setFrames (.throwing q :: below)).heap[q]? = some ce := by
    show T.heap[q]? = some ce
    rw [hT]; exact hcell
  have hend : Ended ((T.setVm vm').setFrames (.throwing q :: below)) below (.threw q) := State.frames_setFrames _ (State.cur_lt_of_frames hfr)
  refine ⟨(T.setVm vm').setFrames (.throwing q :: below), ?_, .threw q, X'.here.running, hend, Or.inr ⟨q, rfl, E, ce, locs, hx _ hT (X'.ends _).1.alike, hcell9, hv, hcl, (X'.ends _).1, (X'.ends _).2.mono hc hs, hf⟩⟩
  rw [X.pushThrowing_eq]
  exact st
/-- a thing of a world lies in the heap -/
theorem vx_lt {D : va_G} {cl : List vw_C} {ws : va_W} {H1 : Heap} (h : va_P D cl ws H1) {k : Nat} {q : Nat × va_E} (hk : ws[k]? = some q) : q.1 < H1.size := (h k q hk).lt
end VXS
/-! ===== END ===== -/
/-! ===== BEGIN methods with a table of their own: called by a name, returning or throwing ===== -/
section VXH
/-! vx_backW, vx_callVX, vx_callSX, vx_callVW, vx_runVW, vx_runVX, vx_runSX, vx_ofWH follow the same proofs as their sisters above (Free/Laws.lean, Shelf42/LK1.lean); vx_outP calls Shelf42/NT130.lean (outThrough). -/
section
variable {l : Launch} {R : Room} {p : Program} {e : Env} {below : List Frame} {s : State} {sargs : Array Value} {y : MethodName} {len W9 : Nat}
theorem vx_backW {ws : List Cond} {rm : Room} {Pc : Array Value → State → Prop} {Qc : Array Value → State → Outcome → State → Prop} {XC : String → State → State → Prop} {mc ms : Nat} {free : Addr → Prop} {bytes : ByteArray} {maxL : Nat} {ret : Option FieldType} {hh : List (Nat × Nat × Nat × Nat)}
    (hM : vx_Met l y ws rm Pc Qc XC mc ms free) (hblind : FrameBlind Pc) (hrc : rm.cells = mc) (hrs : rm.slots = ms)
    (hframes : rm.frames + 1 ≤ R.frames) (hlocals : W9 + (maxL + 11) + rm.locals ≤ R.locals)
    (hws : ∀ w ∈ ws, ∀ a' U, s.WarmedH U.vm → w.before a' U = true) (hcode : Cond.codeWith y bytes maxL ret hh ∈ ws) (hinit : ∀ a' U, s.WarmedH U.vm → (Cond.initialized y.cls).before a' U = true) :
    vx_Back l R p e below s sargs y len W9 (PreOf R mc ms Pc) (PostOf Qc mc ms free) (vx_Post XC mc ms free) := by
  intro m meth c A g ig mk a X hg hsize hdg hW hn hp
  have h1 : (headSpec ws rm).pre.before a A.U = true := atoms_intro fun w hw => hws w hw _ _ X.warmed
  have h2 : (Cond.codeWith y bytes maxL ret hh).before a A.U = true := hws _ hcode _ _ X.warmed
  have h3 : (Cond.initialized y.cls).before a A.U = true := hinit _ _ X.warmed
  have h4 : A.cells + (headSpec ws rm).room.cells ≤ R.cells := by rw [show (headSpec ws rm).room.cells = mc from hrc]; exact hp.1
  have h5 : A.slots + (headSpec ws rm).room.slots ≤ R.slots := by rw [show (headSpec ws rm).room.slots = ms from hrs]; exact hp.2.1
  have hPc : Pc a (A.U.calling g mk a) := hblind _ _ _ _ hp.2.2
  obtain ⟨U, Ls, c0, s0⟩ := A
  dsimp only [Pt.U, Pt.locs, Pt.cells, Pt.slots] at h1 h2 h3 h4 h5 X hn hPc ⊢
  obtain ⟨m9, methY, cY, hn9, hmY, hcY, -, hlY, -⟩ := Cond.codeWith_spec h2
  cases Option.some.inj (hn9.symm.trans hn)
  obtain ⟨kY, hkY, -⟩ := className_of_methodNamed hn
  have hinitY : kY.init = .initialized := Cond.initialized_spec (findClass_of_methodNamed hn) hkY h3
  have h : At U g.method c below := by rw [hg]; exact X.here
  have hlocals9 : W9 + (maxL + 11) + (headSpec ws rm).room.locals ≤ R.locals := hlocals
  have happ : (headSpec ws rm).appliesLoose y e.platform (U.calling g mk a) = true :=
    Spec.appliesLoose_calling (g := g) h hdg hn hkY hinitY
      (X.room_calling (g := g) (R' := (headSpec ws rm).room) hsize hmY hcY hframes (by rw [hlY]; omega) h4 h5) h1
  obtain ⟨mid, hmid⟩ := h.above
  have hfr : (U.setTop g).frames = (.java g :: mid) ++ below := by rw [State.frames_setTop' g h.top, hmid]; rfl
  obtain ⟨o, s₂, hsteps, -, hend, hq⟩ := Steps.callFree hM p X.admits X.cas X.clock (acts := []) hfr happ hPc trivial
  have hq' : vx_Q Qc XC mc ms free a (U.calling g mk a) o s₂ := hq
  rw [State.frames_setTop' g h.top] at hend
  obtain ⟨g₀, hg0⟩ := Option.isSome_iff_exists.mp h.top
  obtain ⟨r, hr⟩ := State.topJava?_eq_some.mp hg0
  have hr' : (({ U with heap := s₂.heap, slotsUsed := s₂.slotsUsed } : State).setVm s₂.vm).frames = .java g₀ :: r := hr
  rcases hq' with ⟨hqc, L, hfe, hL⟩ | ⟨q, rfl, E, ce, L, hx, hce, hcv, hcl, hW₂, hsm, hL⟩
  · obtain ⟨⟨v, rfl⟩, hW₂, e2, q2, q3, q4, q5, q6⟩ := id hfe
    have e3 : s₂ = ({ (U.calling g mk a).setFrames s₂.frames with heap := s₂.heap, slotsUsed := s₂.slotsUsed } : State).setVm s₂.vm := by
      have : s₂ = ({ s₂ with vm := (U.calling g mk a).vm } : State).setVm s₂.vm := rfl
      rw [e2] at this
      exact this
    obtain ⟨c₂, i₂, len₂, hc₂, hd₂, hf₂⟩ := hend
    have hW' : U.WarmedH s₂.vm := hW₂
    have hcc : c₂ = c := by
      have h1 : s₂.code? g.method = U.code? g.method := by
        rw [State.code?_eq, State.code?_eq, hW'.alike.method?]
      exact Option.some.inj (hc₂.symm.trans (h1.trans h.code))
    subst hcc
    have hlen : len₂ = len := by rw [hdg] at hd₂; cases hd₂; rfl
    subst hlen
    have hs₂ : s₂ = (({ U with heap := s₂.heap, slotsUsed := s₂.slotsUsed } : State).setVm s₂.vm).setTop { g with pc := g.pc + len₂, stack := v.toList ++ g.stack } := by
      refine e3.trans ?_
      rw [hf₂, State.calling_eq h.top, State.setFrames_setFrames, State.setTop_of_frames _ hr', hr]
      rfl
    have hsame : U.sameButNew ({ U with heap := s₂.heap, slotsUsed := s₂.slotsUsed } : State) L mc ms := by
      refine ⟨?_, q2, q3, q4, q5, q6⟩
      obtain ⟨t, ht, -⟩ := State.frames_cons hr
      show ({ U with heap := s₂.heap, slotsUsed := s₂.slotsUsed } : State) = { U.setFrames U.frames with heap := s₂.heap, slotsUsed := s₂.slotsUsed }
      rw [State.setFrames_self ht]
    subst hg
    refine Or.inl ⟨v, ⟨(({ U with heap := s₂.heap, slotsUsed := s₂.slotsUsed } : State).setVm s₂.vm), Ls ++ L, c0 + mc, s0 + ms⟩,
      ⟨X.admits, X.cas, X.clock, X.frames, X.room, X.hears, X.method, X.code, (X.here.setHeapUsed s₂.heap s₂.slotsUsed).setVm hW'.alike, X.tail, State.WarmedH.trans X.warmed hW', X.limits, X.bytes, X.same.trans (hsame.setVm s.vm)⟩,
      ⟨g, mk, s₂, L, rfl, rfl, hqc, rfl, hL, rfl, rfl⟩, ?_⟩
    show Steps p.tables e below _ ((({ U with heap := s₂.heap, slotsUsed := s₂.slotsUsed } : State).setVm s₂.vm).setTop { g with pc := g.pc + len₂, stack := v.toList ++ g.stack })
    rw [← hs₂]
    exact hsteps
  · obtain ⟨e2, q2, q3, q4, q5, q6⟩ := id hsm
    have e3 : s₂ = ({ (U.calling g mk a).setFrames s₂.frames with heap := s₂.heap, slotsUsed := s₂.slotsUsed } : State).setVm s₂.vm := by
      have : s₂ = ({ s₂ with vm := (U.calling g mk a).vm } : State).setVm s₂.vm := rfl
      rw [e2] at this
      exact this
    have hf₂ : s₂.frames = .throwing q :: .java g :: U.frames.tail := hend
    have hW' : U.WarmedH s₂.vm := hW₂
    have hs₂ : s₂ = ((({ U with heap := s₂.heap, slotsUsed := s₂.slotsUsed } : State).setVm s₂.vm).setTop g).pushFrame (.throwing q) := by
      refine e3.trans ?_
      rw [hf₂, State.calling_eq h.top, State.setFrames_setFrames, State.pushFrame, State.frames_setTop _ hr', State.setTop_of_frames _ hr', State.setFrames_setFrames, hr]
      rfl
    have hsame : U.sameButNew ({ U with heap := s₂.heap, slotsUsed := s₂.slotsUsed } : State) L mc ms := by
      refine ⟨?_, q2, q3, q4, q5, q6⟩
      obtain ⟨t, ht, -⟩ := State.frames_cons hr
      show ({ U with heap := s₂.heap, slotsUsed := s₂.slotsUsed } : State) = { U.setFrames U.frames with heap := s₂.heap, slotsUsed := s₂.slotsUsed }
      rw [State.setFrames_self ht]
    subst hg
    refine Or.inr ⟨q, ⟨(({ U with heap := s₂.heap, slotsUsed := s₂.slotsUsed } : State).setVm s₂.vm), Ls ++ L, c0 + mc, s0 + ms⟩,
      ⟨X.admits, X.cas, X.clock, X.frames, X.room, X.hears, X.method, X.code, (X.here.setHeapUsed s₂.heap s₂.slotsUsed).setVm hW'.alike, X.tail, State.WarmedH.trans X.warmed hW', X.limits, X.bytes, X.same.trans (hsame.setVm s.vm)⟩,
      ⟨g, mk, s₂, L, E, ce, rfl, rfl, hx, hce, hcv, hcl, rfl, hL, rfl, rfl⟩, ?_⟩
    show Steps p.tables e below _ (((({ U with heap := s₂.heap, slotsUsed := s₂.slotsUsed } : State).setVm s₂.vm).setTop g).pushFrame (.throwing q))
    rw [← hs₂]
    exact hsteps
end
variable {p : Program} {l : Launch} {e : Env} {R : Room} {s : State} {m : MethodId} {args : Array Value} {below : List Frame} {meth : Method} {c : Code} {T : State} {H : Heap} {locs : List Loc} {cells slots : Nat}
theorem vx_callVX (X : Stand p l e R s m args below meth c T locs cells slots) (hexec : p.tables.exec = Jvm.exec) {own C : String} {index : Nat} {y : MethodName} {bytes : ByteArray} {maxL : Nat} {ret : Option FieldType} {hh : List (Nat × Nat × Nat × Nat)}
    (hown : s.vm.findClass own = some m.cls) (hlink : (Cond.methodLink own index y).before args s = true) (hinst : (Cond.instanceMethod y).before args s = true) (hsel : (Cond.selects C y y).before args s = true)
    (hcode : (Cond.codeWith y bytes maxL ret hh).before args s = true) (hy : y.cls ≠ "java/lang/invoke/MethodHandle" ∧ y.cls ≠ "java/lang/invoke/VarHandle")
    {W9 : Nat} {Pre : Pt → Array Value → Prop} {Post : Pt → Array Value → Option Value → Pt → Prop} {PostX : Pt → Array Value → Addr → Pt → Prop} (hK : vx_Back l R p e below s args y 3 W9 Pre Post PostX)
    {b : Addr} {cellB : Cell} (hcell : T.heap[b]? = some cellB) (hobj : cellB.vm.isStatics = false) (hcls : s.vm.findClass C = some cellB.cls)
    {g : JFrame} (hg : g.method = m) (hsize : g.locals.size = c.maxLocals) {argsL rest : List Value} (hlen : ∀ sig, parseMethodDescriptor y.desc = some sig → argsL.length = sig.parameters.length)
    (hstack : g.stack = argsL.reverse ++ .ref b :: rest) (hW : 2 * g.monitorRoom + (rest.map fun v => v.category).sum ≤ W9) (hdg : decode c.code g.pc = .ok (.invokevirtual index, 3))
    (hpre : ∀ vm₁, s.WarmedH vm₁ → Pre ⟨T.setVm vm₁, locs, cells, slots⟩ (Value.ref b :: argsL).toArray) :
    (∃ (v : Option Value) (vm₁ : Vm) (B : Pt), s.WarmedH vm₁ ∧ Stand p l e R s m args below meth c B.U B.locs B.cells B.slots ∧ Post ⟨T.setVm vm₁, locs, cells, slots⟩ (Value.ref b :: argsL).toArray v B ∧
      ∀ target, Steps p.tables e below (B.U.setTop { g with pc := g.pc + 3, stack := v.toList ++ rest }) target → Steps p.tables e below (T.setTop g) target) ∨
    (∃ (q : Addr) (vm₁ : Vm) (B : Pt), s.WarmedH vm₁ ∧ Stand p l e R s m args below meth c B.U B.locs B.cells B.slots ∧ PostX ⟨T.setVm vm₁, locs, cells, slots⟩ (Value.ref b :: argsL).toArray q B ∧
      Steps p.tables e below (T.setTop g) ((B.U.setTop { g with stack := rest }).pushFrame (.throwing q))) := by
  obtain ⟨mk, methM, hnamed, hmethM, hstM, habM⟩ := Cond.instanceMethod_spec hinst
  obtain ⟨m8, methM', cM, hn8, hmethM', -, -, -, -, -, -, hsigM⟩ := Cond.codeWith_spec hcode
  cases Option.some.inj (hn8.symm.trans hnamed)
  cases hmethM.symm.trans hmethM'
  obtain ⟨c2, r2, m2, q1, q2, q3, q4, kP, hkP, hkPi⟩ := Cond.selects_spec hsel
  cases hcls.symm.trans q1
  cases (State.methodFound?_of_named hnamed hy).symm.trans q2
  cases hnamed.symm.trans q3
  have hselP : selectMethod e.platform s.vm cellB.cls mk = .method mk := by rw [Launch.admits_selectMethod X.admits]; exact q4
  obtain ⟨vm₁, X₁, hstep₁⟩ := X.invokevirtual hexec hown hlink hnamed hmethM hstM hkP hkPi hy (a := b) (cell := cellB) hcell
    (fun z h => by rw [h] at hobj; cases hobj) hselP hmethM habM hkP hkPi (g := g) hg (argsL := argsL) (rest := rest) (hlen _ hsigM) hstack hdg
  rcases hK m meth c ⟨T.setVm vm₁, locs, cells, slots⟩ { g with stack := rest } (.invokevirtual index) mk (Value.ref b :: argsL).toArray X₁ hg hsize hdg hW (X₁.named hnamed) (hpre vm₁ X₁.warmed) with ⟨v, B, X', hpost, hsteps⟩ | ⟨q, B, X', hpost, hsteps⟩
  · exact Or.inl ⟨v, vm₁, B, X₁.warmed, X', hpost, fun target h => hstep₁ _ fun acts => by rw [doInvoke_state]; exact hsteps.trans h⟩
  · exact Or.inr ⟨q, vm₁, B, X₁.warmed, X', hpost, hstep₁ _ fun acts => by rw [doInvoke_state]; exact hsteps⟩
theorem vx_callSX (X : Stand p l e R s m args below meth c T locs cells slots) (hexec : p.tables.exec = Jvm.exec) {own : String} {index : Nat} {y : MethodName} {bytes : ByteArray} {maxL : Nat} {ret : Option FieldType} {hh : List (Nat × Nat × Nat × Nat)}
    (hown : s.vm.findClass own = some m.cls) (hlink : (Cond.methodLink own index y).before args s = true) (hstat : (Cond.static y).before args s = true) (hinit : (Cond.initialized y.cls).before args s = true)
    (hcode : (Cond.codeWith y bytes maxL ret hh).before args s = true) (hy : y.cls ≠ "java/lang/invoke/MethodHandle" ∧ y.cls ≠ "java/lang/invoke/VarHandle")
    {W9 : Nat} {Pre : Pt → Array Value → Prop} {Post : Pt → Array Value → Option Value → Pt → Prop} {PostX : Pt → Array Value → Addr → Pt → Prop} (hK : vx_Back l R p e below s args y 3 W9 Pre Post PostX)
    {g : JFrame} (hg : g.method = m) (hsize : g.locals.size = c.maxLocals) {argsL rest : List Value} (hlen : ∀ sig, parseMethodDescriptor y.desc = some sig → argsL.length = sig.parameters.length)
    (hstack : g.stack = argsL.reverse ++ rest) (hW : 2 * g.monitorRoom + (rest.map fun v => v.category).sum ≤ W9) (hdg : decode c.code g.pc = .ok (.invokestatic index, 3))
    (hpre : ∀ vm₁, s.WarmedH vm₁ → Pre ⟨T.setVm vm₁, locs, cells, slots⟩ argsL.toArray) :
    (∃ (v : Option Value) (vm₁ : Vm) (B : Pt), s.WarmedH vm₁ ∧ Stand p l e R s m args below meth c B.U B.locs B.cells B.slots ∧ Post ⟨T.setVm vm₁, locs, cells, slots⟩ argsL.toArray v B ∧
      ∀ target, Steps p.tables e below (B.U.setTop { g with pc := g.pc + 3, stack := v.toList ++ rest }) target → Steps p.tables e below (T.setTop g) target) ∨
    (∃ (q : Addr) (vm₁ : Vm) (B : Pt), s.WarmedH vm₁ ∧ Stand p l e R s m args below meth c B.U B.locs B.cells B.slots ∧ PostX ⟨T.setVm vm₁, locs, cells, slots⟩ argsL.toArray q B ∧
      Steps p.tables e below (T.setTop g) ((B.U.setTop { g with stack := rest }).pushFrame (.throwing q))) := by
  obtain ⟨mk, methM, cM, hnamed, hmethM, -, -, -, -, -, -, hsigM⟩ := Cond.codeWith_spec hcode
  have hstatic : methM.isStatic = true := Cond.static_spec hnamed hmethM hstat
  obtain ⟨kP, hkP, -⟩ := className_of_methodNamed hnamed
  have hinitP : kP.init = .initialized := Cond.initialized_spec (findClass_of_methodNamed hnamed) hkP hinit
  obtain ⟨vm₁, X₁, hstep₁⟩ := X.invokestatic hexec hown hlink hnamed hmethM hstatic hkP hinitP hy (g := g) hg (argsL := argsL) (rest := rest) (hlen _ hsigM) hstack hdg
  rcases hK m meth c ⟨T.setVm vm₁, locs, cells, slots⟩ { g with stack := rest } (.invokestatic index) mk argsL.toArray X₁ hg hsize hdg hW (X₁.named hnamed) (hpre vm₁ X₁.warmed) with ⟨v, B, X', hpost, hsteps⟩ | ⟨q, B, X', hpost, hsteps⟩
  · exact Or.inl ⟨v, vm₁, B, X₁.warmed, X', hpost, fun target h => hstep₁ _ fun acts => by rw [doInvoke_state]; exact hsteps.trans h⟩
  · exact Or.inr ⟨q, vm₁, B, X₁.warmed, X', hpost, hstep₁ _ fun acts => by rw [doInvoke_state]; exact hsteps⟩
theorem vx_callVW (X : Stand p l e R s m args below meth c T locs cells slots) (hexec : p.tables.exec = Jvm.exec) {own C : String} {index : Nat} {y : MethodName} {bytes : ByteArray} {maxL : Nat} {ret : Option FieldType} {hh : List (Nat × Nat × Nat × Nat)}
    (hown : s.vm.findClass own = some m.cls) (hlink : (Cond.methodLink own index y).before args s = true) (hinst : (Cond.instanceMethod y).before args s = true) (hsel : (Cond.selects C y y).before args s = true)
    (hcode : (Cond.codeWith y bytes maxL ret hh).before args s = true) (hy : y.cls ≠ "java/lang/invoke/MethodHandle" ∧ y.cls ≠ "java/lang/invoke/VarHandle")
    {W9 : Nat} {Pre : Pt → Array Value → Prop} {Post : Pt → Array Value → Option Value → Pt → Prop} (hK : Back l R p e below s args y 3 W9 Pre Post)
    {b : Addr} {cellB : Cell} (hcell : T.heap[b]? = some cellB) (hobj : cellB.vm.isStatics = false) (hcls : s.vm.findClass C = some cellB.cls)
    {g : JFrame} (hg : g.method = m) (hsize : g.locals.size = c.maxLocals) {argsL rest : List Value} (hlen : ∀ sig, parseMethodDescriptor y.desc = some sig → argsL.length = sig.parameters.length)
    (hstack : g.stack = argsL.reverse ++ .ref b :: rest) (hW : 2 * g.monitorRoom + (rest.map fun v => v.category).sum ≤ W9) (hdg : decode c.code g.pc = .ok (.invokevirtual index, 3))
    (hpre : ∀ vm₁, s.WarmedH vm₁ → Pre ⟨T.setVm vm₁, locs, cells, slots⟩ (Value.ref b :: argsL).toArray) :
    ∃ (v : Option Value) (vm₁ : Vm) (B : Pt), s.WarmedH vm₁ ∧ Stand p l e R s m args below meth c B.U B.locs B.cells B.slots ∧ Post ⟨T.setVm vm₁, locs, cells, slots⟩ (Value.ref b :: argsL).toArray v B ∧
      ∀ target, Steps p.tables e below (B.U.setTop { g with pc := g.pc + 3, stack := v.toList ++ rest }) target → Steps p.tables e below (T.setTop g) target := by
  obtain ⟨mk, methM, hnamed, hmethM, hstM, habM⟩ := Cond.instanceMethod_spec hinst
  obtain ⟨m8, methM', cM, hn8, hmethM', -, -, -, -, -, -, hsigM⟩ := Cond.codeWith_spec hcode
  cases Option.some.inj (hn8.symm.trans hnamed)
  cases hmethM.symm.trans hmethM'
  obtain ⟨c2, r2, m2, q1, q2, q3, q4, kP, hkP, hkPi⟩ := Cond.selects_spec hsel
  cases hcls.symm.trans q1
  cases (State.methodFound?_of_named hnamed hy).symm.trans q2
  cases hnamed.symm.trans q3
  have hselP : selectMethod e.platform s.vm cellB.cls mk = .method mk := by rw [Launch.admits_selectMethod X.admits]; exact q4
  obtain ⟨vm₁, X₁, hstep₁⟩ := X.invokevirtual hexec hown hlink hnamed hmethM hstM hkP hkPi hy (a := b) (cell := cellB) hcell
    (fun z h => by rw [h] at hobj; cases hobj) hselP hmethM habM hkP hkPi (g := g) hg (argsL := argsL) (rest := rest) (hlen _ hsigM) hstack hdg
  obtain ⟨v, B, X', hpost, hsteps⟩ := hK m meth c ⟨T.setVm vm₁, locs, cells, slots⟩ { g with stack := rest } (.invokevirtual index) mk (Value.ref b :: argsL).toArray X₁ hg hsize hdg hW (X₁.named hnamed) (hpre vm₁ X₁.warmed)
  exact ⟨v, vm₁, B, X₁.warmed, X', hpost, fun target h => hstep₁ _ fun acts => by rw [doInvoke_state]; exact hsteps.trans h⟩
abbrev vx_CVW (R : Room) (s : State) (args : Array Value) (own C : String) (index : Nat) (y : MethodName) (bytes : ByteArray) (maxL : Nat) (ret : Option FieldType) (hh : List (Nat × Nat × Nat × Nat)) (ws : List Cond) (rm : Room) (mc ms n : Nat) : Prop :=
  (rm.cells = mc ∧ rm.slots = ms ∧ rm.frames + 1 ≤ R.frames ∧ 8 + (maxL + 11) + rm.locals ≤ R.locals ∧ (∀ w ∈ ws, ∀ (a' : Array Value) (U : State), s.WarmedH U.vm → w.before a' U = true) ∧ Cond.codeWith y bytes maxL ret hh ∈ ws) ∧
  (Cond.codeWith y bytes maxL ret hh).before args s = true ∧ (Cond.initialized y.cls).before args s = true ∧ (y.cls ≠ "java/lang/invoke/MethodHandle" ∧ y.cls ≠ "java/lang/invoke/VarHandle") ∧
  (∀ sig, parseMethodDescriptor y.desc = some sig → n = sig.parameters.length) ∧ (Cond.methodLink own index y).before args s = true ∧ (Cond.instanceMethod y).before args s = true ∧ (Cond.selects C y y).before args s = true
theorem vx_cwVW {own C : String} {index maxL mc ms : Nat} {y : MethodName} {bytes : ByteArray} {ret : Option FieldType} {hh : List (Nat × Nat × Nat × Nat)} {Ts ws ws' : List Cond} {rm : Room} (n : Nat) (ht : ∀ w ∈ Ts, w.before args s = true) (hT : GoodIn Ts (wsV own index C y ws)) (hw : ws = Cond.codeWith y bytes maxL ret hh :: ws') (hrc : rm.cells = mc) (hrs : rm.slots = ms)
    (hd : y.cls = C ∧ y.cls ≠ "java/lang/invoke/MethodHandle" ∧ y.cls ≠ "java/lang/invoke/VarHandle" ∧ (parseMethodDescriptor y.desc).map (fun d => d.parameters.length) = some n) (hR : rm.frames + 1 ≤ R.frames ∧ 8 + (maxL + 11) + rm.locals ≤ R.locals) :
    vx_CVW R s args own C index y bytes maxL ret hh ws rm mc ms n := by
  obtain ⟨hC, hd⟩ := hd
  subst hC
  have ok : ∀ w ∈ wsV own index y.cls y ws, w.before args s = true := fun w h => ht w (hT w h).1
  have hG : GoodIn Ts ws := fun w h => hT w (by unfold wsV; exact List.mem_append_right _ h)
  have hc : Cond.codeWith y bytes maxL ret hh ∈ ws := by rw [hw]; exact List.mem_cons_self
  refine ⟨⟨hrc, hrs, hR.1, hR.2, pay_in ht hG, hc⟩, ht _ (hG _ hc).1, ok _ (by simp [wsV]), ⟨hd.1, hd.2.1⟩, fun sig h => ?_, ok _ (by simp [wsV]), ok _ (by simp [wsV]), ok _ (by simp [wsV])⟩
  have h2 := hd.2.2
  rw [h] at h2
  exact (Option.some.inj h2).symm
theorem vx_runVW {y : MethodName} {bytes cc : ByteArray} {maxL nL mc ms n index : Nat} {ret : Option FieldType} {hh : List (Nat × Nat × Nat × Nat)} {ws : List Cond} {rm : Room} {Pc : Array Value → State → Prop} {Qc : Array Value → State → Outcome → State → Prop} {free : Addr → Prop} {Ts : List Cond} {own C : String} {b : Addr} {As rest : List Value} {g : JFrame}
    (S : CallFix p m c cc nL s args Ts own) (hM : Met l y ws rm Pc Qc mc ms free) (cw : vx_CVW R s args own C index y bytes maxL ret hh ws rm mc ms n) (hp : PreV s H C b Pc As)
    (hg : g.method = m) (hn : As.length = n) (hsize : g.locals.size = nL) (hstack : g.stack = As.reverse ++ .ref b :: rest) (hW : 2 * g.monitorRoom + (rest.map fun v => v.category).sum ≤ 8) (hdg : decode cc g.pc = .ok (.invokevirtual index, 3)) (hf : cells + mc ≤ R.cells ∧ slots + ms ≤ R.slots) :
    va_Run p l e R s m args below meth c H locs cells slots mc ms g rest (Qc (Value.ref b :: As).toArray) free := by
  obtain ⟨⟨hrc, hrs, hfr, hlo, hws, hcw⟩, hcode, hini, hy, hlen, hl, hin, hse⟩ := cw
  have hK : Back l R p e below s args y 3 8 (PreOf R mc ms Pc) (PostOf Qc mc ms free) := va_backW (hh := hh) (bytes := bytes) (maxL := maxL) (ret := ret) hM hp.1 hrc hrs hfr hlo hws hcw (fun a' U hW => word_at hW (Or.inl (by first | rfl | simp [Cond.onTables, Cond.keeps, Cond.steady])) hini)
  obtain ⟨hx, hb, hml, ho, -⟩ := S
  obtain ⟨-, ⟨cellB, hcB, hoB, hclB⟩, hPc⟩ := hp
  intro T hT X
  obtain ⟨v, vm₁, ⟨U', l2, c2, s2⟩, hW₁, X', ⟨g', mk, t, L, e1, e2, hq, h1, hL, h2, h3⟩, st⟩ := vx_callVW X hx (C := C) (hh := hh) (bytes := bytes) (maxL := maxL) (ret := ret) ho hl hin hse hcode hy hK (by rw [hT]; exact hcB) hoB hclB hg (hsize.trans hml.symm) (argsL := As) (rest := rest) (fun sig h => hn.trans (hlen sig h)) hstack hW (by rw [hb]; exact hdg)
    (fun vm₁ hW₁ => ⟨hf.1, hf.2, hPc (T.setVm vm₁) hT hW₁⟩)
  dsimp only [Pt.U, Pt.locs, Pt.cells, Pt.slots] at X' e1 e2 h1 h2 h3 st
  subst h1; subst h2; subst h3
  exact ⟨v, (T.setVm vm₁).calling g' mk (Value.ref b :: As).toArray, t, U', L, hT, X', hL, e1, e2, hq, st⟩
section
variable {y : MethodName} {bytes cc : ByteArray} {maxL nL mc ms n index : Nat} {ret : Option FieldType} {ws : List Cond} {rm : Room} {Pc : Array Value → State → Prop} {Qc : Array Value → State → Outcome → State → Prop} {XC : String → State → State → Prop} {free : Addr → Prop} {Ts : List Cond} {own C : String} {b : Addr} {As rest : List Value} {g : JFrame}
theorem vx_runVX {hh : List (Nat × Nat × Nat × Nat)} (S : CallFix p m c cc nL s args Ts own) (hM : vx_Met l y ws rm Pc Qc XC mc ms free) (cw : vx_CVW R s args own C index y bytes maxL ret hh ws rm mc ms n) (hp : PreV s H C b Pc As)
    (hg : g.method = m) (hn : As.length = n) (hsize : g.locals.size = nL) (hstack : g.stack = As.reverse ++ .ref b :: rest) (hW : 2 * g.monitorRoom + (rest.map fun v => v.category).sum ≤ 8) (hdg : decode cc g.pc = .ok (.invokevirtual index, 3)) (hf : cells + mc ≤ R.cells ∧ slots + ms ≤ R.slots) :
    vx_Run p l e R s m args below meth c H locs cells slots mc ms g rest (Qc (Value.ref b :: As).toArray) XC free := by
  obtain ⟨⟨hrc, hrs, hfr, hlo, hws, hcw⟩, hcode, hini, hy, hlen, hl, hin, hse⟩ := cw
  have hK : vx_Back l R p e below s args y 3 8 (PreOf R mc ms Pc) (PostOf Qc mc ms free) (vx_Post XC mc ms free) := vx_backW (hh := hh) (bytes := bytes) (maxL := maxL) (ret := ret) hM hp.1 hrc hrs hfr hlo hws hcw (fun a' U hW => word_at hW (Or.inl (by first | rfl | simp [Cond.onTables, Cond.keeps, Cond.steady])) hini)
  obtain ⟨hx, hb, hml, ho, -⟩ := S
  obtain ⟨-, ⟨cellB, hcB, hoB, hclB⟩, hPc⟩ := hp
  intro T hT X
  rcases vx_callVX X hx (C := C) (hh := hh) (bytes := bytes) (maxL := maxL) (ret := ret) ho hl hin hse hcode hy hK (by rw [hT]; exact hcB) hoB hclB hg (hsize.trans hml.symm) (argsL := As) (rest := rest) (fun sig h => hn.trans (hlen sig h)) hstack hW (by rw [hb]; exact hdg)
    (fun vm₁ hW₁ => ⟨hf.1, hf.2, hPc (T.setVm vm₁) hT hW₁⟩) with ⟨v, vm₁, ⟨U', l2, c2, s2⟩, hW₁, X', ⟨g', mk, t, L, e1, e2, hq, h1, hL, h2, h3⟩, st⟩ | ⟨q, vm₁, ⟨U', l2, c2, s2⟩, hW₁, X', ⟨g', mk, t, L, E, ce, e1, e2, hq, hce, hcv, hcl, h1, hL, h2, h3⟩, st⟩
  · dsimp only [Pt.U, Pt.locs, Pt.cells, Pt.slots] at X' e1 e2 h1 h2 h3 st
    subst h1; subst h2; subst h3
    exact Or.inl ⟨v, (T.setVm vm₁).calling g' mk (Value.ref b :: As).toArray, t, U', L, hT, X', hL, e1, e2, hq, st⟩
  · dsimp only [Pt.U, Pt.locs, Pt.cells, Pt.slots] at X' e1 e2 h1 h2 h3 st hcl
    subst h1; subst h2; subst h3
    exact Or.inr ⟨q, (T.setVm vm₁).calling g' mk (Value.ref b :: As).toArray, t, U', L, E, ce, hT, X', hL, e1, e2, hq, hce, hcv, vx_cls hW₁ hcl, st⟩
theorem vx_runSX {hh : List (Nat × Nat × Nat × Nat)} (S : CallFix p m c cc nL s args Ts own) (hM : vx_Met l y ws rm Pc Qc XC mc ms free) (cw : vx_CSW R s args own index y bytes maxL ret hh ws rm mc ms n) (hp : PreS s H Pc As)
    (hg : g.method = m) (hn : As.length = n) (hsize : g.locals.size = nL) (hstack : g.stack = As.reverse ++ rest) (hW : 2 * g.monitorRoom + (rest.map fun v => v.category).sum ≤ 8) (hdg : decode cc g.pc = .ok (.invokestatic index, 3)) (hf : cells + mc ≤ R.cells ∧ slots + ms ≤ R.slots) :
    vx_Run p l e R s m args below meth c H locs cells slots mc ms g rest (Qc As.toArray) XC free := by
  obtain ⟨⟨hrc, hrs, hfr, hlo, hws, hcw⟩, hcode, hini, hy, hlen, hl, hstt⟩ := cw
  have hK : vx_Back l R p e below s args y 3 8 (PreOf R mc ms Pc) (PostOf Qc mc ms free) (vx_Post XC mc ms free) := vx_backW (hh := hh) (bytes := bytes) (maxL := maxL) (ret := ret) hM hp.1 hrc hrs hfr hlo hws hcw (fun a' U hW => word_at hW (Or.inl (by first | rfl | simp [Cond.onTables, Cond.keeps, Cond.steady])) hini)
  obtain ⟨hx, hb, hml, ho, -⟩ := S
  intro T hT X
  rcases vx_callSX X hx (hh := hh) (bytes := bytes) (maxL := maxL) (ret := ret) ho hl hstt hini hcode hy hK hg (hsize.trans hml.symm) (argsL := As) (rest := rest) (fun sig h => hn.trans (hlen sig h)) hstack hW (by rw [hb]; exact hdg)
    (fun vm₁ hW₁ => ⟨hf.1, hf.2, hp.2 (T.setVm vm₁) hT hW₁⟩) with ⟨v, vm₁, ⟨U', l2, c2, s2⟩, hW₁, X', ⟨g', mk, t, L, e1, e2, hq, h1, hL, h2, h3⟩, st⟩ | ⟨q, vm₁, ⟨U', l2, c2, s2⟩, hW₁, X', ⟨g', mk, t, L, E, ce, e1, e2, hq, hce, hcv, hcl, h1, hL, h2, h3⟩, st⟩
  · dsimp only [Pt.U, Pt.locs, Pt.cells, Pt.slots] at X' e1 e2 h1 h2 h3 st
    subst h1; subst h2; subst h3
    exact Or.inl ⟨v, (T.setVm vm₁).calling g' mk As.toArray, t, U', L, hT, X', hL, e1, e2, hq, st⟩
  · dsimp only [Pt.U, Pt.locs, Pt.cells, Pt.slots] at X' e1 e2 h1 h2 h3 st hcl
    subst h1; subst h2; subst h3
    exact Or.inr ⟨q, (T.setVm vm₁).calling g' mk As.toArray, t, U', L, E, ce, hT, X', hL, e1, e2, hq, hce, hcv, vx_cls hW₁ hcl, st⟩
end
end VXH
theorem vx_ofWH {l : Launch} {y : MethodName} {ws ws' : List Cond} {rm : Room} {Pc : Array Value → State → Prop} {Qc : Array Value → State → Outcome → State → Prop} {XC : String → State → State → Prop} {mc ms : Nat} {free : Addr → Prop} {cc : ByteArray} {maxL : Nat} {ret : Option FieldType} {hh : List (Nat × Nat × Nat × Nat)}
    (hy : plainName y.cls = true) (hw : ws = Cond.codeWith y cc maxL ret hh :: ws')
    (body : ∀ p e s m args below meth c s₁, BodyLoose p l y (headSpec ws rm) cc maxL ret e s m args below meth c s₁ → c.maxLocals = maxL → Pc args s →
      W p l e (headSpec ws rm).room s m args below meth c s.heap [] 0 0 (vx_MQ below Qc XC args s mc ms free) (entryFrame m args maxL)) : vx_Met l y ws rm Pc Qc XC mc ms free := by
  refine MetFree.of_bodyS (code := cc) (maxLocals := maxL) (ret := ret) hy ?_ ?_
  · intro args s m h hn
    obtain ⟨m9, meth, c, hn9, h1, h2, h3, h4, -, h5, h6, -⟩ := Cond.codeWith_spec (atoms_spec (ws := ws) h _ (by rw [hw]; exact List.mem_cons_self))
    cases hn.symm.trans hn9
    exact ⟨meth, c, h1, h2, h3, h4, h5, h6⟩
  · intro p e s m args below meth c s₁ B hml hP _
    have hh0 : s₁.heap = s.heap := by rw [B.state]; rfl
    obtain ⟨t, a1, o, b1, b2, b3⟩ := body p e s m args below meth c s₁ B hml hP s₁ hh0 (Stand.of_body B)
    exact ⟨t, o, a1, b1, b2, b3⟩
/-! ===== END ===== -/
end
section
def RX0 : String := "CouponSale$Allotment"
def TX0 : u_T := fun k => match k with
  | 0 => ("CouponSale$Allotment", "wanted", "[I", true)
  | 1 => ("CouponSale$Allotment", "won", "[I", true)
  | _ => ("CouponSale$Allotment", "rests", "[I", true)
def tyX0 : Nat → FieldType := fun k => match k with
  | 0 => .array .int
  | 1 => .array .int
  | _ => .array .int
abbrev wsX00 : List Cond := u_ws RX0 TX0 3
theorem nmX0 : ∀ a, a < 3 → ∀ b, b < 3 → a ≠ b → (TX0 a).2.1 ≠ (TX0 b).2.1 := by decide +kernel
theorem tyX0_ok : ∀ k, k < 3 → parseFieldDescriptor (TX0 k).2.2.1 = some (tyX0 k) := by decide +kernel
abbrev cX0_init : ByteArray := prog_2_method_1_code
def yX0_init : MethodName := ⟨RX0, "<init>", "()V"⟩
abbrev cX0_cutBackTo : ByteArray := prog_2_method_2_code
def yX0_cutBackTo : MethodName := ⟨RX0, "cutBackTo", "(I)V"⟩
abbrev cX0_giveOneToGreatestRest : ByteArray := prog_2_method_3_code
def yX0_giveOneToGreatestRest : MethodName := ⟨RX0, "giveOneToGreatestRest", "()V"⟩
def RX1 : String := "CouponSale$Bidder"
def TX1 : u_T := fun k => match k with
  | _ => ("", "", "", false)
def tyX1 : Nat → FieldType := fun k => match k with
  | _ => .int
abbrev wsX10 : List Cond := u_ws RX1 TX1 0
theorem nmX1 : ∀ a, a < 0 → ∀ b, b < 0 → a ≠ b → (TX1 a).2.1 ≠ (TX1 b).2.1 := by decide +kernel
theorem tyX1_ok : ∀ k, k < 0 → parseFieldDescriptor (TX1 k).2.2.1 = some (tyX1 k) := by decide +kernel
abbrev cX1_init : ByteArray := prog_3_method_1_code
def yX1_init : MethodName := ⟨RX1, "<init>", "()V"⟩
def RX2 : String := "CouponSale$Fraction"
def TX2 : u_T := fun k => match k with
  | 0 => ("CouponSale$Fraction", "upper", "J", false)
  | _ => ("CouponSale$Fraction", "lower", "J", false)
def tyX2 : Nat → FieldType := fun k => match k with
  | 0 => .long
  | _ => .long
abbrev wsX20 : List Cond := u_ws RX2 TX2 2
theorem nmX2 : ∀ a, a < 2 → ∀ b, b < 2 → a ≠ b → (TX2 a).2.1 ≠ (TX2 b).2.1 := by decide +kernel
theorem tyX2_ok : ∀ k, k < 2 → parseFieldDescriptor (TX2 k).2.2.1 = some (tyX2 k) := by decide +kernel
abbrev cX2_init : ByteArray := prog_4_method_1_code
def yX2_init : MethodName := ⟨RX2, "<init>", "(J)V"⟩
abbrev cX2_add : ByteArray := prog_4_method_2_code
def yX2_add : MethodName := ⟨RX2, "add", "(JJ)V"⟩
abbrev cX2_divideBy : ByteArray := prog_4_method_3_code
def yX2_divideBy : MethodName := ⟨RX2, "divideBy", "(J)V"⟩
abbrev cX2_shorten : ByteArray := prog_4_method_4_code
def yX2_shorten : MethodName := ⟨RX2, "shorten", "()V"⟩
abbrev cX2_divisorInCommon : ByteArray := prog_4_method_5_code
def yX2_divisorInCommon : MethodName := ⟨RX2, "divisorInCommon", "(JJ)J"⟩
def RX3 : String := "CouponSale$Fund"
def TX3 : u_T := fun k => match k with
  | 0 => ("CouponSale$Bidder", "points", "I", false)
  | 1 => ("CouponSale$Fund", "promised", "I", true)
  | 2 => ("CouponSale$Fund", "givenBy", "[I", true)
  | _ => ("CouponSale$Fund", "given", "I", false)
def tyX3 : Nat → FieldType := fun k => match k with
  | 0 => .int
  | 1 => .int
  | 2 => .array .int
  | _ => .int
abbrev wsX30 : List Cond := u_ws RX3 TX3 4
theorem nmX3 : ∀ a, a < 4 → ∀ b, b < 4 → a ≠ b → (TX3 a).2.1 ≠ (TX3 b).2.1 := by decide +kernel
theorem tyX3_ok : ∀ k, k < 4 → parseFieldDescriptor (TX3 k).2.2.1 = some (tyX3 k) := by decide +kernel
abbrev cX3_init : ByteArray := prog_5_method_1_code
def yX3_init : MethodName := ⟨RX3, "<init>", "(I)V"⟩
def RX4 : String := "CouponSale$Person"
def TX4 : u_T := fun k => match k with
  | 0 => ("CouponSale$Bidder", "points", "I", false)
  | _ => ("CouponSale$Person", "workerOf", "I", true)
def tyX4 : Nat → FieldType := fun k => match k with
  | 0 => .int
  | _ => .int
abbrev wsX40 : List Cond := u_ws RX4 TX4 2
theorem nmX4 : ∀ a, a < 2 → ∀ b, b < 2 → a ≠ b → (TX4 a).2.1 ≠ (TX4 b).2.1 := by decide +kernel
theorem tyX4_ok : ∀ k, k < 2 → parseFieldDescriptor (TX4 k).2.2.1 = some (tyX4 k) := by decide +kernel
abbrev cX4_init : ByteArray := prog_6_method_1_code
def yX4_init : MethodName := ⟨RX4, "<init>", "(I)V"⟩
def RX5 : String := "CouponSale$Rule"
def TX5 : u_T := fun k => match k with
  | _ => ("", "", "", false)
def tyX5 : Nat → FieldType := fun k => match k with
  | _ => .int
abbrev wsX50 : List Cond := u_ws RX5 TX5 0
theorem nmX5 : ∀ a, a < 0 → ∀ b, b < 0 → a ≠ b → (TX5 a).2.1 ≠ (TX5 b).2.1 := by decide +kernel
theorem tyX5_ok : ∀ k, k < 0 → parseFieldDescriptor (TX5 k).2.2.1 = some (tyX5 k) := by decide +kernel
def RX6 : String := "CouponSale$RuleText"
def TX6 : u_T := fun k => match k with
  | 0 => ("CouponSale$RuleText", "values", "[I", true)
  | 1 => ("CouponSale$RuleText", "told", "[I", true)
  | 2 => ("CouponSale$RuleText", "toldCount", "I", false)
  | 3 => ("CouponSale$RuleText", "awaited", "I", false)
  | 4 => ("CouponSale$RuleText", "open", "LCouponSale$Rule;", false)
  | 5 => ("CouponSale$RuleText", "faultKind", "I", false)
  | _ => ("CouponSale$RuleText", "faultPlace", "I", false)
def tyX6 : Nat → FieldType := fun k => match k with
  | 0 => .array .int
  | 1 => .array .int
  | 2 => .int
  | 3 => .int
  | 4 => .object "CouponSale$Rule"
  | 5 => .int
  | _ => .int
abbrev wsX60 : List Cond := u_ws RX6 TX6 7
theorem nmX6 : ∀ a, a < 7 → ∀ b, b < 7 → a ≠ b → (TX6 a).2.1 ≠ (TX6 b).2.1 := by decide +kernel
theorem tyX6_ok : ∀ k, k < 7 → parseFieldDescriptor (TX6 k).2.2.1 = some (tyX6 k) := by decide +kernel
abbrev cX6_init : ByteArray := prog_8_method_1_code
def yX6_init : MethodName := ⟨RX6, "<init>", "()V"⟩
abbrev cX6_valueOf : ByteArray := prog_8_method_2_code
def yX6_valueOf : MethodName := ⟨RX6, "valueOf", "(LCouponSale$Rule;)I"⟩
abbrev cX6_read : ByteArray := prog_8_method_3_code
def yX6_read : MethodName := ⟨RX6, "read", "(LCouponSale$Tape;)I"⟩
abbrev cX6_begin : ByteArray := prog_8_method_4_code
def yX6_begin : MethodName := ⟨RX6, "begin", "()V"⟩
abbrev cX6_putInForce : ByteArray := prog_8_method_5_code
def yX6_putInForce : MethodName := ⟨RX6, "putInForce", "()V"⟩
abbrev cX6_setFault : ByteArray := prog_8_method_6_code
def yX6_setFault : MethodName := ⟨RX6, "setFault", "(II)V"⟩
abbrev cX6_takeToken : ByteArray := prog_8_method_7_code
def yX6_takeToken : MethodName := ⟨RX6, "takeToken", "(LCouponSale$Tape;II)V"⟩
abbrev cX6_takeWord : ByteArray := prog_8_method_8_code
def yX6_takeWord : MethodName := ⟨RX6, "takeWord", "(LCouponSale$Tape;II)V"⟩
abbrev cX6_takeNumber : ByteArray := prog_8_method_9_code
def yX6_takeNumber : MethodName := ⟨RX6, "takeNumber", "(LCouponSale$Tape;II)V"⟩
abbrev cX6_tokenEnd : ByteArray := prog_8_method_10_code
def yX6_tokenEnd : MethodName := ⟨RX6, "tokenEnd", "(LCouponSale$Tape;I)I"⟩
abbrev cX6_tokenKind : ByteArray := prog_8_method_11_code
def yX6_tokenKind : MethodName := ⟨RX6, "tokenKind", "(LCouponSale$Tape;II)I"⟩
abbrev cX6_ruleOf : ByteArray := prog_8_method_12_code
def yX6_ruleOf : MethodName := ⟨RX6, "ruleOf", "(LCouponSale$Tape;II)LCouponSale$Rule;"⟩
abbrev cX6_spells : ByteArray := prog_8_method_13_code
def yX6_spells : MethodName := ⟨RX6, "spells", "(LCouponSale$Tape;IILjava/lang/String;)Z"⟩
abbrev cX6_isBlank : ByteArray := prog_8_method_14_code
def yX6_isBlank : MethodName := ⟨RX6, "isBlank", "(I)Z"⟩
abbrev cX6_isLetter : ByteArray := prog_8_method_15_code
def yX6_isLetter : MethodName := ⟨RX6, "isLetter", "(I)Z"⟩
abbrev cX6_isDigit : ByteArray := prog_8_method_16_code
def yX6_isDigit : MethodName := ⟨RX6, "isDigit", "(I)Z"⟩
abbrev cX6_isOfWordOrNumber : ByteArray := prog_8_method_17_code
def yX6_isOfWordOrNumber : MethodName := ⟨RX6, "isOfWordOrNumber", "(I)Z"⟩
def RX7 : String := "CouponSale$Tape"
def TX7 : u_T := fun k => match k with
  | 0 => ("CouponSale$Tape", "bytes", "[B", true)
  | _ => ("CouponSale$Tape", "length", "I", false)
def tyX7 : Nat → FieldType := fun k => match k with
  | 0 => .array .byte
  | _ => .int
abbrev wsX70 : List Cond := u_ws RX7 TX7 2
theorem nmX7 : ∀ a, a < 2 → ∀ b, b < 2 → a ≠ b → (TX7 a).2.1 ≠ (TX7 b).2.1 := by decide +kernel
theorem tyX7_ok : ∀ k, k < 2 → parseFieldDescriptor (TX7 k).2.2.1 = some (tyX7 k) := by decide +kernel
abbrev cX7_init : ByteArray := prog_9_method_1_code
def yX7_init : MethodName := ⟨RX7, "<init>", "()V"⟩
abbrev cX7_hasRoomFor : ByteArray := prog_9_method_2_code
def yX7_hasRoomFor : MethodName := ⟨RX7, "hasRoomFor", "(I)Z"⟩
abbrev cX7_append : ByteArray := prog_9_method_3_code
def yX7_append : MethodName := ⟨RX7, "append", "(I)V"⟩
abbrev cX7_shortenTo : ByteArray := prog_9_method_4_code
def yX7_shortenTo : MethodName := ⟨RX7, "shortenTo", "(I)Z"⟩
abbrev cX7_at : ByteArray := prog_9_method_5_code
def yX7_at : MethodName := ⟨RX7, "at", "(I)I"⟩
def RX8 : String := "CouponSale$Work"
def TX8 : u_T := fun k => match k with
  | 0 => ("CouponSale$Work", "shares", "I", true)
  | 1 => ("CouponSale$Work", "madeIn", "I", true)
  | 2 => ("CouponSale$Work", "left", "I", false)
  | 3 => ("CouponSale$Work", "priceNow", "I", false)
  | 4 => ("CouponSale$Work", "asked", "[I", true)
  | 5 => ("CouponSale$Work", "held", "[I", true)
  | 6 => ("CouponSale$Work", "priceIn", "[I", true)
  | _ => ("CouponSale$Work", "heldRows", "[I", true)
def tyX8 : Nat → FieldType := fun k => match k with
  | 0 => .int
  | 1 => .int
  | 2 => .int
  | 3 => .int
  | 4 => .array .int
  | 5 => .array .int
  | 6 => .array .int
  | _ => .array .int
abbrev wsX80 : List Cond := u_ws RX8 TX8 8
theorem nmX8 : ∀ a, a < 8 → ∀ b, b < 8 → a ≠ b → (TX8 a).2.1 ≠ (TX8 b).2.1 := by decide +kernel
theorem tyX8_ok : ∀ k, k < 8 → parseFieldDescriptor (TX8 k).2.2.1 = some (tyX8 k) := by decide +kernel
abbrev cX8_init : ByteArray := prog_10_method_1_code
def yX8_init : MethodName := ⟨RX8, "<init>", "(III)V"⟩
abbrev cX8_heldAsOf : ByteArray := prog_10_method_2_code
def yX8_heldAsOf : MethodName := ⟨RX8, "heldAsOf", "(II)I"⟩
abbrev cX8_keepFor : ByteArray := prog_10_method_3_code
def yX8_keepFor : MethodName := ⟨RX8, "keepFor", "(I)V"⟩
def RX9 : String := "CouponSale"
def TX9 : u_T := fun k => match k with
  | 0 => ("CouponSale", "tape", "LCouponSale$Tape;", true)
  | 1 => ("CouponSale", "ruleText", "LCouponSale$RuleText;", true)
  | 2 => ("CouponSale", "works", "[LCouponSale$Work;", true)
  | 3 => ("CouponSale", "people", "[LCouponSale$Person;", true)
  | 4 => ("CouponSale", "funds", "[LCouponSale$Fund;", true)
  | 5 => ("CouponSale", "allotment", "LCouponSale$Allotment;", true)
  | 6 => ("CouponSale", "workCount", "I", false)
  | 7 => ("CouponSale", "peopleCount", "I", false)
  | 8 => ("CouponSale", "fundCount", "I", false)
  | 9 => ("CouponSale", "roundNow", "I", false)
  | _ => ("CouponSale", "soldInAll", "I", false)
def tyX9 : Nat → FieldType := fun k => match k with
  | 0 => .object "CouponSale$Tape"
  | 1 => .object "CouponSale$RuleText"
  | 2 => .array (.object "CouponSale$Work")
  | 3 => .array (.object "CouponSale$Person")
  | 4 => .array (.object "CouponSale$Fund")
  | 5 => .object "CouponSale$Allotment"
  | 6 => .int
  | 7 => .int
  | 8 => .int
  | 9 => .int
  | _ => .int
abbrev wsX90 : List Cond := u_ws RX9 TX9 11
theorem nmX9 : ∀ a, a < 11 → ∀ b, b < 11 → a ≠ b → (TX9 a).2.1 ≠ (TX9 b).2.1 := by decide +kernel
theorem tyX9_ok : ∀ k, k < 11 → parseFieldDescriptor (TX9 k).2.2.1 = some (tyX9 k) := by decide +kernel
abbrev cX9_init : ByteArray := prog_1_method_1_code
def yX9_init : MethodName := ⟨RX9, "<init>", "()V"⟩
abbrev cX9_feed : ByteArray := prog_1_method_2_code
def yX9_feed : MethodName := ⟨RX9, "feed", "(IIIII)I"⟩
abbrev cX9_end : ByteArray := prog_1_method_3_code
def yX9_end : MethodName := ⟨RX9, "end", "(I)Z"⟩
abbrev cX9_rules : ByteArray := prog_1_method_4_code
def yX9_rules : MethodName := ⟨RX9, "rules", "()I"⟩
abbrev cX9_fault : ByteArray := prog_1_method_5_code
def yX9_fault : MethodName := ⟨RX9, "fault", "()I"⟩
abbrev cX9_rule : ByteArray := prog_1_method_6_code
def yX9_rule : MethodName := ⟨RX9, "rule", "(I)I"⟩
abbrev cX9_work : ByteArray := prog_1_method_7_code
def yX9_work : MethodName := ⟨RX9, "work", "(II)I"⟩
abbrev cX9_person : ByteArray := prog_1_method_8_code
def yX9_person : MethodName := ⟨RX9, "person", "(I)I"⟩
abbrev cX9_fund : ByteArray := prog_1_method_9_code
def yX9_fund : MethodName := ⟨RX9, "fund", "(I)I"⟩
abbrev cX9_give : ByteArray := prog_1_method_10_code
def yX9_give : MethodName := ⟨RX9, "give", "(III)I"⟩
abbrev cX9_bid : ByteArray := prog_1_method_11_code
def yX9_bid : MethodName := ⟨RX9, "bid", "(III)I"⟩
abbrev cX9_close : ByteArray := prog_1_method_12_code
def yX9_close : MethodName := ⟨RX9, "close", "()I"⟩
abbrev cX9_about : ByteArray := prog_1_method_13_code
def yX9_about : MethodName := ⟨RX9, "about", "(II)I"⟩
abbrev cX9_price : ByteArray := prog_1_method_14_code
def yX9_price : MethodName := ⟨RX9, "price", "(II)I"⟩
abbrev cX9_purse : ByteArray := prog_1_method_15_code
def yX9_purse : MethodName := ⟨RX9, "purse", "(II)I"⟩
abbrev cX9_holds : ByteArray := prog_1_method_16_code
def yX9_holds : MethodName := ⟨RX9, "holds", "(III)I"⟩
abbrev cX9_asks : ByteArray := prog_1_method_17_code
def yX9_asks : MethodName := ⟨RX9, "asks", "(II)I"⟩
abbrev cX9_owned : ByteArray := prog_1_method_18_code
def yX9_owned : MethodName := ⟨RX9, "owned", "(IIII)J"⟩
abbrev cX9_count : ByteArray := prog_1_method_19_code
def yX9_count : MethodName := ⟨RX9, "count", "(I)I"⟩
abbrev cX9_workAt : ByteArray := prog_1_method_20_code
def yX9_workAt : MethodName := ⟨RX9, "workAt", "(I)LCouponSale$Work;"⟩
abbrev cX9_personAt : ByteArray := prog_1_method_21_code
def yX9_personAt : MethodName := ⟨RX9, "personAt", "(I)LCouponSale$Person;"⟩
abbrev cX9_fundAt : ByteArray := prog_1_method_22_code
def yX9_fundAt : MethodName := ⟨RX9, "fundAt", "(I)LCouponSale$Fund;"⟩
abbrev cX9_bidderAt : ByteArray := prog_1_method_23_code
def yX9_bidderAt : MethodName := ⟨RX9, "bidderAt", "(I)LCouponSale$Bidder;"⟩
abbrev cX9_costOfBids : ByteArray := prog_1_method_24_code
def yX9_costOfBids : MethodName := ⟨RX9, "costOfBids", "(I)I"⟩
abbrev cX9_sharesHeldBy : ByteArray := prog_1_method_25_code
def yX9_sharesHeldBy : MethodName := ⟨RX9, "sharesHeldBy", "(I)I"⟩
abbrev cX9_worthHeldBy : ByteArray := prog_1_method_26_code
def yX9_worthHeldBy : MethodName := ⟨RX9, "worthHeldBy", "(I)I"⟩
abbrev cX9_isKept : ByteArray := prog_1_method_27_code
def yX9_isKept : MethodName := ⟨RX9, "isKept", "(LCouponSale$Fund;I)Z"⟩
abbrev cX9_partOwned : ByteArray := prog_1_method_28_code
def yX9_partOwned : MethodName := ⟨RX9, "partOwned", "(ILCouponSale$Work;I)LCouponSale$Fraction;"⟩
abbrev cX9_endRoundOf : ByteArray := prog_1_method_29_code
def yX9_endRoundOf : MethodName := ⟨RX9, "endRoundOf", "(I)I"⟩
abbrev cX9_sellToWorkers : ByteArray := prog_1_method_30_code
def yX9_sellToWorkers : MethodName := ⟨RX9, "sellToWorkers", "(LCouponSale$Work;I)V"⟩
abbrev cX9_sellToAll : ByteArray := prog_1_method_31_code
def yX9_sellToAll : MethodName := ⟨RX9, "sellToAll", "(LCouponSale$Work;)V"⟩
abbrev cX9_handOver : ByteArray := prog_1_method_32_code
def yX9_handOver : MethodName := ⟨RX9, "handOver", "(LCouponSale$Work;I)V"⟩
abbrev cX9_movedPrice : ByteArray := prog_1_method_33_code
def yX9_movedPrice : MethodName := ⟨RX9, "movedPrice", "(III)I"⟩
abbrev cX9_isWithin : ByteArray := prog_1_method_34_code
def yX9_isWithin : MethodName := ⟨RX9, "isWithin", "(III)Z"⟩
abbrev cX9_sumOf : ByteArray := prog_1_method_35_code
def yX9_sumOf : MethodName := ⟨RX9, "sumOf", "([I)I"⟩
abbrev cX9_dividedUp : ByteArray := prog_1_method_36_code
def yX9_dividedUp : MethodName := ⟨RX9, "dividedUp", "(II)I"⟩
def RX10 : String := "CouponSaleModel"
def TX10 : u_T := fun k => match k with
  | 0 => ("CouponSaleModel", "thrown", "I", false)
  | 1 => ("CouponSaleModel", "tape", "[I", true)
  | 2 => ("CouponSaleModel", "taped", "I", false)
  | 3 => ("CouponSaleModel", "rule", "[I", true)
  | 4 => ("CouponSaleModel", "usual", "[I", true)
  | 5 => ("CouponSaleModel", "low", "[I", true)
  | 6 => ("CouponSaleModel", "high", "[I", true)
  | 7 => ("CouponSaleModel", "fresh", "[I", true)
  | 8 => ("CouponSaleModel", "size", "I", false)
  | 9 => ("CouponSaleModel", "to", "I", false)
  | 10 => ("CouponSaleModel", "from", "I", false)
  | 11 => ("CouponSaleModel", "kind", "I", false)
  | 12 => ("CouponSaleModel", "number", "I", false)
  | 13 => ("CouponSaleModel", "fault", "I", false)
  | 14 => ("CouponSaleModel", "place", "I", false)
  | 15 => ("CouponSaleModel", "told", "I", false)
  | 16 => ("CouponSaleModel", "word", "J", false)
  | 17 => ("CouponSaleModel", "shares", "[I", true)
  | 18 => ("CouponSaleModel", "left", "[I", true)
  | 19 => ("CouponSaleModel", "price", "[I", true)
  | 20 => ("CouponSaleModel", "prices", "[I", true)
  | 21 => ("CouponSaleModel", "since", "[I", true)
  | 22 => ("CouponSaleModel", "points", "[I", true)
  | 23 => ("CouponSaleModel", "worker", "[I", true)
  | 24 => ("CouponSaleModel", "promise", "[I", true)
  | 25 => ("CouponSaleModel", "given", "[I", true)
  | 26 => ("CouponSaleModel", "gift", "[I", true)
  | 27 => ("CouponSaleModel", "asked", "[I", true)
  | 28 => ("CouponSaleModel", "held", "[I", true)
  | 29 => ("CouponSaleModel", "was", "[I", true)
  | 30 => ("CouponSaleModel", "works", "I", false)
  | 31 => ("CouponSaleModel", "people", "I", false)
  | 32 => ("CouponSaleModel", "funds", "I", false)
  | 33 => ("CouponSaleModel", "round", "I", false)
  | 34 => ("CouponSaleModel", "soldAll", "I", false)
  | 35 => ("CouponSaleModel", "wants", "[I", true)
  | _ => ("CouponSaleModel", "gets", "[I", true)
def tyX10 : Nat → FieldType := fun k => match k with
  | 0 => .int
  | 1 => .array .int
  | 2 => .int
  | 3 => .array .int
  | 4 => .array .int
  | 5 => .array .int
  | 6 => .array .int
  | 7 => .array .int
  | 8 => .int
  | 9 => .int
  | 10 => .int
  | 11 => .int
  | 12 => .int
  | 13 => .int
  | 14 => .int
  | 15 => .int
  | 16 => .long
  | 17 => .array .int
  | 18 => .array .int
  | 19 => .array .int
  | 20 => .array .int
  | 21 => .array .int
  | 22 => .array .int
  | 23 => .array .int
  | 24 => .array .int
  | 25 => .array .int
  | 26 => .array .int
  | 27 => .array .int
  | 28 => .array .int
  | 29 => .array .int
  | 30 => .int
  | 31 => .int
  | 32 => .int
  | 33 => .int
  | 34 => .int
  | 35 => .array .int
  | _ => .array .int
abbrev wsX100 : List Cond := u_ws RX10 TX10 37
theorem nmX10 : ∀ a, a < 37 → ∀ b, b < 37 → a ≠ b → (TX10 a).2.1 ≠ (TX10 b).2.1 := by decide +kernel
theorem tyX10_ok : ∀ k, k < 37 → parseFieldDescriptor (TX10 k).2.2.1 = some (tyX10 k) := by decide +kernel
abbrev cX10_init : ByteArray := prog_12_method_1_code
def yX10_init : MethodName := ⟨RX10, "<init>", "()V"⟩
abbrev cX10_thrown : ByteArray := prog_12_method_2_code
def yX10_thrown : MethodName := ⟨RX10, "thrown", "()I"⟩
abbrev cX10_refuse : ByteArray := prog_12_method_3_code
def yX10_refuse : MethodName := ⟨RX10, "refuse", "()I"⟩
abbrev cX10_come : ByteArray := prog_12_method_4_code
def yX10_come : MethodName := ⟨RX10, "come", "(I)V"⟩
abbrev cX10_feed : ByteArray := prog_12_method_5_code
def yX10_feed : MethodName := ⟨RX10, "feed", "(IIIII)I"⟩
abbrev cX10_end : ByteArray := prog_12_method_6_code
def yX10_end : MethodName := ⟨RX10, "end", "(I)Z"⟩
abbrev cX10_byteAt : ByteArray := prog_12_method_7_code
def yX10_byteAt : MethodName := ⟨RX10, "byteAt", "(I)I"⟩
abbrev cX10_isDigit : ByteArray := prog_12_method_8_code
def yX10_isDigit : MethodName := ⟨RX10, "isDigit", "(I)Z"⟩
abbrev cX10_isLetter : ByteArray := prog_12_method_9_code
def yX10_isLetter : MethodName := ⟨RX10, "isLetter", "(I)Z"⟩
abbrev cX10_go : ByteArray := prog_12_method_10_code
def yX10_go : MethodName := ⟨RX10, "go", "()V"⟩
abbrev cX10_spelt : ByteArray := prog_12_method_11_code
def yX10_spelt : MethodName := ⟨RX10, "spelt", "(III)J"⟩
abbrev cX10_isKey : ByteArray := prog_12_method_12_code
def yX10_isKey : MethodName := ⟨RX10, "isKey", "(J)Z"⟩
abbrev cX10_ruleAtHand : ByteArray := prog_12_method_13_code
def yX10_ruleAtHand : MethodName := ⟨RX10, "ruleAtHand", "()I"⟩
abbrev cX10_bad : ByteArray := prog_12_method_14_code
def yX10_bad : MethodName := ⟨RX10, "bad", "(I)Z"⟩
abbrev cX10_readRule : ByteArray := prog_12_method_15_code
def yX10_readRule : MethodName := ⟨RX10, "readRule", "()Z"⟩
abbrev cX10_rules : ByteArray := prog_12_method_16_code
def yX10_rules : MethodName := ⟨RX10, "rules", "()I"⟩
abbrev cX10_fault : ByteArray := prog_12_method_17_code
def yX10_fault : MethodName := ⟨RX10, "fault", "()I"⟩
abbrev cX10_rule : ByteArray := prog_12_method_18_code
def yX10_rule : MethodName := ⟨RX10, "rule", "(I)I"⟩
abbrev cX10_isIn : ByteArray := prog_12_method_19_code
def yX10_isIn : MethodName := ⟨RX10, "isIn", "(III)Z"⟩
abbrev cX10_isWork : ByteArray := prog_12_method_20_code
def yX10_isWork : MethodName := ⟨RX10, "isWork", "(I)Z"⟩
abbrev cX10_isPerson : ByteArray := prog_12_method_21_code
def yX10_isPerson : MethodName := ⟨RX10, "isPerson", "(I)Z"⟩
abbrev cX10_isFund : ByteArray := prog_12_method_22_code
def yX10_isFund : MethodName := ⟨RX10, "isFund", "(I)Z"⟩
abbrev cX10_isBidder : ByteArray := prog_12_method_23_code
def yX10_isBidder : MethodName := ⟨RX10, "isBidder", "(I)Z"⟩
abbrev cX10_work : ByteArray := prog_12_method_24_code
def yX10_work : MethodName := ⟨RX10, "work", "(II)I"⟩
abbrev cX10_person : ByteArray := prog_12_method_25_code
def yX10_person : MethodName := ⟨RX10, "person", "(I)I"⟩
abbrev cX10_fund : ByteArray := prog_12_method_26_code
def yX10_fund : MethodName := ⟨RX10, "fund", "(I)I"⟩
abbrev cX10_costs : ByteArray := prog_12_method_27_code
def yX10_costs : MethodName := ⟨RX10, "costs", "(I)I"⟩
abbrev cX10_give : ByteArray := prog_12_method_28_code
def yX10_give : MethodName := ⟨RX10, "give", "(III)I"⟩
abbrev cX10_bid : ByteArray := prog_12_method_29_code
def yX10_bid : MethodName := ⟨RX10, "bid", "(III)I"⟩
abbrev cX10_part : ByteArray := prog_12_method_30_code
def yX10_part : MethodName := ⟨RX10, "part", "(I)I"⟩
abbrev cX10_sells : ByteArray := prog_12_method_31_code
def yX10_sells : MethodName := ⟨RX10, "sells", "(II)I"⟩
abbrev cX10_sellsWork : ByteArray := prog_12_method_32_code
def yX10_sellsWork : MethodName := ⟨RX10, "sellsWork", "(I)I"⟩
abbrev cX10_close : ByteArray := prog_12_method_33_code
def yX10_close : MethodName := ⟨RX10, "close", "()I"⟩
abbrev cX10_about : ByteArray := prog_12_method_34_code
def yX10_about : MethodName := ⟨RX10, "about", "(II)I"⟩
abbrev cX10_price : ByteArray := prog_12_method_35_code
def yX10_price : MethodName := ⟨RX10, "price", "(II)I"⟩
abbrev cX10_isKept : ByteArray := prog_12_method_36_code
def yX10_isKept : MethodName := ⟨RX10, "isKept", "(I)Z"⟩
abbrev cX10_purse : ByteArray := prog_12_method_37_code
def yX10_purse : MethodName := ⟨RX10, "purse", "(II)I"⟩
abbrev cX10_heldAsOf : ByteArray := prog_12_method_38_code
def yX10_heldAsOf : MethodName := ⟨RX10, "heldAsOf", "(III)I"⟩
abbrev cX10_isRound : ByteArray := prog_12_method_39_code
def yX10_isRound : MethodName := ⟨RX10, "isRound", "(I)Z"⟩
abbrev cX10_holds : ByteArray := prog_12_method_40_code
def yX10_holds : MethodName := ⟨RX10, "holds", "(III)I"⟩
abbrev cX10_asks : ByteArray := prog_12_method_41_code
def yX10_asks : MethodName := ⟨RX10, "asks", "(II)I"⟩
abbrev cX10_common : ByteArray := prog_12_method_42_code
def yX10_common : MethodName := ⟨RX10, "common", "(JJ)J"⟩
abbrev cX10_owned : ByteArray := prog_12_method_43_code
def yX10_owned : MethodName := ⟨RX10, "owned", "(IIII)J"⟩
abbrev cX10_count : ByteArray := prog_12_method_44_code
def yX10_count : MethodName := ⟨RX10, "count", "(I)I"⟩
def RJx29ce0 : String := "java/lang/Enum"
def TJx29ce0 : u_T := fun k => match k with
  | _ => ("", "", "", false)
def tyJx29ce0 : Nat → FieldType := fun k => match k with
  | _ => .int
abbrev wsJx29ce00 : List Cond := u_ws RJx29ce0 TJx29ce0 0
theorem nmJx29ce0 : ∀ a, a < 0 → ∀ b, b < 0 → a ≠ b → (TJx29ce0 a).2.1 ≠ (TJx29ce0 b).2.1 := by decide +kernel
theorem tyJx29ce0_ok : ∀ k, k < 0 → parseFieldDescriptor (TJx29ce0 k).2.2.1 = some (tyJx29ce0 k) := by decide +kernel
def RJ9 : String := "java/lang/Math"
def TJ9 : u_T := fun k => match k with
  | _ => ("", "", "", false)
def tyJ9 : Nat → FieldType := fun k => match k with
  | _ => .int
abbrev wsJ90 : List Cond := u_ws RJ9 TJ9 0
theorem nmJ9 : ∀ a, a < 0 → ∀ b, b < 0 → a ≠ b → (TJ9 a).2.1 ≠ (TJ9 b).2.1 := by decide +kernel
theorem tyJ9_ok : ∀ k, k < 0 → parseFieldDescriptor (TJ9 k).2.2.1 = some (tyJ9 k) := by decide +kernel
abbrev cJ9_max_7cf53 : ByteArray := prog_15_method_65_code
def yJ9_max_7cf53 : MethodName := ⟨RJ9, "max", "(II)I"⟩
abbrev cJ9_min_7cf53 : ByteArray := prog_15_method_69_code
def yJ9_min_7cf53 : MethodName := ⟨RJ9, "min", "(II)I"⟩
def RJ0 : String := "java/lang/String"
def TJ0 : u_T := fun k => match k with
  | _ => ("", "", "", false)
def tyJ0 : Nat → FieldType := fun k => match k with
  | _ => .int
abbrev wsJ00 : List Cond := u_ws RJ0 TJ0 0
theorem nmJ0 : ∀ a, a < 0 → ∀ b, b < 0 → a ≠ b → (TJ0 a).2.1 ≠ (TJ0 b).2.1 := by decide +kernel
theorem tyJ0_ok : ∀ k, k < 0 → parseFieldDescriptor (TJ0 k).2.2.1 = some (tyJ0 k) := by decide +kernel
abbrev cJ0_length_8abf5 : ByteArray := prog_17_method_54_code
def yJ0_length_8abf5 : MethodName := ⟨RJ0, "length", "()I"⟩
abbrev cJ0_charAt_5068e : ByteArray := prog_17_method_56_code
def yJ0_charAt_5068e : MethodName := ⟨RJ0, "charAt", "(I)C"⟩
abbrev cJ0_coder_7d493 : ByteArray := prog_17_method_152_code
def yJ0_coder_7d493 : MethodName := ⟨RJ0, "coder", "()B"⟩
abbrev cJ0_isLatin1_aae02 : ByteArray := prog_17_method_154_code
def yJ0_isLatin1_aae02 : MethodName := ⟨RJ0, "isLatin1", "()Z"⟩
abbrev cJ0_checkIndex_df160 : ByteArray := prog_17_method_155_code
def yJ0_checkIndex_df160 : MethodName := ⟨RJ0, "checkIndex", "(II)V"⟩
def RJ1 : String := "java/lang/StringLatin1"
def TJ1 : u_T := fun k => match k with
  | _ => ("", "", "", false)
def tyJ1 : Nat → FieldType := fun k => match k with
  | _ => .int
abbrev wsJ10 : List Cond := u_ws RJ1 TJ1 0
theorem nmJ1 : ∀ a, a < 0 → ∀ b, b < 0 → a ≠ b → (TJ1 a).2.1 ≠ (TJ1 b).2.1 := by decide +kernel
theorem tyJ1_ok : ∀ k, k < 0 → parseFieldDescriptor (TJ1 k).2.2.1 = some (tyJ1 k) := by decide +kernel
abbrev cJ1_charAt_3b067 : ByteArray := prog_18_method_2_code
def yJ1_charAt_3b067 : MethodName := ⟨RJ1, "charAt", "([BI)C"⟩
def RJ2 : String := "java/lang/StringUTF16"
def TJ2 : u_T := fun k => match k with
  | _ => ("", "", "", false)
def tyJ2 : Nat → FieldType := fun k => match k with
  | _ => .int
abbrev wsJ20 : List Cond := u_ws RJ2 TJ2 0
theorem nmJ2 : ∀ a, a < 0 → ∀ b, b < 0 → a ≠ b → (TJ2 a).2.1 ≠ (TJ2 b).2.1 := by decide +kernel
theorem tyJ2_ok : ∀ k, k < 0 → parseFieldDescriptor (TJ2 k).2.2.1 = some (tyJ2 k) := by decide +kernel
abbrev cJ2_getChar_3b067 : ByteArray := prog_19_method_5_code
def yJ2_getChar_3b067 : MethodName := ⟨RJ2, "getChar", "([BI)C"⟩
abbrev cJ2_length_9d52b : ByteArray := prog_19_method_6_code
def yJ2_length_9d52b : MethodName := ⟨RJ2, "length", "([B)I"⟩
abbrev cJ2_charAt_3b067 : ByteArray := prog_19_method_83_code
def yJ2_charAt_3b067 : MethodName := ⟨RJ2, "charAt", "([BI)C"⟩
abbrev cJ2_checkIndex_2214a : ByteArray := prog_19_method_91_code
def yJ2_checkIndex_2214a : MethodName := ⟨RJ2, "checkIndex", "(I[B)V"⟩
def RJ10 : String := "java/lang/System"
def TJ10 : u_T := fun k => match k with
  | _ => ("", "", "", false)
def tyJ10 : Nat → FieldType := fun k => match k with
  | _ => .int
abbrev wsJ100 : List Cond := u_ws RJ10 TJ10 0
theorem nmJ10 : ∀ a, a < 0 → ∀ b, b < 0 → a ≠ b → (TJ10 a).2.1 ≠ (TJ10 b).2.1 := by decide +kernel
theorem tyJ10_ok : ∀ k, k < 0 → parseFieldDescriptor (TJ10 k).2.2.1 = some (tyJ10 k) := by decide +kernel
def RJ3 : String := "jdk/internal/util/Preconditions"
def TJ3 : u_T := fun k => match k with
  | _ => ("", "", "", false)
def tyJ3 : Nat → FieldType := fun k => match k with
  | _ => .int
abbrev wsJ30 : List Cond := u_ws RJ3 TJ3 0
theorem nmJ3 : ∀ a, a < 0 → ∀ b, b < 0 → a ≠ b → (TJ3 a).2.1 ≠ (TJ3 b).2.1 := by decide +kernel
theorem tyJ3_ok : ∀ k, k < 0 → parseFieldDescriptor (TJ3 k).2.2.1 = some (tyJ3 k) := by decide +kernel
abbrev cJ3_checkIndex_8e157 : ByteArray := prog_23_method_11_code
def yJ3_checkIndex_8e157 : MethodName := ⟨RJ3, "checkIndex", "(IILjava/util/function/BiFunction;)I"⟩
def RL : String := "CouponSaleLaw"
abbrev cL_purse : ByteArray := method_3_code
def yL_purse : MethodName := ⟨RL, "purse", "(LCouponSale;II[J)I"⟩
abbrev cL_owned : ByteArray := method_4_code
def yL_owned : MethodName := ⟨RL, "owned", "(LCouponSale;IIII[J)I"⟩
abbrev cL_law : ByteArray := code
def yL_law : MethodName := ⟨RL, "law", "([I)Z"⟩
def wsX0_init : List Cond := .code yX0_init cX0_init 1 none :: ([.methodLink RX0 3 objectInit, .instanceMethod objectInit, .code objectInit ⟨#[0xb1]⟩ 1 none, .arrayClass .int, .fieldLink RX0 9 "CouponSale$Allotment" "wanted" "[I", .fieldLink RX0 15 "CouponSale$Allotment" "won" "[I", .fieldLink RX0 18 "CouponSale$Allotment" "rests" "[I"] ++ wsX00)
def wsX9_sumOf : List Cond := .code yX9_sumOf cX9_sumOf 6 (some .int) :: ([])
def wsX0_giveOneToGreatestRest : List Cond := .code yX0_giveOneToGreatestRest cX0_giveOneToGreatestRest 3 none :: ([.fieldLink RX0 18 "CouponSale$Allotment" "rests" "[I", .fieldLink RX0 15 "CouponSale$Allotment" "won" "[I"] ++ wsX00)
def wsX0_cutBackTo : List Cond := .code yX0_cutBackTo cX0_cutBackTo 7 none :: ([.fieldLink RX0 9 "CouponSale$Allotment" "wanted" "[I", .methodLink RX0 25 Lib.Math.min.name, .static Lib.Math.min.name, .initialized "java/lang/Math", .code Lib.Math.min.name Lib.Math.min.code 2 (some .int), .fieldLink RX0 15 "CouponSale$Allotment" "won" "[I", .fieldLink RX0 18 "CouponSale$Allotment" "rests" "[I", .static yX9_sumOf, .initialized RX9, .code yX9_sumOf cX9_sumOf 6 (some .int), .methodLink RX0 31 yX0_giveOneToGreatestRest, .instanceMethod yX0_giveOneToGreatestRest, .selects RX0 yX0_giveOneToGreatestRest yX0_giveOneToGreatestRest, .initialized RX0, .code yX0_giveOneToGreatestRest cX0_giveOneToGreatestRest 3 none] ++ wsX00)
def wsX1_init : List Cond := .code yX1_init cX1_init 1 none :: ([.methodLink RX1 1 objectInit, .instanceMethod objectInit, .code objectInit ⟨#[0xb1]⟩ 1 none])
def wsX2_init : List Cond := .code yX2_init cX2_init 3 none :: ([.methodLink RX2 1 objectInit, .instanceMethod objectInit, .code objectInit ⟨#[0xb1]⟩ 1 none, .fieldLink RX2 7 "CouponSale$Fraction" "lower" "J", .fieldLink RX2 13 "CouponSale$Fraction" "upper" "J"] ++ wsX20)
def wsX2_divisorInCommon : List Cond := .code yX2_divisorInCommon cX2_divisorInCommon 11 (some .long) :: ([])
def wsX2_shorten : List Cond := .code yX2_shorten cX2_shorten 3 none :: ([.fieldLink RX2 13 "CouponSale$Fraction" "upper" "J", .fieldLink RX2 7 "CouponSale$Fraction" "lower" "J", .methodLink RX2 19 yX2_divisorInCommon, .static yX2_divisorInCommon, .initialized RX2, .code yX2_divisorInCommon cX2_divisorInCommon 11 (some .long)] ++ wsX20)
def wsX2_add : List Cond := .code yX2_add cX2_add 5 none :: ([.fieldLink RX2 13 "CouponSale$Fraction" "upper" "J", .fieldLink RX2 7 "CouponSale$Fraction" "lower" "J", .methodLink RX2 16 yX2_shorten, .instanceMethod yX2_shorten, .selects RX2 yX2_shorten yX2_shorten, .initialized RX2, .code yX2_shorten cX2_shorten 3 none, .methodLink RX2 19 yX2_divisorInCommon, .static yX2_divisorInCommon, .code yX2_divisorInCommon cX2_divisorInCommon 11 (some .long)] ++ wsX20)
def wsX2_divideBy : List Cond := .code yX2_divideBy cX2_divideBy 3 none :: ([.fieldLink RX2 7 "CouponSale$Fraction" "lower" "J", .methodLink RX2 16 yX2_shorten, .instanceMethod yX2_shorten, .selects RX2 yX2_shorten yX2_shorten, .initialized RX2, .code yX2_shorten cX2_shorten 3 none, .fieldLink RX2 13 "CouponSale$Fraction" "upper" "J", .methodLink RX2 19 yX2_divisorInCommon, .static yX2_divisorInCommon, .code yX2_divisorInCommon cX2_divisorInCommon 11 (some .long)] ++ wsX20)
def wsX3_init : List Cond := .code yX3_init cX3_init 2 none :: ([.arrayClass .int, .fieldLink RX3 9 "CouponSale$Fund" "givenBy" "[I", .fieldLink RX3 15 "CouponSale$Fund" "promised" "I", .instanceMethod yX1_init, .initialized RX1, .code yX1_init cX1_init 1 none, .methodLink RX1 1 objectInit, .instanceMethod objectInit, .code objectInit ⟨#[0xb1]⟩ 1 none] ++ wsX30)
def wsX4_init : List Cond := .code yX4_init cX4_init 2 none :: ([.fieldLink RX4 9 "CouponSale$Person" "workerOf" "I", .fieldLink RX4 15 "CouponSale$Person" "points" "I", .sameField "CouponSale$Person" "CouponSale$Bidder" "points" "I", .instanceMethod yX1_init, .initialized RX1, .code yX1_init cX1_init 1 none, .methodLink RX1 1 objectInit, .instanceMethod objectInit, .code objectInit ⟨#[0xb1]⟩ 1 none] ++ wsX40 ++ wsX30)
def wsX6_init : List Cond := .code yX6_init cX6_init 5 none :: ([.methodLink RX6 3 objectInit, .instanceMethod objectInit, .code objectInit ⟨#[0xb1]⟩ 1 none, .arrayClass .int, .fieldLink RX6 15 "CouponSale$RuleText" "values" "[I", .fieldLink RX6 21 "CouponSale$RuleText" "told" "[I"] ++ wsX60)
def wsX6_valueOf : List Cond := .code yX6_valueOf cX6_valueOf 2 (some .int) :: ([.fieldLink RX6 15 "CouponSale$RuleText" "values" "[I"] ++ wsX60)
def wsX6_begin : List Cond := .code yX6_begin cX6_begin 2 none :: ([.fieldLink RX6 21 "CouponSale$RuleText" "told" "[I", .fieldLink RX6 80 "CouponSale$RuleText" "toldCount" "I", .fieldLink RX6 67 "CouponSale$RuleText" "awaited" "I", .fieldLink RX6 83 "CouponSale$RuleText" "open" "LCouponSale$Rule;", .fieldLink RX6 45 "CouponSale$RuleText" "faultKind" "I", .fieldLink RX6 74 "CouponSale$RuleText" "faultPlace" "I"] ++ wsX60)
def wsX7_at : List Cond := .code yX7_at cX7_at 2 (some .int) :: ([.fieldLink RX7 15 "CouponSale$Tape" "length" "I", .fieldLink RX7 11 "CouponSale$Tape" "bytes" "[B"] ++ wsX70)
def wsX6_isBlank : List Cond := .code yX6_isBlank cX6_isBlank 1 (some .boolean) :: ([])
def wsX6_isLetter : List Cond := .code yX6_isLetter cX6_isLetter 1 (some .boolean) :: ([])
def wsX6_isDigit : List Cond := .code yX6_isDigit cX6_isDigit 1 (some .boolean) :: ([])
def wsX6_isOfWordOrNumber : List Cond := .code yX6_isOfWordOrNumber cX6_isOfWordOrNumber 1 (some .boolean) :: ([.methodLink RX6 114 yX6_isLetter, .static yX6_isLetter, .initialized RX6, .code yX6_isLetter cX6_isLetter 1 (some .boolean), .methodLink RX6 117 yX6_isDigit, .static yX6_isDigit, .code yX6_isDigit cX6_isDigit 1 (some .boolean)])
def wsX6_tokenEnd : List Cond := .code yX6_tokenEnd cX6_tokenEnd 3 (some .int) :: ([.methodLink RX6 64 Lib.Math.max.name, .static Lib.Math.max.name, .initialized "java/lang/Math", .code Lib.Math.max.name Lib.Math.max.code 2 (some .int), .methodLink RX6 48 yX7_at, .instanceMethod yX7_at, .selects RX7 yX7_at yX7_at, .initialized RX7, .code yX7_at cX7_at 2 (some .int), .fieldLink RX7 15 "CouponSale$Tape" "length" "I", .fieldLink RX7 11 "CouponSale$Tape" "bytes" "[B", .methodLink RX6 111 yX6_isOfWordOrNumber, .static yX6_isOfWordOrNumber, .initialized RX6, .code yX6_isOfWordOrNumber cX6_isOfWordOrNumber 1 (some .boolean), .methodLink RX6 114 yX6_isLetter, .static yX6_isLetter, .code yX6_isLetter cX6_isLetter 1 (some .boolean), .methodLink RX6 117 yX6_isDigit, .static yX6_isDigit, .code yX6_isDigit cX6_isDigit 1 (some .boolean)] ++ wsX70)
def wsX6_tokenKind : List Cond := .code yX6_tokenKind cX6_tokenKind 6 (some .int) :: ([.methodLink RX6 48 yX7_at, .instanceMethod yX7_at, .selects RX7 yX7_at yX7_at, .initialized RX7, .code yX7_at cX7_at 2 (some .int), .fieldLink RX7 15 "CouponSale$Tape" "length" "I", .fieldLink RX7 11 "CouponSale$Tape" "bytes" "[B", .methodLink RX6 114 yX6_isLetter, .static yX6_isLetter, .initialized RX6, .code yX6_isLetter cX6_isLetter 1 (some .boolean), .methodLink RX6 117 yX6_isDigit, .static yX6_isDigit, .code yX6_isDigit cX6_isDigit 1 (some .boolean)] ++ wsX70)
def wsX6_setFault : List Cond := .code yX6_setFault cX6_setFault 3 none :: ([.fieldLink RX6 45 "CouponSale$RuleText" "faultKind" "I", .fieldLink RX6 74 "CouponSale$RuleText" "faultPlace" "I"] ++ wsX60)
def wsJ0_coder_7d493 : List Cond := .code yJ0_coder_7d493 cJ0_coder_7d493 1 (some .byte) :: ([.fieldLink RJ0 38 "java/lang/String" "COMPACT_STRINGS" "Z", .fieldLink RJ0 15 "java/lang/String" "coder" "B"])
def wsJ0_length_8abf5 : List Cond := .code yJ0_length_8abf5 cJ0_length_8abf5 1 (some .int) :: ([.fieldLink RJ0 9 "java/lang/String" "value" "[B", .methodLink RJ0 335 yJ0_coder_7d493, .instanceMethod yJ0_coder_7d493, .selects RJ0 yJ0_coder_7d493 yJ0_coder_7d493, .initialized RJ0, .code yJ0_coder_7d493 cJ0_coder_7d493 1 (some .byte), .fieldLink RJ0 38 "java/lang/String" "COMPACT_STRINGS" "Z", .fieldLink RJ0 15 "java/lang/String" "coder" "B"])
def wsJ0_isLatin1_aae02 : List Cond := .code yJ0_isLatin1_aae02 cJ0_isLatin1_aae02 1 (some .boolean) :: ([.fieldLink RJ0 38 "java/lang/String" "COMPACT_STRINGS" "Z", .fieldLink RJ0 15 "java/lang/String" "coder" "B"])
def wsJ3_checkIndex_8e157 : List Cond := .code yJ3_checkIndex_8e157 cJ3_checkIndex_8e157 3 (some .int) :: ([])
def wsJ0_checkIndex_df160 : List Cond := .code yJ0_checkIndex_df160 cJ0_checkIndex_df160 2 none :: ([.fieldLink RJ0 1053 "jdk/internal/util/Preconditions" "SIOOBE_FORMATTER" "Ljava/util/function/BiFunction;", .methodLink RJ0 1059 yJ3_checkIndex_8e157, .static yJ3_checkIndex_8e157, .initialized RJ3, .code yJ3_checkIndex_8e157 cJ3_checkIndex_8e157 3 (some .int)])
def wsJ1_charAt_3b067 : List Cond := .code yJ1_charAt_3b067 cJ1_charAt_3b067 2 (some .char) :: ([.methodLink RJ1 9 yJ0_checkIndex_df160, .static yJ0_checkIndex_df160, .initialized RJ0, .code yJ0_checkIndex_df160 cJ0_checkIndex_df160 2 none, .fieldLink RJ0 1053 "jdk/internal/util/Preconditions" "SIOOBE_FORMATTER" "Ljava/util/function/BiFunction;", .methodLink RJ0 1059 yJ3_checkIndex_8e157, .static yJ3_checkIndex_8e157, .initialized RJ3, .code yJ3_checkIndex_8e157 cJ3_checkIndex_8e157 3 (some .int)])
def wsJ2_length_9d52b : List Cond := .code yJ2_length_9d52b cJ2_length_9d52b 1 (some .int) :: ([])
def wsJ2_checkIndex_2214a : List Cond := .code yJ2_checkIndex_2214a cJ2_checkIndex_2214a 2 none :: ([.methodLink RJ2 48 yJ2_length_9d52b, .static yJ2_length_9d52b, .initialized RJ2, .code yJ2_length_9d52b cJ2_length_9d52b 1 (some .int), .methodLink RJ2 414 yJ0_checkIndex_df160, .static yJ0_checkIndex_df160, .initialized RJ0, .code yJ0_checkIndex_df160 cJ0_checkIndex_df160 2 none, .fieldLink RJ0 1053 "jdk/internal/util/Preconditions" "SIOOBE_FORMATTER" "Ljava/util/function/BiFunction;", .methodLink RJ0 1059 yJ3_checkIndex_8e157, .static yJ3_checkIndex_8e157, .initialized RJ3, .code yJ3_checkIndex_8e157 cJ3_checkIndex_8e157 3 (some .int)])
def wsJ2_getChar_3b067 : List Cond := .code yJ2_getChar_3b067 cJ2_getChar_3b067 2 (some .char) :: ([.fieldLink RJ2 44 "java/lang/StringUTF16" "$assertionsDisabled" "Z", .fieldLink RJ2 59 "java/lang/StringUTF16" "HI_BYTE_SHIFT" "I", .fieldLink RJ2 63 "java/lang/StringUTF16" "LO_BYTE_SHIFT" "I", .methodLink RJ2 48 yJ2_length_9d52b, .static yJ2_length_9d52b, .initialized RJ2, .code yJ2_length_9d52b cJ2_length_9d52b 1 (some .int)])
def wsJ2_charAt_3b067 : List Cond := .code yJ2_charAt_3b067 cJ2_charAt_3b067 2 (some .char) :: ([.methodLink RJ2 67 yJ2_checkIndex_2214a, .static yJ2_checkIndex_2214a, .initialized RJ2, .code yJ2_checkIndex_2214a cJ2_checkIndex_2214a 2 none, .methodLink RJ2 48 yJ2_length_9d52b, .static yJ2_length_9d52b, .code yJ2_length_9d52b cJ2_length_9d52b 1 (some .int), .methodLink RJ2 414 yJ0_checkIndex_df160, .static yJ0_checkIndex_df160, .initialized RJ0, .code yJ0_checkIndex_df160 cJ0_checkIndex_df160 2 none, .fieldLink RJ0 1053 "jdk/internal/util/Preconditions" "SIOOBE_FORMATTER" "Ljava/util/function/BiFunction;", .methodLink RJ0 1059 yJ3_checkIndex_8e157, .static yJ3_checkIndex_8e157, .initialized RJ3, .code yJ3_checkIndex_8e157 cJ3_checkIndex_8e157 3 (some .int), .methodLink RJ2 71 yJ2_getChar_3b067, .static yJ2_getChar_3b067, .code yJ2_getChar_3b067 cJ2_getChar_3b067 2 (some .char), .fieldLink RJ2 44 "java/lang/StringUTF16" "$assertionsDisabled" "Z", .fieldLink RJ2 59 "java/lang/StringUTF16" "HI_BYTE_SHIFT" "I", .fieldLink RJ2 63 "java/lang/StringUTF16" "LO_BYTE_SHIFT" "I"])
def wsJ0_charAt_5068e_r1 : List Cond := [Cond.fieldLink RJ0 9 "java/lang/String" "value" "[B", Cond.methodLink RJ0 492 yJ0_isLatin1_aae02, Cond.instanceMethod yJ0_isLatin1_aae02, Cond.selects RJ0 yJ0_isLatin1_aae02 yJ0_isLatin1_aae02, Cond.initialized RJ0, Cond.code yJ0_isLatin1_aae02 cJ0_isLatin1_aae02 1 (some .boolean), Cond.fieldLink RJ0 38 "java/lang/String" "COMPACT_STRINGS" "Z", Cond.fieldLink RJ0 15 "java/lang/String" "coder" "B", Cond.methodLink RJ0 495 yJ1_charAt_3b067, Cond.static yJ1_charAt_3b067, Cond.initialized RJ1, Cond.code yJ1_charAt_3b067 cJ1_charAt_3b067 2 (some .char), Cond.methodLink RJ1 9 yJ0_checkIndex_df160, Cond.static yJ0_checkIndex_df160, Cond.code yJ0_checkIndex_df160 cJ0_checkIndex_df160 2 none, Cond.fieldLink RJ0 1053 "jdk/internal/util/Preconditions" "SIOOBE_FORMATTER" "Ljava/util/function/BiFunction;", Cond.methodLink RJ0 1059 yJ3_checkIndex_8e157, Cond.static yJ3_checkIndex_8e157, Cond.initialized RJ3, Cond.code yJ3_checkIndex_8e157 cJ3_checkIndex_8e157 3 (some .int), Cond.methodLink RJ0 498 yJ2_charAt_3b067, Cond.static yJ2_charAt_3b067, Cond.initialized RJ2, Cond.code yJ2_charAt_3b067 cJ2_charAt_3b067 2 (some .char)]
def wsJ0_charAt_5068e_r2 : List Cond := [Cond.methodLink RJ2 67 yJ2_checkIndex_2214a, Cond.static yJ2_checkIndex_2214a, Cond.code yJ2_checkIndex_2214a cJ2_checkIndex_2214a 2 none, Cond.methodLink RJ2 48 yJ2_length_9d52b, Cond.static yJ2_length_9d52b, Cond.code yJ2_length_9d52b cJ2_length_9d52b 1 (some .int), Cond.methodLink RJ2 414 yJ0_checkIndex_df160, Cond.methodLink RJ2 71 yJ2_getChar_3b067, Cond.static yJ2_getChar_3b067, Cond.code yJ2_getChar_3b067 cJ2_getChar_3b067 2 (some .char), Cond.fieldLink RJ2 44 "java/lang/StringUTF16" "$assertionsDisabled" "Z", Cond.fieldLink RJ2 59 "java/lang/StringUTF16" "HI_BYTE_SHIFT" "I", Cond.fieldLink RJ2 63 "java/lang/StringUTF16" "LO_BYTE_SHIFT" "I"]
def wsJ0_charAt_5068e : List Cond := .code yJ0_charAt_5068e cJ0_charAt_5068e 2 (some .char) :: ((wsJ0_charAt_5068e_r1 ++ wsJ0_charAt_5068e_r2))
def wsX6_spells_r1 : List Cond := [Cond.methodLink RX6 128 yJ0_length_8abf5, Cond.instanceMethod yJ0_length_8abf5, Cond.selects RJ0 yJ0_length_8abf5 yJ0_length_8abf5, Cond.initialized RJ0, Cond.code yJ0_length_8abf5 cJ0_length_8abf5 1 (some .int), Cond.fieldLink RJ0 9 "java/lang/String" "value" "[B", Cond.methodLink RJ0 335 yJ0_coder_7d493, Cond.instanceMethod yJ0_coder_7d493, Cond.selects RJ0 yJ0_coder_7d493 yJ0_coder_7d493, Cond.code yJ0_coder_7d493 cJ0_coder_7d493 1 (some .byte), Cond.fieldLink RJ0 38 "java/lang/String" "COMPACT_STRINGS" "Z", Cond.fieldLink RJ0 15 "java/lang/String" "coder" "B", Cond.methodLink RX6 48 yX7_at, Cond.instanceMethod yX7_at, Cond.selects RX7 yX7_at yX7_at, Cond.initialized RX7, Cond.code yX7_at cX7_at 2 (some .int), Cond.fieldLink RX7 15 "CouponSale$Tape" "length" "I", Cond.fieldLink RX7 11 "CouponSale$Tape" "bytes" "[B", Cond.methodLink RX6 133 yJ0_charAt_5068e, Cond.instanceMethod yJ0_charAt_5068e, Cond.selects RJ0 yJ0_charAt_5068e yJ0_charAt_5068e, Cond.code yJ0_charAt_5068e cJ0_charAt_5068e 2 (some .char), Cond.methodLink RJ0 492 yJ0_isLatin1_aae02]
def wsX6_spells_r2 : List Cond := [Cond.instanceMethod yJ0_isLatin1_aae02, Cond.selects RJ0 yJ0_isLatin1_aae02 yJ0_isLatin1_aae02, Cond.code yJ0_isLatin1_aae02 cJ0_isLatin1_aae02 1 (some .boolean), Cond.methodLink RJ0 495 yJ1_charAt_3b067, Cond.static yJ1_charAt_3b067, Cond.initialized RJ1, Cond.code yJ1_charAt_3b067 cJ1_charAt_3b067 2 (some .char), Cond.methodLink RJ1 9 yJ0_checkIndex_df160, Cond.static yJ0_checkIndex_df160, Cond.code yJ0_checkIndex_df160 cJ0_checkIndex_df160 2 none, Cond.fieldLink RJ0 1053 "jdk/internal/util/Preconditions" "SIOOBE_FORMATTER" "Ljava/util/function/BiFunction;", Cond.methodLink RJ0 1059 yJ3_checkIndex_8e157, Cond.static yJ3_checkIndex_8e157, Cond.initialized RJ3, Cond.code yJ3_checkIndex_8e157 cJ3_checkIndex_8e157 3 (some .int), Cond.methodLink RJ0 498 yJ2_charAt_3b067, Cond.static yJ2_charAt_3b067, Cond.initialized RJ2, Cond.code yJ2_charAt_3b067 cJ2_charAt_3b067 2 (some .char), Cond.methodLink RJ2 67 yJ2_checkIndex_2214a, Cond.static yJ2_checkIndex_2214a, Cond.code yJ2_checkIndex_2214a cJ2_checkIndex_2214a 2 none, Cond.methodLink RJ2 48 yJ2_length_9d52b, Cond.static yJ2_length_9d52b]
def wsX6_spells_r3 : List Cond := [Cond.code yJ2_length_9d52b cJ2_length_9d52b 1 (some .int), Cond.methodLink RJ2 414 yJ0_checkIndex_df160, Cond.methodLink RJ2 71 yJ2_getChar_3b067, Cond.static yJ2_getChar_3b067, Cond.code yJ2_getChar_3b067 cJ2_getChar_3b067 2 (some .char), Cond.fieldLink RJ2 44 "java/lang/StringUTF16" "$assertionsDisabled" "Z", Cond.fieldLink RJ2 59 "java/lang/StringUTF16" "HI_BYTE_SHIFT" "I", Cond.fieldLink RJ2 63 "java/lang/StringUTF16" "LO_BYTE_SHIFT" "I"]
def wsX6_spells : List Cond := .code yX6_spells cX6_spells 5 (some .boolean) :: ((wsX6_spells_r1 ++ (wsX6_spells_r2 ++ wsX6_spells_r3)) ++ wsX70)
def wsX6_ruleOf_r1 : List Cond := [Cond.methodLink RX6 124 yX6_spells, Cond.static yX6_spells, Cond.initialized RX6, Cond.code yX6_spells cX6_spells 5 (some .boolean), Cond.methodLink RX6 128 yJ0_length_8abf5, Cond.instanceMethod yJ0_length_8abf5, Cond.selects RJ0 yJ0_length_8abf5 yJ0_length_8abf5, Cond.initialized RJ0, Cond.code yJ0_length_8abf5 cJ0_length_8abf5 1 (some .int), Cond.fieldLink RJ0 9 "java/lang/String" "value" "[B", Cond.methodLink RJ0 335 yJ0_coder_7d493, Cond.instanceMethod yJ0_coder_7d493, Cond.selects RJ0 yJ0_coder_7d493 yJ0_coder_7d493, Cond.code yJ0_coder_7d493 cJ0_coder_7d493 1 (some .byte), Cond.fieldLink RJ0 38 "java/lang/String" "COMPACT_STRINGS" "Z", Cond.fieldLink RJ0 15 "java/lang/String" "coder" "B", Cond.methodLink RX6 48 yX7_at, Cond.instanceMethod yX7_at, Cond.selects RX7 yX7_at yX7_at, Cond.initialized RX7, Cond.code yX7_at cX7_at 2 (some .int), Cond.fieldLink RX7 15 "CouponSale$Tape" "length" "I", Cond.fieldLink RX7 11 "CouponSale$Tape" "bytes" "[B", Cond.methodLink RX6 133 yJ0_charAt_5068e]
def wsX6_ruleOf_r2 : List Cond := [Cond.instanceMethod yJ0_charAt_5068e, Cond.selects RJ0 yJ0_charAt_5068e yJ0_charAt_5068e, Cond.code yJ0_charAt_5068e cJ0_charAt_5068e 2 (some .char), Cond.methodLink RJ0 492 yJ0_isLatin1_aae02, Cond.instanceMethod yJ0_isLatin1_aae02, Cond.selects RJ0 yJ0_isLatin1_aae02 yJ0_isLatin1_aae02, Cond.code yJ0_isLatin1_aae02 cJ0_isLatin1_aae02 1 (some .boolean), Cond.methodLink RJ0 495 yJ1_charAt_3b067, Cond.static yJ1_charAt_3b067, Cond.initialized RJ1, Cond.code yJ1_charAt_3b067 cJ1_charAt_3b067 2 (some .char), Cond.methodLink RJ1 9 yJ0_checkIndex_df160, Cond.static yJ0_checkIndex_df160, Cond.code yJ0_checkIndex_df160 cJ0_checkIndex_df160 2 none, Cond.fieldLink RJ0 1053 "jdk/internal/util/Preconditions" "SIOOBE_FORMATTER" "Ljava/util/function/BiFunction;", Cond.methodLink RJ0 1059 yJ3_checkIndex_8e157, Cond.static yJ3_checkIndex_8e157, Cond.initialized RJ3, Cond.code yJ3_checkIndex_8e157 cJ3_checkIndex_8e157 3 (some .int), Cond.methodLink RJ0 498 yJ2_charAt_3b067, Cond.static yJ2_charAt_3b067, Cond.initialized RJ2, Cond.code yJ2_charAt_3b067 cJ2_charAt_3b067 2 (some .char), Cond.methodLink RJ2 67 yJ2_checkIndex_2214a]
def wsX6_ruleOf_r3 : List Cond := [Cond.static yJ2_checkIndex_2214a, Cond.code yJ2_checkIndex_2214a cJ2_checkIndex_2214a 2 none, Cond.methodLink RJ2 48 yJ2_length_9d52b, Cond.static yJ2_length_9d52b, Cond.code yJ2_length_9d52b cJ2_length_9d52b 1 (some .int), Cond.methodLink RJ2 414 yJ0_checkIndex_df160, Cond.methodLink RJ2 71 yJ2_getChar_3b067, Cond.static yJ2_getChar_3b067, Cond.code yJ2_getChar_3b067 cJ2_getChar_3b067 2 (some .char), Cond.fieldLink RJ2 44 "java/lang/StringUTF16" "$assertionsDisabled" "Z", Cond.fieldLink RJ2 59 "java/lang/StringUTF16" "HI_BYTE_SHIFT" "I", Cond.fieldLink RJ2 63 "java/lang/StringUTF16" "LO_BYTE_SHIFT" "I"]
def wsX6_ruleOf : List Cond := .code yX6_ruleOf cX6_ruleOf 7 (some (.object "CouponSale$Rule")) :: ((wsX6_ruleOf_r1 ++ (wsX6_ruleOf_r2 ++ wsX6_ruleOf_r3)) ++ wsX70)
def wsX6_takeWord_r1 : List Cond := [Cond.fieldLink RX6 83 "CouponSale$RuleText" "open" "LCouponSale$Rule;", Cond.fieldLink RX6 21 "CouponSale$RuleText" "told" "[I", Cond.fieldLink RX6 67 "CouponSale$RuleText" "awaited" "I", Cond.methodLink RX6 97 yX6_ruleOf, Cond.static yX6_ruleOf, Cond.initialized RX6, Cond.code yX6_ruleOf cX6_ruleOf 7 (some (.object "CouponSale$Rule")), Cond.methodLink RX6 124 yX6_spells, Cond.static yX6_spells, Cond.code yX6_spells cX6_spells 5 (some .boolean), Cond.methodLink RX6 128 yJ0_length_8abf5, Cond.instanceMethod yJ0_length_8abf5, Cond.selects RJ0 yJ0_length_8abf5 yJ0_length_8abf5, Cond.initialized RJ0, Cond.code yJ0_length_8abf5 cJ0_length_8abf5 1 (some .int), Cond.fieldLink RJ0 9 "java/lang/String" "value" "[B", Cond.methodLink RJ0 335 yJ0_coder_7d493, Cond.instanceMethod yJ0_coder_7d493, Cond.selects RJ0 yJ0_coder_7d493 yJ0_coder_7d493, Cond.code yJ0_coder_7d493 cJ0_coder_7d493 1 (some .byte), Cond.fieldLink RJ0 38 "java/lang/String" "COMPACT_STRINGS" "Z", Cond.fieldLink RJ0 15 "java/lang/String" "coder" "B", Cond.methodLink RX6 48 yX7_at, Cond.instanceMethod yX7_at]
def wsX6_takeWord_r2 : List Cond := [Cond.selects RX7 yX7_at yX7_at, Cond.initialized RX7, Cond.code yX7_at cX7_at 2 (some .int), Cond.fieldLink RX7 15 "CouponSale$Tape" "length" "I", Cond.fieldLink RX7 11 "CouponSale$Tape" "bytes" "[B", Cond.methodLink RX6 133 yJ0_charAt_5068e, Cond.instanceMethod yJ0_charAt_5068e, Cond.selects RJ0 yJ0_charAt_5068e yJ0_charAt_5068e, Cond.code yJ0_charAt_5068e cJ0_charAt_5068e 2 (some .char), Cond.methodLink RJ0 492 yJ0_isLatin1_aae02, Cond.instanceMethod yJ0_isLatin1_aae02, Cond.selects RJ0 yJ0_isLatin1_aae02 yJ0_isLatin1_aae02, Cond.code yJ0_isLatin1_aae02 cJ0_isLatin1_aae02 1 (some .boolean), Cond.methodLink RJ0 495 yJ1_charAt_3b067, Cond.static yJ1_charAt_3b067, Cond.initialized RJ1, Cond.code yJ1_charAt_3b067 cJ1_charAt_3b067 2 (some .char), Cond.methodLink RJ1 9 yJ0_checkIndex_df160, Cond.static yJ0_checkIndex_df160, Cond.code yJ0_checkIndex_df160 cJ0_checkIndex_df160 2 none, Cond.fieldLink RJ0 1053 "jdk/internal/util/Preconditions" "SIOOBE_FORMATTER" "Ljava/util/function/BiFunction;", Cond.methodLink RJ0 1059 yJ3_checkIndex_8e157, Cond.static yJ3_checkIndex_8e157, Cond.initialized RJ3]
def wsX6_takeWord_r3 : List Cond := [Cond.code yJ3_checkIndex_8e157 cJ3_checkIndex_8e157 3 (some .int), Cond.methodLink RJ0 498 yJ2_charAt_3b067, Cond.static yJ2_charAt_3b067, Cond.initialized RJ2, Cond.code yJ2_charAt_3b067 cJ2_charAt_3b067 2 (some .char), Cond.methodLink RJ2 67 yJ2_checkIndex_2214a, Cond.static yJ2_checkIndex_2214a, Cond.code yJ2_checkIndex_2214a cJ2_checkIndex_2214a 2 none, Cond.methodLink RJ2 48 yJ2_length_9d52b, Cond.static yJ2_length_9d52b, Cond.code yJ2_length_9d52b cJ2_length_9d52b 1 (some .int), Cond.methodLink RJ2 414 yJ0_checkIndex_df160, Cond.methodLink RJ2 71 yJ2_getChar_3b067, Cond.static yJ2_getChar_3b067, Cond.code yJ2_getChar_3b067 cJ2_getChar_3b067 2 (some .char), Cond.fieldLink RJ2 44 "java/lang/StringUTF16" "$assertionsDisabled" "Z", Cond.fieldLink RJ2 59 "java/lang/StringUTF16" "HI_BYTE_SHIFT" "I", Cond.fieldLink RJ2 63 "java/lang/StringUTF16" "LO_BYTE_SHIFT" "I", Cond.methodLink RX6 70 yX6_setFault, Cond.instanceMethod yX6_setFault, Cond.selects RX6 yX6_setFault yX6_setFault, Cond.code yX6_setFault cX6_setFault 3 none, Cond.fieldLink RX6 45 "CouponSale$RuleText" "faultKind" "I", Cond.fieldLink RX6 74 "CouponSale$RuleText" "faultPlace" "I"]
def wsX6_takeWord : List Cond := .code yX6_takeWord cX6_takeWord 4 none :: ((wsX6_takeWord_r1 ++ (wsX6_takeWord_r2 ++ wsX6_takeWord_r3)) ++ wsX60 ++ wsX70)
def wsX9_isWithin : List Cond := .code yX9_isWithin cX9_isWithin 3 (some .boolean) :: ([])
def wsX6_takeNumber : List Cond := .code yX6_takeNumber cX6_takeNumber 6 none :: ([.fieldLink RX6 83 "CouponSale$RuleText" "open" "LCouponSale$Rule;", .fieldLink RX6 21 "CouponSale$RuleText" "told" "[I", .fieldLink RX6 80 "CouponSale$RuleText" "toldCount" "I", .fieldLink RX6 67 "CouponSale$RuleText" "awaited" "I", .methodLink RX6 48 yX7_at, .instanceMethod yX7_at, .selects RX7 yX7_at yX7_at, .initialized RX7, .code yX7_at cX7_at 2 (some .int), .fieldLink RX7 15 "CouponSale$Tape" "length" "I", .fieldLink RX7 11 "CouponSale$Tape" "bytes" "[B", .static yX9_isWithin, .initialized RX9, .code yX9_isWithin cX9_isWithin 3 (some .boolean), .methodLink RX6 70 yX6_setFault, .instanceMethod yX6_setFault, .selects RX6 yX6_setFault yX6_setFault, .initialized RX6, .code yX6_setFault cX6_setFault 3 none, .fieldLink RX6 45 "CouponSale$RuleText" "faultKind" "I", .fieldLink RX6 74 "CouponSale$RuleText" "faultPlace" "I"] ++ wsX60 ++ wsX70)
def wsX6_takeToken_r1 : List Cond := [Cond.fieldLink RX6 67 "CouponSale$RuleText" "awaited" "I", Cond.methodLink RX6 87 yX6_tokenKind, Cond.static yX6_tokenKind, Cond.initialized RX6, Cond.code yX6_tokenKind cX6_tokenKind 6 (some .int), Cond.methodLink RX6 48 yX7_at, Cond.instanceMethod yX7_at, Cond.selects RX7 yX7_at yX7_at, Cond.initialized RX7, Cond.code yX7_at cX7_at 2 (some .int), Cond.fieldLink RX7 15 "CouponSale$Tape" "length" "I", Cond.fieldLink RX7 11 "CouponSale$Tape" "bytes" "[B", Cond.methodLink RX6 114 yX6_isLetter, Cond.static yX6_isLetter, Cond.code yX6_isLetter cX6_isLetter 1 (some .boolean), Cond.methodLink RX6 117 yX6_isDigit, Cond.static yX6_isDigit, Cond.code yX6_isDigit cX6_isDigit 1 (some .boolean), Cond.methodLink RX6 70 yX6_setFault, Cond.instanceMethod yX6_setFault, Cond.selects RX6 yX6_setFault yX6_setFault, Cond.code yX6_setFault cX6_setFault 3 none, Cond.fieldLink RX6 45 "CouponSale$RuleText" "faultKind" "I", Cond.fieldLink RX6 74 "CouponSale$RuleText" "faultPlace" "I"]
def wsX6_takeToken_r2 : List Cond := [Cond.methodLink RX6 91 yX6_takeWord, Cond.instanceMethod yX6_takeWord, Cond.selects RX6 yX6_takeWord yX6_takeWord, Cond.code yX6_takeWord cX6_takeWord 4 none, Cond.fieldLink RX6 83 "CouponSale$RuleText" "open" "LCouponSale$Rule;", Cond.fieldLink RX6 21 "CouponSale$RuleText" "told" "[I", Cond.methodLink RX6 97 yX6_ruleOf, Cond.static yX6_ruleOf, Cond.code yX6_ruleOf cX6_ruleOf 7 (some (.object "CouponSale$Rule")), Cond.methodLink RX6 124 yX6_spells, Cond.static yX6_spells, Cond.code yX6_spells cX6_spells 5 (some .boolean), Cond.methodLink RX6 128 yJ0_length_8abf5, Cond.instanceMethod yJ0_length_8abf5, Cond.selects RJ0 yJ0_length_8abf5 yJ0_length_8abf5, Cond.initialized RJ0, Cond.code yJ0_length_8abf5 cJ0_length_8abf5 1 (some .int), Cond.fieldLink RJ0 9 "java/lang/String" "value" "[B", Cond.methodLink RJ0 335 yJ0_coder_7d493, Cond.instanceMethod yJ0_coder_7d493, Cond.selects RJ0 yJ0_coder_7d493 yJ0_coder_7d493, Cond.code yJ0_coder_7d493 cJ0_coder_7d493 1 (some .byte), Cond.fieldLink RJ0 38 "java/lang/String" "COMPACT_STRINGS" "Z", Cond.fieldLink RJ0 15 "java/lang/String" "coder" "B"]
def wsX6_takeToken_r3 : List Cond := [Cond.methodLink RX6 133 yJ0_charAt_5068e, Cond.instanceMethod yJ0_charAt_5068e, Cond.selects RJ0 yJ0_charAt_5068e yJ0_charAt_5068e, Cond.code yJ0_charAt_5068e cJ0_charAt_5068e 2 (some .char), Cond.methodLink RJ0 492 yJ0_isLatin1_aae02, Cond.instanceMethod yJ0_isLatin1_aae02, Cond.selects RJ0 yJ0_isLatin1_aae02 yJ0_isLatin1_aae02, Cond.code yJ0_isLatin1_aae02 cJ0_isLatin1_aae02 1 (some .boolean), Cond.methodLink RJ0 495 yJ1_charAt_3b067, Cond.static yJ1_charAt_3b067, Cond.initialized RJ1, Cond.code yJ1_charAt_3b067 cJ1_charAt_3b067 2 (some .char), Cond.methodLink RJ1 9 yJ0_checkIndex_df160, Cond.static yJ0_checkIndex_df160, Cond.code yJ0_checkIndex_df160 cJ0_checkIndex_df160 2 none, Cond.fieldLink RJ0 1053 "jdk/internal/util/Preconditions" "SIOOBE_FORMATTER" "Ljava/util/function/BiFunction;", Cond.methodLink RJ0 1059 yJ3_checkIndex_8e157, Cond.static yJ3_checkIndex_8e157, Cond.initialized RJ3, Cond.code yJ3_checkIndex_8e157 cJ3_checkIndex_8e157 3 (some .int), Cond.methodLink RJ0 498 yJ2_charAt_3b067, Cond.static yJ2_charAt_3b067, Cond.initialized RJ2, Cond.code yJ2_charAt_3b067 cJ2_charAt_3b067 2 (some .char)]
def wsX6_takeToken_r4 : List Cond := [Cond.methodLink RJ2 67 yJ2_checkIndex_2214a, Cond.static yJ2_checkIndex_2214a, Cond.code yJ2_checkIndex_2214a cJ2_checkIndex_2214a 2 none, Cond.methodLink RJ2 48 yJ2_length_9d52b, Cond.static yJ2_length_9d52b, Cond.code yJ2_length_9d52b cJ2_length_9d52b 1 (some .int), Cond.methodLink RJ2 414 yJ0_checkIndex_df160, Cond.methodLink RJ2 71 yJ2_getChar_3b067, Cond.static yJ2_getChar_3b067, Cond.code yJ2_getChar_3b067 cJ2_getChar_3b067 2 (some .char), Cond.fieldLink RJ2 44 "java/lang/StringUTF16" "$assertionsDisabled" "Z", Cond.fieldLink RJ2 59 "java/lang/StringUTF16" "HI_BYTE_SHIFT" "I", Cond.fieldLink RJ2 63 "java/lang/StringUTF16" "LO_BYTE_SHIFT" "I", Cond.methodLink RX6 94 yX6_takeNumber, Cond.instanceMethod yX6_takeNumber, Cond.selects RX6 yX6_takeNumber yX6_takeNumber, Cond.code yX6_takeNumber cX6_takeNumber 6 none, Cond.fieldLink RX6 80 "CouponSale$RuleText" "toldCount" "I", Cond.static yX9_isWithin, Cond.initialized RX9, Cond.code yX9_isWithin cX9_isWithin 3 (some .boolean)]
def wsX6_takeToken : List Cond := .code yX6_takeToken cX6_takeToken 5 none :: ((wsX6_takeToken_r1 ++ (wsX6_takeToken_r2 ++ (wsX6_takeToken_r3 ++ wsX6_takeToken_r4))) ++ wsX60 ++ wsX70)
def wsX6_putInForce : List Cond := .code yX6_putInForce cX6_putInForce 5 none :: ([.fieldLink RX6 15 "CouponSale$RuleText" "values" "[I", .fieldLink RX6 21 "CouponSale$RuleText" "told" "[I"] ++ wsX60)
def wsX6_read_r1 : List Cond := [Cond.methodLink RX6 39 Lib.Math.min.name, Cond.static Lib.Math.min.name, Cond.initialized "java/lang/Math", Cond.code Lib.Math.min.name Lib.Math.min.code 2 (some .int), Cond.fieldLink RX6 45 "CouponSale$RuleText" "faultKind" "I", Cond.methodLink RX6 64 Lib.Math.max.name, Cond.static Lib.Math.max.name, Cond.code Lib.Math.max.name Lib.Math.max.code 2 (some .int), Cond.fieldLink RX6 67 "CouponSale$RuleText" "awaited" "I", Cond.fieldLink RX6 74 "CouponSale$RuleText" "faultPlace" "I", Cond.fieldLink RX6 80 "CouponSale$RuleText" "toldCount" "I", Cond.methodLink RX6 31 yX6_begin, Cond.instanceMethod yX6_begin, Cond.selects RX6 yX6_begin yX6_begin, Cond.initialized RX6, Cond.code yX6_begin cX6_begin 2 none, Cond.fieldLink RX6 21 "CouponSale$RuleText" "told" "[I", Cond.fieldLink RX6 83 "CouponSale$RuleText" "open" "LCouponSale$Rule;", Cond.methodLink RX6 48 yX7_at, Cond.instanceMethod yX7_at, Cond.selects RX7 yX7_at yX7_at, Cond.initialized RX7, Cond.code yX7_at cX7_at 2 (some .int), Cond.fieldLink RX7 15 "CouponSale$Tape" "length" "I"]
def wsX6_read_r2 : List Cond := [Cond.fieldLink RX7 11 "CouponSale$Tape" "bytes" "[B", Cond.methodLink RX6 52 yX6_isBlank, Cond.static yX6_isBlank, Cond.code yX6_isBlank cX6_isBlank 1 (some .boolean), Cond.methodLink RX6 56 yX6_tokenEnd, Cond.static yX6_tokenEnd, Cond.code yX6_tokenEnd cX6_tokenEnd 3 (some .int), Cond.methodLink RX6 111 yX6_isOfWordOrNumber, Cond.static yX6_isOfWordOrNumber, Cond.code yX6_isOfWordOrNumber cX6_isOfWordOrNumber 1 (some .boolean), Cond.methodLink RX6 114 yX6_isLetter, Cond.static yX6_isLetter, Cond.code yX6_isLetter cX6_isLetter 1 (some .boolean), Cond.methodLink RX6 117 yX6_isDigit, Cond.static yX6_isDigit, Cond.code yX6_isDigit cX6_isDigit 1 (some .boolean), Cond.methodLink RX6 60 yX6_takeToken, Cond.instanceMethod yX6_takeToken, Cond.selects RX6 yX6_takeToken yX6_takeToken, Cond.code yX6_takeToken cX6_takeToken 5 none, Cond.methodLink RX6 87 yX6_tokenKind, Cond.static yX6_tokenKind, Cond.code yX6_tokenKind cX6_tokenKind 6 (some .int), Cond.methodLink RX6 70 yX6_setFault]
def wsX6_read_r3 : List Cond := [Cond.instanceMethod yX6_setFault, Cond.selects RX6 yX6_setFault yX6_setFault, Cond.code yX6_setFault cX6_setFault 3 none, Cond.methodLink RX6 91 yX6_takeWord, Cond.instanceMethod yX6_takeWord, Cond.selects RX6 yX6_takeWord yX6_takeWord, Cond.code yX6_takeWord cX6_takeWord 4 none, Cond.methodLink RX6 97 yX6_ruleOf, Cond.static yX6_ruleOf, Cond.code yX6_ruleOf cX6_ruleOf 7 (some (.object "CouponSale$Rule")), Cond.methodLink RX6 124 yX6_spells, Cond.static yX6_spells, Cond.code yX6_spells cX6_spells 5 (some .boolean), Cond.methodLink RX6 128 yJ0_length_8abf5, Cond.instanceMethod yJ0_length_8abf5, Cond.selects RJ0 yJ0_length_8abf5 yJ0_length_8abf5, Cond.initialized RJ0, Cond.code yJ0_length_8abf5 cJ0_length_8abf5 1 (some .int), Cond.fieldLink RJ0 9 "java/lang/String" "value" "[B", Cond.methodLink RJ0 335 yJ0_coder_7d493, Cond.instanceMethod yJ0_coder_7d493, Cond.selects RJ0 yJ0_coder_7d493 yJ0_coder_7d493, Cond.code yJ0_coder_7d493 cJ0_coder_7d493 1 (some .byte), Cond.fieldLink RJ0 38 "java/lang/String" "COMPACT_STRINGS" "Z"]
def wsX6_read_r4 : List Cond := [Cond.fieldLink RJ0 15 "java/lang/String" "coder" "B", Cond.methodLink RX6 133 yJ0_charAt_5068e, Cond.instanceMethod yJ0_charAt_5068e, Cond.selects RJ0 yJ0_charAt_5068e yJ0_charAt_5068e, Cond.code yJ0_charAt_5068e cJ0_charAt_5068e 2 (some .char), Cond.methodLink RJ0 492 yJ0_isLatin1_aae02, Cond.instanceMethod yJ0_isLatin1_aae02, Cond.selects RJ0 yJ0_isLatin1_aae02 yJ0_isLatin1_aae02, Cond.code yJ0_isLatin1_aae02 cJ0_isLatin1_aae02 1 (some .boolean), Cond.methodLink RJ0 495 yJ1_charAt_3b067, Cond.static yJ1_charAt_3b067, Cond.initialized RJ1, Cond.code yJ1_charAt_3b067 cJ1_charAt_3b067 2 (some .char), Cond.methodLink RJ1 9 yJ0_checkIndex_df160, Cond.static yJ0_checkIndex_df160, Cond.code yJ0_checkIndex_df160 cJ0_checkIndex_df160 2 none, Cond.fieldLink RJ0 1053 "jdk/internal/util/Preconditions" "SIOOBE_FORMATTER" "Ljava/util/function/BiFunction;", Cond.methodLink RJ0 1059 yJ3_checkIndex_8e157, Cond.static yJ3_checkIndex_8e157, Cond.initialized RJ3, Cond.code yJ3_checkIndex_8e157 cJ3_checkIndex_8e157 3 (some .int), Cond.methodLink RJ0 498 yJ2_charAt_3b067, Cond.static yJ2_charAt_3b067, Cond.initialized RJ2]
def wsX6_read_r5 : List Cond := [Cond.code yJ2_charAt_3b067 cJ2_charAt_3b067 2 (some .char), Cond.methodLink RJ2 67 yJ2_checkIndex_2214a, Cond.static yJ2_checkIndex_2214a, Cond.code yJ2_checkIndex_2214a cJ2_checkIndex_2214a 2 none, Cond.methodLink RJ2 48 yJ2_length_9d52b, Cond.static yJ2_length_9d52b, Cond.code yJ2_length_9d52b cJ2_length_9d52b 1 (some .int), Cond.methodLink RJ2 414 yJ0_checkIndex_df160, Cond.methodLink RJ2 71 yJ2_getChar_3b067, Cond.static yJ2_getChar_3b067, Cond.code yJ2_getChar_3b067 cJ2_getChar_3b067 2 (some .char), Cond.fieldLink RJ2 44 "java/lang/StringUTF16" "$assertionsDisabled" "Z", Cond.fieldLink RJ2 59 "java/lang/StringUTF16" "HI_BYTE_SHIFT" "I", Cond.fieldLink RJ2 63 "java/lang/StringUTF16" "LO_BYTE_SHIFT" "I", Cond.methodLink RX6 94 yX6_takeNumber, Cond.instanceMethod yX6_takeNumber, Cond.selects RX6 yX6_takeNumber yX6_takeNumber, Cond.code yX6_takeNumber cX6_takeNumber 6 none, Cond.static yX9_isWithin, Cond.initialized RX9, Cond.code yX9_isWithin cX9_isWithin 3 (some .boolean), Cond.methodLink RX6 77 yX6_putInForce, Cond.instanceMethod yX6_putInForce, Cond.selects RX6 yX6_putInForce yX6_putInForce]
def wsX6_read_r6 : List Cond := [Cond.code yX6_putInForce cX6_putInForce 5 none, Cond.fieldLink RX6 15 "CouponSale$RuleText" "values" "[I"]
def wsX6_read : List Cond := .code yX6_read cX6_read 4 (some .int) :: ((wsX6_read_r1 ++ (wsX6_read_r2 ++ (wsX6_read_r3 ++ (wsX6_read_r4 ++ (wsX6_read_r5 ++ wsX6_read_r6))))) ++ wsX70 ++ wsX60)
def wsX7_init : List Cond := .code yX7_init cX7_init 1 none :: ([.methodLink RX7 3 objectInit, .instanceMethod objectInit, .code objectInit ⟨#[0xb1]⟩ 1 none, .arrayClass .byte, .fieldLink RX7 11 "CouponSale$Tape" "bytes" "[B"] ++ wsX70)
def wsX7_hasRoomFor : List Cond := .code yX7_hasRoomFor cX7_hasRoomFor 2 (some .boolean) :: ([.fieldLink RX7 15 "CouponSale$Tape" "length" "I"] ++ wsX70)
def wsX7_append : List Cond := .code yX7_append cX7_append 3 none :: ([.fieldLink RX7 15 "CouponSale$Tape" "length" "I", .fieldLink RX7 11 "CouponSale$Tape" "bytes" "[B"] ++ wsX70)
def wsX7_shortenTo : List Cond := .code yX7_shortenTo cX7_shortenTo 2 (some .boolean) :: ([.fieldLink RX7 15 "CouponSale$Tape" "length" "I", .static yX9_isWithin, .initialized RX9, .code yX9_isWithin cX9_isWithin 3 (some .boolean)] ++ wsX70)
def wsX8_init : List Cond := .code yX8_init cX8_init 4 none :: ([.methodLink RX8 3 objectInit, .instanceMethod objectInit, .code objectInit ⟨#[0xb1]⟩ 1 none, .arrayClass .int, .fieldLink RX8 9 "CouponSale$Work" "asked" "[I", .fieldLink RX8 15 "CouponSale$Work" "held" "[I", .fieldLink RX8 18 "CouponSale$Work" "priceIn" "[I", .fieldLink RX8 21 "CouponSale$Work" "heldRows" "[I", .fieldLink RX8 24 "CouponSale$Work" "shares" "I", .fieldLink RX8 28 "CouponSale$Work" "left" "I", .fieldLink RX8 31 "CouponSale$Work" "priceNow" "I", .fieldLink RX8 34 "CouponSale$Work" "madeIn" "I", .static yX9_isWithin, .initialized RX9, .code yX9_isWithin cX9_isWithin 3 (some .boolean)] ++ wsX80)
def wsX8_heldAsOf : List Cond := .code yX8_heldAsOf cX8_heldAsOf 3 (some .int) :: ([.fieldLink RX8 21 "CouponSale$Work" "heldRows" "[I", .static yX9_isWithin, .initialized RX9, .code yX9_isWithin cX9_isWithin 3 (some .boolean)] ++ wsX80)
def wsX8_keepFor : List Cond := .code yX8_keepFor cX8_keepFor 3 none :: ([.fieldLink RX8 9 "CouponSale$Work" "asked" "[I", .fieldLink RX8 21 "CouponSale$Work" "heldRows" "[I", .fieldLink RX8 15 "CouponSale$Work" "held" "[I", .fieldLink RX8 18 "CouponSale$Work" "priceIn" "[I", .fieldLink RX8 31 "CouponSale$Work" "priceNow" "I", .static yX9_isWithin, .initialized RX9, .code yX9_isWithin cX9_isWithin 3 (some .boolean)] ++ wsX80)
def wsX9_init_r1 : List Cond := [Cond.methodLink RX9 3 objectInit, Cond.instanceMethod objectInit, Cond.code objectInit ⟨#[0xb1]⟩ 1 none, Cond.classLink RX9 9 RX7, Cond.instantiable RX7 2, Cond.initialized RX7, Cond.fieldLink RX9 12 "CouponSale" "tape" "LCouponSale$Tape;", Cond.classLink RX9 16 RX6, Cond.instantiable RX6 7, Cond.initialized RX6, Cond.fieldLink RX9 19 "CouponSale" "ruleText" "LCouponSale$RuleText;", Cond.classLink RX9 23 RX8, Cond.fieldLink RX9 25 "CouponSale" "works" "[LCouponSale$Work;", Cond.classLink RX9 29 RX4, Cond.fieldLink RX9 31 "CouponSale" "people" "[LCouponSale$Person;", Cond.classLink RX9 35 RX3, Cond.fieldLink RX9 37 "CouponSale" "funds" "[LCouponSale$Fund;", Cond.classLink RX9 41 RX0, Cond.instantiable RX0 3, Cond.initialized RX0, Cond.fieldLink RX9 44 "CouponSale" "allotment" "LCouponSale$Allotment;", Cond.instanceMethod yX7_init, Cond.code yX7_init cX7_init 1 none, Cond.methodLink RX7 3 objectInit]
def wsX9_init_r2 : List Cond := [Cond.arrayClass .byte, Cond.fieldLink RX7 11 "CouponSale$Tape" "bytes" "[B", Cond.methodLink RX9 18 yX6_init, Cond.instanceMethod yX6_init, Cond.code yX6_init cX6_init 5 none, Cond.methodLink RX6 3 objectInit, Cond.arrayClass .int, Cond.fieldLink RX6 15 "CouponSale$RuleText" "values" "[I", Cond.fieldLink RX6 21 "CouponSale$RuleText" "told" "[I", Cond.instanceMethod yX0_init, Cond.code yX0_init cX0_init 1 none, Cond.methodLink RX0 3 objectInit, Cond.fieldLink RX0 9 "CouponSale$Allotment" "wanted" "[I", Cond.fieldLink RX0 15 "CouponSale$Allotment" "won" "[I", Cond.fieldLink RX0 18 "CouponSale$Allotment" "rests" "[I"]
def wsX9_init : List Cond := .code yX9_init cX9_init 1 none :: ((wsX9_init_r1 ++ wsX9_init_r2) ++ wsX70 ++ wsX90 ++ wsX60 ++ wsX00)
def wsX9_feed : List Cond := .code yX9_feed cX9_feed 6 (some .int) :: ([.fieldLink RX9 12 "CouponSale" "tape" "LCouponSale$Tape;", .methodLink RX9 48 yX7_hasRoomFor, .instanceMethod yX7_hasRoomFor, .selects RX7 yX7_hasRoomFor yX7_hasRoomFor, .initialized RX7, .code yX7_hasRoomFor cX7_hasRoomFor 2 (some .boolean), .fieldLink RX7 15 "CouponSale$Tape" "length" "I", .methodLink RX9 52 yX7_append, .instanceMethod yX7_append, .selects RX7 yX7_append yX7_append, .code yX7_append cX7_append 3 none, .fieldLink RX7 11 "CouponSale$Tape" "bytes" "[B"] ++ wsX90 ++ wsX70)
def wsX9_end : List Cond := .code yX9_end cX9_end 2 (some .boolean) :: ([.fieldLink RX9 12 "CouponSale" "tape" "LCouponSale$Tape;", .methodLink RX9 60 yX7_shortenTo, .instanceMethod yX7_shortenTo, .selects RX7 yX7_shortenTo yX7_shortenTo, .initialized RX7, .code yX7_shortenTo cX7_shortenTo 2 (some .boolean), .fieldLink RX7 15 "CouponSale$Tape" "length" "I", .static yX9_isWithin, .initialized RX9, .code yX9_isWithin cX9_isWithin 3 (some .boolean)] ++ wsX90 ++ wsX70)
def wsX9_rules_r1 : List Cond := [Cond.fieldLink RX9 19 "CouponSale" "ruleText" "LCouponSale$RuleText;", Cond.fieldLink RX9 12 "CouponSale" "tape" "LCouponSale$Tape;", Cond.methodLink RX9 63 yX6_read, Cond.instanceMethod yX6_read, Cond.selects RX6 yX6_read yX6_read, Cond.initialized RX6, Cond.code yX6_read cX6_read 4 (some .int), Cond.methodLink RX6 39 Lib.Math.min.name, Cond.static Lib.Math.min.name, Cond.initialized "java/lang/Math", Cond.code Lib.Math.min.name Lib.Math.min.code 2 (some .int), Cond.fieldLink RX6 45 "CouponSale$RuleText" "faultKind" "I", Cond.methodLink RX6 64 Lib.Math.max.name, Cond.static Lib.Math.max.name, Cond.code Lib.Math.max.name Lib.Math.max.code 2 (some .int), Cond.fieldLink RX6 67 "CouponSale$RuleText" "awaited" "I", Cond.fieldLink RX6 74 "CouponSale$RuleText" "faultPlace" "I", Cond.fieldLink RX6 80 "CouponSale$RuleText" "toldCount" "I", Cond.methodLink RX6 31 yX6_begin, Cond.instanceMethod yX6_begin, Cond.selects RX6 yX6_begin yX6_begin, Cond.code yX6_begin cX6_begin 2 none, Cond.fieldLink RX6 21 "CouponSale$RuleText" "told" "[I", Cond.fieldLink RX6 83 "CouponSale$RuleText" "open" "LCouponSale$Rule;"]
def wsX9_rules_r2 : List Cond := [Cond.methodLink RX6 48 yX7_at, Cond.instanceMethod yX7_at, Cond.selects RX7 yX7_at yX7_at, Cond.initialized RX7, Cond.code yX7_at cX7_at 2 (some .int), Cond.fieldLink RX7 15 "CouponSale$Tape" "length" "I", Cond.fieldLink RX7 11 "CouponSale$Tape" "bytes" "[B", Cond.methodLink RX6 52 yX6_isBlank, Cond.static yX6_isBlank, Cond.code yX6_isBlank cX6_isBlank 1 (some .boolean), Cond.methodLink RX6 56 yX6_tokenEnd, Cond.static yX6_tokenEnd, Cond.code yX6_tokenEnd cX6_tokenEnd 3 (some .int), Cond.methodLink RX6 111 yX6_isOfWordOrNumber, Cond.static yX6_isOfWordOrNumber, Cond.code yX6_isOfWordOrNumber cX6_isOfWordOrNumber 1 (some .boolean), Cond.methodLink RX6 114 yX6_isLetter, Cond.static yX6_isLetter, Cond.code yX6_isLetter cX6_isLetter 1 (some .boolean), Cond.methodLink RX6 117 yX6_isDigit, Cond.static yX6_isDigit, Cond.code yX6_isDigit cX6_isDigit 1 (some .boolean), Cond.methodLink RX6 60 yX6_takeToken, Cond.instanceMethod yX6_takeToken]
def wsX9_rules_r3 : List Cond := [Cond.selects RX6 yX6_takeToken yX6_takeToken, Cond.code yX6_takeToken cX6_takeToken 5 none, Cond.methodLink RX6 87 yX6_tokenKind, Cond.static yX6_tokenKind, Cond.code yX6_tokenKind cX6_tokenKind 6 (some .int), Cond.methodLink RX6 70 yX6_setFault, Cond.instanceMethod yX6_setFault, Cond.selects RX6 yX6_setFault yX6_setFault, Cond.code yX6_setFault cX6_setFault 3 none, Cond.methodLink RX6 91 yX6_takeWord, Cond.instanceMethod yX6_takeWord, Cond.selects RX6 yX6_takeWord yX6_takeWord, Cond.code yX6_takeWord cX6_takeWord 4 none, Cond.methodLink RX6 97 yX6_ruleOf, Cond.static yX6_ruleOf, Cond.code yX6_ruleOf cX6_ruleOf 7 (some (.object "CouponSale$Rule")), Cond.methodLink RX6 124 yX6_spells, Cond.static yX6_spells, Cond.code yX6_spells cX6_spells 5 (some .boolean), Cond.methodLink RX6 128 yJ0_length_8abf5, Cond.instanceMethod yJ0_length_8abf5, Cond.selects RJ0 yJ0_length_8abf5 yJ0_length_8abf5, Cond.initialized RJ0, Cond.code yJ0_length_8abf5 cJ0_length_8abf5 1 (some .int)]
def wsX9_rules_r4 : List Cond := [Cond.fieldLink RJ0 9 "java/lang/String" "value" "[B", Cond.methodLink RJ0 335 yJ0_coder_7d493, Cond.instanceMethod yJ0_coder_7d493, Cond.selects RJ0 yJ0_coder_7d493 yJ0_coder_7d493, Cond.code yJ0_coder_7d493 cJ0_coder_7d493 1 (some .byte), Cond.fieldLink RJ0 38 "java/lang/String" "COMPACT_STRINGS" "Z", Cond.fieldLink RJ0 15 "java/lang/String" "coder" "B", Cond.methodLink RX6 133 yJ0_charAt_5068e, Cond.instanceMethod yJ0_charAt_5068e, Cond.selects RJ0 yJ0_charAt_5068e yJ0_charAt_5068e, Cond.code yJ0_charAt_5068e cJ0_charAt_5068e 2 (some .char), Cond.methodLink RJ0 492 yJ0_isLatin1_aae02, Cond.instanceMethod yJ0_isLatin1_aae02, Cond.selects RJ0 yJ0_isLatin1_aae02 yJ0_isLatin1_aae02, Cond.code yJ0_isLatin1_aae02 cJ0_isLatin1_aae02 1 (some .boolean), Cond.methodLink RJ0 495 yJ1_charAt_3b067, Cond.static yJ1_charAt_3b067, Cond.initialized RJ1, Cond.code yJ1_charAt_3b067 cJ1_charAt_3b067 2 (some .char), Cond.methodLink RJ1 9 yJ0_checkIndex_df160, Cond.static yJ0_checkIndex_df160, Cond.code yJ0_checkIndex_df160 cJ0_checkIndex_df160 2 none, Cond.fieldLink RJ0 1053 "jdk/internal/util/Preconditions" "SIOOBE_FORMATTER" "Ljava/util/function/BiFunction;", Cond.methodLink RJ0 1059 yJ3_checkIndex_8e157]
def wsX9_rules_r5 : List Cond := [Cond.static yJ3_checkIndex_8e157, Cond.initialized RJ3, Cond.code yJ3_checkIndex_8e157 cJ3_checkIndex_8e157 3 (some .int), Cond.methodLink RJ0 498 yJ2_charAt_3b067, Cond.static yJ2_charAt_3b067, Cond.initialized RJ2, Cond.code yJ2_charAt_3b067 cJ2_charAt_3b067 2 (some .char), Cond.methodLink RJ2 67 yJ2_checkIndex_2214a, Cond.static yJ2_checkIndex_2214a, Cond.code yJ2_checkIndex_2214a cJ2_checkIndex_2214a 2 none, Cond.methodLink RJ2 48 yJ2_length_9d52b, Cond.static yJ2_length_9d52b, Cond.code yJ2_length_9d52b cJ2_length_9d52b 1 (some .int), Cond.methodLink RJ2 414 yJ0_checkIndex_df160, Cond.methodLink RJ2 71 yJ2_getChar_3b067, Cond.static yJ2_getChar_3b067, Cond.code yJ2_getChar_3b067 cJ2_getChar_3b067 2 (some .char), Cond.fieldLink RJ2 44 "java/lang/StringUTF16" "$assertionsDisabled" "Z", Cond.fieldLink RJ2 59 "java/lang/StringUTF16" "HI_BYTE_SHIFT" "I", Cond.fieldLink RJ2 63 "java/lang/StringUTF16" "LO_BYTE_SHIFT" "I", Cond.methodLink RX6 94 yX6_takeNumber, Cond.instanceMethod yX6_takeNumber, Cond.selects RX6 yX6_takeNumber yX6_takeNumber, Cond.code yX6_takeNumber cX6_takeNumber 6 none]
def wsX9_rules_r6 : List Cond := [Cond.static yX9_isWithin, Cond.initialized RX9, Cond.code yX9_isWithin cX9_isWithin 3 (some .boolean), Cond.methodLink RX6 77 yX6_putInForce, Cond.instanceMethod yX6_putInForce, Cond.selects RX6 yX6_putInForce yX6_putInForce, Cond.code yX6_putInForce cX6_putInForce 5 none, Cond.fieldLink RX6 15 "CouponSale$RuleText" "values" "[I", Cond.methodLink RX9 60 yX7_shortenTo, Cond.instanceMethod yX7_shortenTo, Cond.selects RX7 yX7_shortenTo yX7_shortenTo, Cond.code yX7_shortenTo cX7_shortenTo 2 (some .boolean)]
def wsX9_rules : List Cond := .code yX9_rules cX9_rules 2 (some .int) :: ((wsX9_rules_r1 ++ (wsX9_rules_r2 ++ (wsX9_rules_r3 ++ (wsX9_rules_r4 ++ (wsX9_rules_r5 ++ wsX9_rules_r6))))) ++ wsX90 ++ wsX70 ++ wsX60)
def wsX9_fault : List Cond := .code yX9_fault cX9_fault 1 (some .int) :: ([.fieldLink RX9 19 "CouponSale" "ruleText" "LCouponSale$RuleText;"] ++ wsX90 ++ wsX60)
def wsX9_rule : List Cond := .code yX9_rule cX9_rule 2 (some .int) :: ([.fieldLink RX9 19 "CouponSale" "ruleText" "LCouponSale$RuleText;"] ++ wsX90 ++ wsX60)
def wsX9_work_r1 : List Cond := [Cond.fieldLink RX9 74 "CouponSale" "workCount" "I", Cond.fieldLink RX9 25 "CouponSale" "works" "[LCouponSale$Work;", Cond.classLink RX9 23 RX8, Cond.instantiable RX8 8, Cond.initialized RX8, Cond.fieldLink RX9 81 "CouponSale" "roundNow" "I", Cond.methodLink RX9 77 yX9_isWithin, Cond.static yX9_isWithin, Cond.initialized RX9, Cond.code yX9_isWithin cX9_isWithin 3 (some .boolean), Cond.methodLink RX9 84 yX8_init, Cond.instanceMethod yX8_init, Cond.code yX8_init cX8_init 4 none, Cond.methodLink RX8 3 objectInit, Cond.instanceMethod objectInit, Cond.code objectInit ⟨#[0xb1]⟩ 1 none, Cond.arrayClass .int, Cond.fieldLink RX8 9 "CouponSale$Work" "asked" "[I", Cond.fieldLink RX8 15 "CouponSale$Work" "held" "[I", Cond.fieldLink RX8 18 "CouponSale$Work" "priceIn" "[I", Cond.fieldLink RX8 21 "CouponSale$Work" "heldRows" "[I", Cond.fieldLink RX8 24 "CouponSale$Work" "shares" "I", Cond.fieldLink RX8 28 "CouponSale$Work" "left" "I", Cond.fieldLink RX8 31 "CouponSale$Work" "priceNow" "I"]
def wsX9_work_r2 : List Cond := [Cond.fieldLink RX8 34 "CouponSale$Work" "madeIn" "I"]
def wsX9_work : List Cond := .code yX9_work cX9_work 3 (some .int) :: ((wsX9_work_r1 ++ wsX9_work_r2) ++ wsX90 ++ wsX80)
def wsX9_workAt : List Cond := .code yX9_workAt cX9_workAt 2 (some (.object "CouponSale$Work")) :: ([.fieldLink RX9 74 "CouponSale" "workCount" "I", .fieldLink RX9 25 "CouponSale" "works" "[LCouponSale$Work;"] ++ wsX90)
def wsX9_person : List Cond := .code yX9_person cX9_person 2 (some .int) :: ([.fieldLink RX9 87 "CouponSale" "peopleCount" "I", .fieldLink RX9 31 "CouponSale" "people" "[LCouponSale$Person;", .classLink RX9 29 RX4, .instantiable RX4 2, .initialized RX4, .methodLink RX9 90 yX9_workAt, .instanceMethod yX9_workAt, .selects RX9 yX9_workAt yX9_workAt, .initialized RX9, .code yX9_workAt cX9_workAt 2 (some (.object "CouponSale$Work")), .fieldLink RX9 74 "CouponSale" "workCount" "I", .fieldLink RX9 25 "CouponSale" "works" "[LCouponSale$Work;", .methodLink RX9 94 yX4_init, .instanceMethod yX4_init, .code yX4_init cX4_init 2 none, .fieldLink RX4 9 "CouponSale$Person" "workerOf" "I", .fieldLink RX4 15 "CouponSale$Person" "points" "I", .sameField "CouponSale$Person" "CouponSale$Bidder" "points" "I", .instanceMethod yX1_init, .initialized RX1, .code yX1_init cX1_init 1 none, .methodLink RX1 1 objectInit, .instanceMethod objectInit, .code objectInit ⟨#[0xb1]⟩ 1 none] ++ wsX90 ++ wsX40 ++ wsX30)
def wsX9_fund : List Cond := .code yX9_fund cX9_fund 2 (some .int) :: ([.fieldLink RX9 96 "CouponSale" "fundCount" "I", .fieldLink RX9 37 "CouponSale" "funds" "[LCouponSale$Fund;", .classLink RX9 35 RX3, .instantiable RX3 4, .initialized RX3, .methodLink RX9 77 yX9_isWithin, .static yX9_isWithin, .initialized RX9, .code yX9_isWithin cX9_isWithin 3 (some .boolean), .methodLink RX9 99 yX3_init, .instanceMethod yX3_init, .code yX3_init cX3_init 2 none, .arrayClass .int, .fieldLink RX3 9 "CouponSale$Fund" "givenBy" "[I", .fieldLink RX3 15 "CouponSale$Fund" "promised" "I", .instanceMethod yX1_init, .initialized RX1, .code yX1_init cX1_init 1 none, .methodLink RX1 1 objectInit, .instanceMethod objectInit, .code objectInit ⟨#[0xb1]⟩ 1 none] ++ wsX90 ++ wsX30)
def wsX9_personAt : List Cond := .code yX9_personAt cX9_personAt 2 (some (.object "CouponSale$Person")) :: ([.fieldLink RX9 87 "CouponSale" "peopleCount" "I", .fieldLink RX9 31 "CouponSale" "people" "[LCouponSale$Person;"] ++ wsX90)
def wsX9_fundAt : List Cond := .code yX9_fundAt cX9_fundAt 3 (some (.object "CouponSale$Fund")) :: ([.fieldLink RX9 96 "CouponSale" "fundCount" "I", .fieldLink RX9 37 "CouponSale" "funds" "[LCouponSale$Fund;", .methodLink RX9 77 yX9_isWithin, .static yX9_isWithin, .initialized RX9, .code yX9_isWithin cX9_isWithin 3 (some .boolean)] ++ wsX90)
def wsX9_costOfBids : List Cond := .code yX9_costOfBids cX9_costOfBids 5 (some .int) :: ([.fieldLink RX9 74 "CouponSale" "workCount" "I", .methodLink RX9 90 yX9_workAt, .instanceMethod yX9_workAt, .selects RX9 yX9_workAt yX9_workAt, .initialized RX9, .code yX9_workAt cX9_workAt 2 (some (.object "CouponSale$Work")), .fieldLink RX9 25 "CouponSale" "works" "[LCouponSale$Work;"] ++ wsX90 ++ wsX80)
def wsX9_give_r1 : List Cond := [Cond.fieldLink RX9 81 "CouponSale" "roundNow" "I", Cond.fieldLink RX9 108 "CouponSale$Person" "points" "I", Cond.sameField "CouponSale$Person" "CouponSale$Bidder" "points" "I", Cond.fieldLink RX9 115 "CouponSale$Fund" "points" "I", Cond.sameField "CouponSale$Fund" "CouponSale$Bidder" "points" "I", Cond.methodLink RX9 100 yX9_personAt, Cond.instanceMethod yX9_personAt, Cond.selects RX9 yX9_personAt yX9_personAt, Cond.initialized RX9, Cond.code yX9_personAt cX9_personAt 2 (some (.object "CouponSale$Person")), Cond.fieldLink RX9 87 "CouponSale" "peopleCount" "I", Cond.fieldLink RX9 31 "CouponSale" "people" "[LCouponSale$Person;", Cond.methodLink RX9 104 yX9_fundAt, Cond.instanceMethod yX9_fundAt, Cond.selects RX9 yX9_fundAt yX9_fundAt, Cond.code yX9_fundAt cX9_fundAt 3 (some (.object "CouponSale$Fund")), Cond.fieldLink RX9 96 "CouponSale" "fundCount" "I", Cond.fieldLink RX9 37 "CouponSale" "funds" "[LCouponSale$Fund;", Cond.methodLink RX9 77 yX9_isWithin, Cond.static yX9_isWithin, Cond.code yX9_isWithin cX9_isWithin 3 (some .boolean), Cond.methodLink RX9 111 yX9_costOfBids, Cond.instanceMethod yX9_costOfBids, Cond.selects RX9 yX9_costOfBids yX9_costOfBids]
def wsX9_give_r2 : List Cond := [Cond.code yX9_costOfBids cX9_costOfBids 5 (some .int), Cond.fieldLink RX9 74 "CouponSale" "workCount" "I", Cond.methodLink RX9 90 yX9_workAt, Cond.instanceMethod yX9_workAt, Cond.selects RX9 yX9_workAt yX9_workAt, Cond.code yX9_workAt cX9_workAt 2 (some (.object "CouponSale$Work")), Cond.fieldLink RX9 25 "CouponSale" "works" "[LCouponSale$Work;"]
def wsX9_give : List Cond := .code yX9_give cX9_give 6 (some .int) :: ((wsX9_give_r1 ++ wsX9_give_r2) ++ wsX90 ++ wsX30 ++ wsX40 ++ wsX80)
def wsX9_bidderAt : List Cond := .code yX9_bidderAt cX9_bidderAt 3 (some (.object "CouponSale$Bidder")) :: ([.methodLink RX9 100 yX9_personAt, .instanceMethod yX9_personAt, .selects RX9 yX9_personAt yX9_personAt, .initialized RX9, .code yX9_personAt cX9_personAt 2 (some (.object "CouponSale$Person")), .fieldLink RX9 87 "CouponSale" "peopleCount" "I", .fieldLink RX9 31 "CouponSale" "people" "[LCouponSale$Person;", .methodLink RX9 104 yX9_fundAt, .instanceMethod yX9_fundAt, .selects RX9 yX9_fundAt yX9_fundAt, .code yX9_fundAt cX9_fundAt 3 (some (.object "CouponSale$Fund")), .fieldLink RX9 96 "CouponSale" "fundCount" "I", .fieldLink RX9 37 "CouponSale" "funds" "[LCouponSale$Fund;", .methodLink RX9 77 yX9_isWithin, .static yX9_isWithin, .code yX9_isWithin cX9_isWithin 3 (some .boolean)] ++ wsX90)
def wsX9_bid_r1 : List Cond := [Cond.fieldLink RX9 132 "CouponSale$Bidder" "points" "I", Cond.methodLink RX9 122 yX9_bidderAt, Cond.instanceMethod yX9_bidderAt, Cond.selects RX9 yX9_bidderAt yX9_bidderAt, Cond.initialized RX9, Cond.code yX9_bidderAt cX9_bidderAt 3 (some (.object "CouponSale$Bidder")), Cond.methodLink RX9 100 yX9_personAt, Cond.instanceMethod yX9_personAt, Cond.selects RX9 yX9_personAt yX9_personAt, Cond.code yX9_personAt cX9_personAt 2 (some (.object "CouponSale$Person")), Cond.fieldLink RX9 87 "CouponSale" "peopleCount" "I", Cond.fieldLink RX9 31 "CouponSale" "people" "[LCouponSale$Person;", Cond.methodLink RX9 104 yX9_fundAt, Cond.instanceMethod yX9_fundAt, Cond.selects RX9 yX9_fundAt yX9_fundAt, Cond.code yX9_fundAt cX9_fundAt 3 (some (.object "CouponSale$Fund")), Cond.fieldLink RX9 96 "CouponSale" "fundCount" "I", Cond.fieldLink RX9 37 "CouponSale" "funds" "[LCouponSale$Fund;", Cond.methodLink RX9 77 yX9_isWithin, Cond.static yX9_isWithin, Cond.code yX9_isWithin cX9_isWithin 3 (some .boolean), Cond.methodLink RX9 90 yX9_workAt, Cond.instanceMethod yX9_workAt, Cond.selects RX9 yX9_workAt yX9_workAt]
def wsX9_bid_r2 : List Cond := [Cond.code yX9_workAt cX9_workAt 2 (some (.object "CouponSale$Work")), Cond.fieldLink RX9 74 "CouponSale" "workCount" "I", Cond.fieldLink RX9 25 "CouponSale" "works" "[LCouponSale$Work;", Cond.methodLink RX9 111 yX9_costOfBids, Cond.instanceMethod yX9_costOfBids, Cond.selects RX9 yX9_costOfBids yX9_costOfBids, Cond.code yX9_costOfBids cX9_costOfBids 5 (some .int)]
def wsX9_bid : List Cond := .code yX9_bid cX9_bid 7 (some .int) :: ((wsX9_bid_r1 ++ wsX9_bid_r2) ++ wsX80 ++ wsX30 ++ wsX40 ++ wsX90)
def wsX9_dividedUp : List Cond := .code yX9_dividedUp cX9_dividedUp 2 (some .int) :: ([])
def wsX9_handOver : List Cond := .code yX9_handOver cX9_handOver 6 none :: ([.fieldLink RX9 44 "CouponSale" "allotment" "LCouponSale$Allotment;", .fieldLink RX9 132 "CouponSale$Bidder" "points" "I", .methodLink RX9 122 yX9_bidderAt, .instanceMethod yX9_bidderAt, .selects RX9 yX9_bidderAt yX9_bidderAt, .initialized RX9, .code yX9_bidderAt cX9_bidderAt 3 (some (.object "CouponSale$Bidder")), .methodLink RX9 100 yX9_personAt, .instanceMethod yX9_personAt, .selects RX9 yX9_personAt yX9_personAt, .code yX9_personAt cX9_personAt 2 (some (.object "CouponSale$Person")), .fieldLink RX9 87 "CouponSale" "peopleCount" "I", .fieldLink RX9 31 "CouponSale" "people" "[LCouponSale$Person;", .methodLink RX9 104 yX9_fundAt, .instanceMethod yX9_fundAt, .selects RX9 yX9_fundAt yX9_fundAt, .code yX9_fundAt cX9_fundAt 3 (some (.object "CouponSale$Fund")), .fieldLink RX9 96 "CouponSale" "fundCount" "I", .fieldLink RX9 37 "CouponSale" "funds" "[LCouponSale$Fund;", .methodLink RX9 77 yX9_isWithin, .static yX9_isWithin, .code yX9_isWithin cX9_isWithin 3 (some .boolean)] ++ wsX90 ++ wsX00 ++ wsX30 ++ wsX40 ++ wsX80)
def wsX9_sellToWorkers_r1 : List Cond := [Cond.fieldLink RX9 44 "CouponSale" "allotment" "LCouponSale$Allotment;", Cond.fieldLink RX9 19 "CouponSale" "ruleText" "LCouponSale$RuleText;", Cond.fieldLink RX9 222 "CouponSale$Rule" "WORKERS" "LCouponSale$Rule;", Cond.methodLink RX9 232 Lib.Math.min.name, Cond.static Lib.Math.min.name, Cond.initialized "java/lang/Math", Cond.code Lib.Math.min.name Lib.Math.min.code 2 (some .int), Cond.fieldLink RX9 240 "CouponSale$Rule" "HALF" "LCouponSale$Rule;", Cond.methodLink RX9 100 yX9_personAt, Cond.instanceMethod yX9_personAt, Cond.selects RX9 yX9_personAt yX9_personAt, Cond.initialized RX9, Cond.code yX9_personAt cX9_personAt 2 (some (.object "CouponSale$Person")), Cond.fieldLink RX9 87 "CouponSale" "peopleCount" "I", Cond.fieldLink RX9 31 "CouponSale" "people" "[LCouponSale$Person;", Cond.methodLink RX9 228 yX6_valueOf, Cond.instanceMethod yX6_valueOf, Cond.selects RX6 yX6_valueOf yX6_valueOf, Cond.initialized RX6, Cond.code yX6_valueOf cX6_valueOf 2 (some .int), Cond.fieldLink RX6 15 "CouponSale$RuleText" "values" "[I", Cond.methodLink RX9 237 yX0_cutBackTo, Cond.instanceMethod yX0_cutBackTo, Cond.selects RX0 yX0_cutBackTo yX0_cutBackTo]
def wsX9_sellToWorkers_r2 : List Cond := [Cond.initialized RX0, Cond.code yX0_cutBackTo cX0_cutBackTo 7 none, Cond.fieldLink RX0 9 "CouponSale$Allotment" "wanted" "[I", Cond.methodLink RX0 25 Lib.Math.min.name, Cond.fieldLink RX0 15 "CouponSale$Allotment" "won" "[I", Cond.fieldLink RX0 18 "CouponSale$Allotment" "rests" "[I", Cond.static yX9_sumOf, Cond.code yX9_sumOf cX9_sumOf 6 (some .int), Cond.methodLink RX0 31 yX0_giveOneToGreatestRest, Cond.instanceMethod yX0_giveOneToGreatestRest, Cond.selects RX0 yX0_giveOneToGreatestRest yX0_giveOneToGreatestRest, Cond.code yX0_giveOneToGreatestRest cX0_giveOneToGreatestRest 3 none, Cond.methodLink RX9 243 yX9_dividedUp, Cond.static yX9_dividedUp, Cond.code yX9_dividedUp cX9_dividedUp 2 (some .int), Cond.methodLink RX9 246 yX9_handOver, Cond.instanceMethod yX9_handOver, Cond.selects RX9 yX9_handOver yX9_handOver, Cond.code yX9_handOver cX9_handOver 6 none, Cond.fieldLink RX9 132 "CouponSale$Bidder" "points" "I", Cond.methodLink RX9 122 yX9_bidderAt, Cond.instanceMethod yX9_bidderAt, Cond.selects RX9 yX9_bidderAt yX9_bidderAt, Cond.code yX9_bidderAt cX9_bidderAt 3 (some (.object "CouponSale$Bidder"))]
def wsX9_sellToWorkers_r3 : List Cond := [Cond.methodLink RX9 104 yX9_fundAt, Cond.instanceMethod yX9_fundAt, Cond.selects RX9 yX9_fundAt yX9_fundAt, Cond.code yX9_fundAt cX9_fundAt 3 (some (.object "CouponSale$Fund")), Cond.fieldLink RX9 96 "CouponSale" "fundCount" "I", Cond.fieldLink RX9 37 "CouponSale" "funds" "[LCouponSale$Fund;", Cond.methodLink RX9 77 yX9_isWithin, Cond.static yX9_isWithin, Cond.code yX9_isWithin cX9_isWithin 3 (some .boolean)]
def wsX9_sellToWorkers : List Cond := .code yX9_sellToWorkers cX9_sellToWorkers 5 none :: ((wsX9_sellToWorkers_r1 ++ (wsX9_sellToWorkers_r2 ++ wsX9_sellToWorkers_r3)) ++ wsX90 ++ wsX00 ++ wsX40 ++ wsX80 ++ wsX60 ++ wsX30)
def wsX9_movedPrice : List Cond := .code yX9_movedPrice cX9_movedPrice 5 (some .int) :: ([.fieldLink RX9 19 "CouponSale" "ruleText" "LCouponSale$RuleText;", .fieldLink RX9 265 "CouponSale$Rule" "RISE" "LCouponSale$Rule;", .methodLink RX9 232 Lib.Math.min.name, .static Lib.Math.min.name, .initialized "java/lang/Math", .code Lib.Math.min.name Lib.Math.min.code 2 (some .int), .fieldLink RX9 268 "CouponSale$Rule" "FALL" "LCouponSale$Rule;", .methodLink RX9 271 Lib.Math.max.name, .static Lib.Math.max.name, .code Lib.Math.max.name Lib.Math.max.code 2 (some .int), .fieldLink RX9 274 "CouponSale$Rule" "LEAST" "LCouponSale$Rule;", .methodLink RX9 243 yX9_dividedUp, .static yX9_dividedUp, .initialized RX9, .code yX9_dividedUp cX9_dividedUp 2 (some .int), .methodLink RX9 228 yX6_valueOf, .instanceMethod yX6_valueOf, .selects RX6 yX6_valueOf yX6_valueOf, .initialized RX6, .code yX6_valueOf cX6_valueOf 2 (some .int), .fieldLink RX6 15 "CouponSale$RuleText" "values" "[I"] ++ wsX90 ++ wsX60)
def wsX9_sellToAll_r1 : List Cond := [Cond.fieldLink RX9 44 "CouponSale" "allotment" "LCouponSale$Allotment;", Cond.methodLink RX9 249 arraycopyName, Cond.native arraycopyName, Cond.static arraycopyName, Cond.initialized "java/lang/System", Cond.fieldLink RX9 19 "CouponSale" "ruleText" "LCouponSale$RuleText;", Cond.fieldLink RX9 255 "CouponSale$Rule" "CUT" "LCouponSale$Rule;", Cond.methodLink RX9 147 yX9_sumOf, Cond.static yX9_sumOf, Cond.initialized RX9, Cond.code yX9_sumOf cX9_sumOf 6 (some .int), Cond.methodLink RX9 228 yX6_valueOf, Cond.instanceMethod yX6_valueOf, Cond.selects RX6 yX6_valueOf yX6_valueOf, Cond.initialized RX6, Cond.code yX6_valueOf cX6_valueOf 2 (some .int), Cond.fieldLink RX6 15 "CouponSale$RuleText" "values" "[I", Cond.methodLink RX9 237 yX0_cutBackTo, Cond.instanceMethod yX0_cutBackTo, Cond.selects RX0 yX0_cutBackTo yX0_cutBackTo, Cond.initialized RX0, Cond.code yX0_cutBackTo cX0_cutBackTo 7 none, Cond.fieldLink RX0 9 "CouponSale$Allotment" "wanted" "[I", Cond.methodLink RX0 25 Lib.Math.min.name]
def wsX9_sellToAll_r2 : List Cond := [Cond.static Lib.Math.min.name, Cond.initialized "java/lang/Math", Cond.code Lib.Math.min.name Lib.Math.min.code 2 (some .int), Cond.fieldLink RX0 15 "CouponSale$Allotment" "won" "[I", Cond.fieldLink RX0 18 "CouponSale$Allotment" "rests" "[I", Cond.methodLink RX0 31 yX0_giveOneToGreatestRest, Cond.instanceMethod yX0_giveOneToGreatestRest, Cond.selects RX0 yX0_giveOneToGreatestRest yX0_giveOneToGreatestRest, Cond.code yX0_giveOneToGreatestRest cX0_giveOneToGreatestRest 3 none, Cond.methodLink RX9 246 yX9_handOver, Cond.instanceMethod yX9_handOver, Cond.selects RX9 yX9_handOver yX9_handOver, Cond.code yX9_handOver cX9_handOver 6 none, Cond.fieldLink RX9 132 "CouponSale$Bidder" "points" "I", Cond.methodLink RX9 122 yX9_bidderAt, Cond.instanceMethod yX9_bidderAt, Cond.selects RX9 yX9_bidderAt yX9_bidderAt, Cond.code yX9_bidderAt cX9_bidderAt 3 (some (.object "CouponSale$Bidder")), Cond.methodLink RX9 100 yX9_personAt, Cond.instanceMethod yX9_personAt, Cond.selects RX9 yX9_personAt yX9_personAt, Cond.code yX9_personAt cX9_personAt 2 (some (.object "CouponSale$Person")), Cond.fieldLink RX9 87 "CouponSale" "peopleCount" "I", Cond.fieldLink RX9 31 "CouponSale" "people" "[LCouponSale$Person;"]
def wsX9_sellToAll_r3 : List Cond := [Cond.methodLink RX9 104 yX9_fundAt, Cond.instanceMethod yX9_fundAt, Cond.selects RX9 yX9_fundAt yX9_fundAt, Cond.code yX9_fundAt cX9_fundAt 3 (some (.object "CouponSale$Fund")), Cond.fieldLink RX9 96 "CouponSale" "fundCount" "I", Cond.fieldLink RX9 37 "CouponSale" "funds" "[LCouponSale$Fund;", Cond.methodLink RX9 77 yX9_isWithin, Cond.static yX9_isWithin, Cond.code yX9_isWithin cX9_isWithin 3 (some .boolean), Cond.methodLink RX9 258 yX9_movedPrice, Cond.instanceMethod yX9_movedPrice, Cond.selects RX9 yX9_movedPrice yX9_movedPrice, Cond.code yX9_movedPrice cX9_movedPrice 5 (some .int), Cond.fieldLink RX9 265 "CouponSale$Rule" "RISE" "LCouponSale$Rule;", Cond.methodLink RX9 232 Lib.Math.min.name, Cond.fieldLink RX9 268 "CouponSale$Rule" "FALL" "LCouponSale$Rule;", Cond.methodLink RX9 271 Lib.Math.max.name, Cond.static Lib.Math.max.name, Cond.code Lib.Math.max.name Lib.Math.max.code 2 (some .int), Cond.fieldLink RX9 274 "CouponSale$Rule" "LEAST" "LCouponSale$Rule;", Cond.methodLink RX9 243 yX9_dividedUp, Cond.static yX9_dividedUp, Cond.code yX9_dividedUp cX9_dividedUp 2 (some .int)]
def wsX9_sellToAll : List Cond := .code yX9_sellToAll cX9_sellToAll 5 none :: ((wsX9_sellToAll_r1 ++ (wsX9_sellToAll_r2 ++ wsX9_sellToAll_r3)) ++ wsX80 ++ wsX90 ++ wsX00 ++ wsX60 ++ wsX30 ++ wsX40)
def wsX9_endRoundOf_r1 : List Cond := [Cond.fieldLink RX9 81 "CouponSale" "roundNow" "I", Cond.methodLink RX9 90 yX9_workAt, Cond.instanceMethod yX9_workAt, Cond.selects RX9 yX9_workAt yX9_workAt, Cond.initialized RX9, Cond.code yX9_workAt cX9_workAt 2 (some (.object "CouponSale$Work")), Cond.fieldLink RX9 74 "CouponSale" "workCount" "I", Cond.fieldLink RX9 25 "CouponSale" "works" "[LCouponSale$Work;", Cond.methodLink RX9 205 yX9_sellToWorkers, Cond.instanceMethod yX9_sellToWorkers, Cond.selects RX9 yX9_sellToWorkers yX9_sellToWorkers, Cond.code yX9_sellToWorkers cX9_sellToWorkers 5 none, Cond.fieldLink RX9 44 "CouponSale" "allotment" "LCouponSale$Allotment;", Cond.fieldLink RX9 19 "CouponSale" "ruleText" "LCouponSale$RuleText;", Cond.fieldLink RX9 222 "CouponSale$Rule" "WORKERS" "LCouponSale$Rule;", Cond.methodLink RX9 232 Lib.Math.min.name, Cond.static Lib.Math.min.name, Cond.initialized "java/lang/Math", Cond.code Lib.Math.min.name Lib.Math.min.code 2 (some .int), Cond.fieldLink RX9 240 "CouponSale$Rule" "HALF" "LCouponSale$Rule;", Cond.methodLink RX9 100 yX9_personAt, Cond.instanceMethod yX9_personAt, Cond.selects RX9 yX9_personAt yX9_personAt, Cond.code yX9_personAt cX9_personAt 2 (some (.object "CouponSale$Person"))]
def wsX9_endRoundOf_r2 : List Cond := [Cond.fieldLink RX9 87 "CouponSale" "peopleCount" "I", Cond.fieldLink RX9 31 "CouponSale" "people" "[LCouponSale$Person;", Cond.methodLink RX9 228 yX6_valueOf, Cond.instanceMethod yX6_valueOf, Cond.selects RX6 yX6_valueOf yX6_valueOf, Cond.initialized RX6, Cond.code yX6_valueOf cX6_valueOf 2 (some .int), Cond.fieldLink RX6 15 "CouponSale$RuleText" "values" "[I", Cond.methodLink RX9 237 yX0_cutBackTo, Cond.instanceMethod yX0_cutBackTo, Cond.selects RX0 yX0_cutBackTo yX0_cutBackTo, Cond.initialized RX0, Cond.code yX0_cutBackTo cX0_cutBackTo 7 none, Cond.fieldLink RX0 9 "CouponSale$Allotment" "wanted" "[I", Cond.methodLink RX0 25 Lib.Math.min.name, Cond.fieldLink RX0 15 "CouponSale$Allotment" "won" "[I", Cond.fieldLink RX0 18 "CouponSale$Allotment" "rests" "[I", Cond.static yX9_sumOf, Cond.code yX9_sumOf cX9_sumOf 6 (some .int), Cond.methodLink RX0 31 yX0_giveOneToGreatestRest, Cond.instanceMethod yX0_giveOneToGreatestRest, Cond.selects RX0 yX0_giveOneToGreatestRest yX0_giveOneToGreatestRest, Cond.code yX0_giveOneToGreatestRest cX0_giveOneToGreatestRest 3 none, Cond.methodLink RX9 243 yX9_dividedUp]
def wsX9_endRoundOf_r3 : List Cond := [Cond.static yX9_dividedUp, Cond.code yX9_dividedUp cX9_dividedUp 2 (some .int), Cond.methodLink RX9 246 yX9_handOver, Cond.instanceMethod yX9_handOver, Cond.selects RX9 yX9_handOver yX9_handOver, Cond.code yX9_handOver cX9_handOver 6 none, Cond.fieldLink RX9 132 "CouponSale$Bidder" "points" "I", Cond.methodLink RX9 122 yX9_bidderAt, Cond.instanceMethod yX9_bidderAt, Cond.selects RX9 yX9_bidderAt yX9_bidderAt, Cond.code yX9_bidderAt cX9_bidderAt 3 (some (.object "CouponSale$Bidder")), Cond.methodLink RX9 104 yX9_fundAt, Cond.instanceMethod yX9_fundAt, Cond.selects RX9 yX9_fundAt yX9_fundAt, Cond.code yX9_fundAt cX9_fundAt 3 (some (.object "CouponSale$Fund")), Cond.fieldLink RX9 96 "CouponSale" "fundCount" "I", Cond.fieldLink RX9 37 "CouponSale" "funds" "[LCouponSale$Fund;", Cond.methodLink RX9 77 yX9_isWithin, Cond.static yX9_isWithin, Cond.code yX9_isWithin cX9_isWithin 3 (some .boolean), Cond.methodLink RX9 209 yX9_sellToAll, Cond.instanceMethod yX9_sellToAll, Cond.selects RX9 yX9_sellToAll yX9_sellToAll, Cond.code yX9_sellToAll cX9_sellToAll 5 none]
def wsX9_endRoundOf_r4 : List Cond := [Cond.methodLink RX9 249 arraycopyName, Cond.native arraycopyName, Cond.static arraycopyName, Cond.initialized "java/lang/System", Cond.fieldLink RX9 255 "CouponSale$Rule" "CUT" "LCouponSale$Rule;", Cond.methodLink RX9 147 yX9_sumOf, Cond.methodLink RX9 258 yX9_movedPrice, Cond.instanceMethod yX9_movedPrice, Cond.selects RX9 yX9_movedPrice yX9_movedPrice, Cond.code yX9_movedPrice cX9_movedPrice 5 (some .int), Cond.fieldLink RX9 265 "CouponSale$Rule" "RISE" "LCouponSale$Rule;", Cond.fieldLink RX9 268 "CouponSale$Rule" "FALL" "LCouponSale$Rule;", Cond.methodLink RX9 271 Lib.Math.max.name, Cond.static Lib.Math.max.name, Cond.code Lib.Math.max.name Lib.Math.max.code 2 (some .int), Cond.fieldLink RX9 274 "CouponSale$Rule" "LEAST" "LCouponSale$Rule;", Cond.methodLink RX9 213 yX8_keepFor, Cond.instanceMethod yX8_keepFor, Cond.selects RX8 yX8_keepFor yX8_keepFor, Cond.initialized RX8, Cond.code yX8_keepFor cX8_keepFor 3 none, Cond.fieldLink RX8 9 "CouponSale$Work" "asked" "[I", Cond.fieldLink RX8 21 "CouponSale$Work" "heldRows" "[I", Cond.fieldLink RX8 15 "CouponSale$Work" "held" "[I"]
def wsX9_endRoundOf_r5 : List Cond := [Cond.fieldLink RX8 18 "CouponSale$Work" "priceIn" "[I", Cond.fieldLink RX8 31 "CouponSale$Work" "priceNow" "I"]
def wsX9_endRoundOf : List Cond := .code yX9_endRoundOf cX9_endRoundOf 4 (some .int) :: ((wsX9_endRoundOf_r1 ++ (wsX9_endRoundOf_r2 ++ (wsX9_endRoundOf_r3 ++ (wsX9_endRoundOf_r4 ++ wsX9_endRoundOf_r5)))) ++ wsX80 ++ wsX90 ++ wsX00 ++ wsX40 ++ wsX60 ++ wsX30)
def wsX9_close_r1 : List Cond := [Cond.fieldLink RX9 81 "CouponSale" "roundNow" "I", Cond.fieldLink RX9 74 "CouponSale" "workCount" "I", Cond.fieldLink RX9 138 "CouponSale" "soldInAll" "I", Cond.methodLink RX9 135 yX9_endRoundOf, Cond.instanceMethod yX9_endRoundOf, Cond.selects RX9 yX9_endRoundOf yX9_endRoundOf, Cond.initialized RX9, Cond.code yX9_endRoundOf cX9_endRoundOf 4 (some .int), Cond.methodLink RX9 90 yX9_workAt, Cond.instanceMethod yX9_workAt, Cond.selects RX9 yX9_workAt yX9_workAt, Cond.code yX9_workAt cX9_workAt 2 (some (.object "CouponSale$Work")), Cond.fieldLink RX9 25 "CouponSale" "works" "[LCouponSale$Work;", Cond.methodLink RX9 205 yX9_sellToWorkers, Cond.instanceMethod yX9_sellToWorkers, Cond.selects RX9 yX9_sellToWorkers yX9_sellToWorkers, Cond.code yX9_sellToWorkers cX9_sellToWorkers 5 none, Cond.fieldLink RX9 44 "CouponSale" "allotment" "LCouponSale$Allotment;", Cond.fieldLink RX9 19 "CouponSale" "ruleText" "LCouponSale$RuleText;", Cond.fieldLink RX9 222 "CouponSale$Rule" "WORKERS" "LCouponSale$Rule;", Cond.methodLink RX9 232 Lib.Math.min.name, Cond.static Lib.Math.min.name, Cond.initialized "java/lang/Math", Cond.code Lib.Math.min.name Lib.Math.min.code 2 (some .int)]
def wsX9_close_r2 : List Cond := [Cond.fieldLink RX9 240 "CouponSale$Rule" "HALF" "LCouponSale$Rule;", Cond.methodLink RX9 100 yX9_personAt, Cond.instanceMethod yX9_personAt, Cond.selects RX9 yX9_personAt yX9_personAt, Cond.code yX9_personAt cX9_personAt 2 (some (.object "CouponSale$Person")), Cond.fieldLink RX9 87 "CouponSale" "peopleCount" "I", Cond.fieldLink RX9 31 "CouponSale" "people" "[LCouponSale$Person;", Cond.methodLink RX9 228 yX6_valueOf, Cond.instanceMethod yX6_valueOf, Cond.selects RX6 yX6_valueOf yX6_valueOf, Cond.initialized RX6, Cond.code yX6_valueOf cX6_valueOf 2 (some .int), Cond.fieldLink RX6 15 "CouponSale$RuleText" "values" "[I", Cond.methodLink RX9 237 yX0_cutBackTo, Cond.instanceMethod yX0_cutBackTo, Cond.selects RX0 yX0_cutBackTo yX0_cutBackTo, Cond.initialized RX0, Cond.code yX0_cutBackTo cX0_cutBackTo 7 none, Cond.fieldLink RX0 9 "CouponSale$Allotment" "wanted" "[I", Cond.methodLink RX0 25 Lib.Math.min.name, Cond.fieldLink RX0 15 "CouponSale$Allotment" "won" "[I", Cond.fieldLink RX0 18 "CouponSale$Allotment" "rests" "[I", Cond.static yX9_sumOf, Cond.code yX9_sumOf cX9_sumOf 6 (some .int)]
def wsX9_close_r3 : List Cond := [Cond.methodLink RX0 31 yX0_giveOneToGreatestRest, Cond.instanceMethod yX0_giveOneToGreatestRest, Cond.selects RX0 yX0_giveOneToGreatestRest yX0_giveOneToGreatestRest, Cond.code yX0_giveOneToGreatestRest cX0_giveOneToGreatestRest 3 none, Cond.methodLink RX9 243 yX9_dividedUp, Cond.static yX9_dividedUp, Cond.code yX9_dividedUp cX9_dividedUp 2 (some .int), Cond.methodLink RX9 246 yX9_handOver, Cond.instanceMethod yX9_handOver, Cond.selects RX9 yX9_handOver yX9_handOver, Cond.code yX9_handOver cX9_handOver 6 none, Cond.fieldLink RX9 132 "CouponSale$Bidder" "points" "I", Cond.methodLink RX9 122 yX9_bidderAt, Cond.instanceMethod yX9_bidderAt, Cond.selects RX9 yX9_bidderAt yX9_bidderAt, Cond.code yX9_bidderAt cX9_bidderAt 3 (some (.object "CouponSale$Bidder")), Cond.methodLink RX9 104 yX9_fundAt, Cond.instanceMethod yX9_fundAt, Cond.selects RX9 yX9_fundAt yX9_fundAt, Cond.code yX9_fundAt cX9_fundAt 3 (some (.object "CouponSale$Fund")), Cond.fieldLink RX9 96 "CouponSale" "fundCount" "I", Cond.fieldLink RX9 37 "CouponSale" "funds" "[LCouponSale$Fund;", Cond.methodLink RX9 77 yX9_isWithin, Cond.static yX9_isWithin]
def wsX9_close_r4 : List Cond := [Cond.code yX9_isWithin cX9_isWithin 3 (some .boolean), Cond.methodLink RX9 209 yX9_sellToAll, Cond.instanceMethod yX9_sellToAll, Cond.selects RX9 yX9_sellToAll yX9_sellToAll, Cond.code yX9_sellToAll cX9_sellToAll 5 none, Cond.methodLink RX9 249 arraycopyName, Cond.native arraycopyName, Cond.static arraycopyName, Cond.initialized "java/lang/System", Cond.fieldLink RX9 255 "CouponSale$Rule" "CUT" "LCouponSale$Rule;", Cond.methodLink RX9 147 yX9_sumOf, Cond.methodLink RX9 258 yX9_movedPrice, Cond.instanceMethod yX9_movedPrice, Cond.selects RX9 yX9_movedPrice yX9_movedPrice, Cond.code yX9_movedPrice cX9_movedPrice 5 (some .int), Cond.fieldLink RX9 265 "CouponSale$Rule" "RISE" "LCouponSale$Rule;", Cond.fieldLink RX9 268 "CouponSale$Rule" "FALL" "LCouponSale$Rule;", Cond.methodLink RX9 271 Lib.Math.max.name, Cond.static Lib.Math.max.name, Cond.code Lib.Math.max.name Lib.Math.max.code 2 (some .int), Cond.fieldLink RX9 274 "CouponSale$Rule" "LEAST" "LCouponSale$Rule;", Cond.methodLink RX9 213 yX8_keepFor, Cond.instanceMethod yX8_keepFor, Cond.selects RX8 yX8_keepFor yX8_keepFor]
def wsX9_close_r5 : List Cond := [Cond.initialized RX8, Cond.code yX8_keepFor cX8_keepFor 3 none, Cond.fieldLink RX8 9 "CouponSale$Work" "asked" "[I", Cond.fieldLink RX8 21 "CouponSale$Work" "heldRows" "[I", Cond.fieldLink RX8 15 "CouponSale$Work" "held" "[I", Cond.fieldLink RX8 18 "CouponSale$Work" "priceIn" "[I", Cond.fieldLink RX8 31 "CouponSale$Work" "priceNow" "I"]
def wsX9_close : List Cond := .code yX9_close cX9_close 3 (some .int) :: ((wsX9_close_r1 ++ (wsX9_close_r2 ++ (wsX9_close_r3 ++ (wsX9_close_r4 ++ wsX9_close_r5)))) ++ wsX90 ++ wsX80 ++ wsX00 ++ wsX40 ++ wsX60 ++ wsX30)
def wsX9_about : List Cond := .code yX9_about cX9_about 4 (some .int) :: ([.methodLink RX9 90 yX9_workAt, .instanceMethod yX9_workAt, .selects RX9 yX9_workAt yX9_workAt, .initialized RX9, .code yX9_workAt cX9_workAt 2 (some (.object "CouponSale$Work")), .fieldLink RX9 74 "CouponSale" "workCount" "I", .fieldLink RX9 25 "CouponSale" "works" "[LCouponSale$Work;", .methodLink RX9 147 yX9_sumOf, .static yX9_sumOf, .code yX9_sumOf cX9_sumOf 6 (some .int)] ++ wsX80 ++ wsX90)
def wsX9_price : List Cond := .code yX9_price cX9_price 4 (some .int) :: ([.fieldLink RX9 81 "CouponSale" "roundNow" "I", .methodLink RX9 90 yX9_workAt, .instanceMethod yX9_workAt, .selects RX9 yX9_workAt yX9_workAt, .initialized RX9, .code yX9_workAt cX9_workAt 2 (some (.object "CouponSale$Work")), .fieldLink RX9 74 "CouponSale" "workCount" "I", .fieldLink RX9 25 "CouponSale" "works" "[LCouponSale$Work;", .methodLink RX9 77 yX9_isWithin, .static yX9_isWithin, .code yX9_isWithin cX9_isWithin 3 (some .boolean)] ++ wsX80 ++ wsX90)
def wsX9_worthHeldBy : List Cond := .code yX9_worthHeldBy cX9_worthHeldBy 5 (some .int) :: ([.fieldLink RX9 74 "CouponSale" "workCount" "I", .methodLink RX9 90 yX9_workAt, .instanceMethod yX9_workAt, .selects RX9 yX9_workAt yX9_workAt, .initialized RX9, .code yX9_workAt cX9_workAt 2 (some (.object "CouponSale$Work")), .fieldLink RX9 25 "CouponSale" "works" "[LCouponSale$Work;"] ++ wsX90 ++ wsX80)
def wsX9_isKept : List Cond := .code yX9_isKept cX9_isKept 5 (some .boolean) :: ([.constantLong RX9 187 (100), .fieldLink RX9 115 "CouponSale$Fund" "points" "I", .sameField "CouponSale$Fund" "CouponSale$Bidder" "points" "I", .methodLink RX9 189 yX9_worthHeldBy, .instanceMethod yX9_worthHeldBy, .selects RX9 yX9_worthHeldBy yX9_worthHeldBy, .initialized RX9, .code yX9_worthHeldBy cX9_worthHeldBy 5 (some .int), .fieldLink RX9 74 "CouponSale" "workCount" "I", .methodLink RX9 90 yX9_workAt, .instanceMethod yX9_workAt, .selects RX9 yX9_workAt yX9_workAt, .code yX9_workAt cX9_workAt 2 (some (.object "CouponSale$Work")), .fieldLink RX9 25 "CouponSale" "works" "[LCouponSale$Work;"] ++ wsX30 ++ wsX40 ++ wsX90 ++ wsX80)
def wsX9_sharesHeldBy : List Cond := .code yX9_sharesHeldBy cX9_sharesHeldBy 5 (some .int) :: ([.fieldLink RX9 74 "CouponSale" "workCount" "I", .methodLink RX9 90 yX9_workAt, .instanceMethod yX9_workAt, .selects RX9 yX9_workAt yX9_workAt, .initialized RX9, .code yX9_workAt cX9_workAt 2 (some (.object "CouponSale$Work")), .fieldLink RX9 25 "CouponSale" "works" "[LCouponSale$Work;"] ++ wsX90 ++ wsX80)
def wsX9_purse_r1 : List Cond := [Cond.classLink RX9 157 "java/util/NoSuchElementException", Cond.initialized "java/util/NoSuchElementException", Cond.fieldLink RX9 132 "CouponSale$Bidder" "points" "I", Cond.methodLink RX9 122 yX9_bidderAt, Cond.instanceMethod yX9_bidderAt, Cond.selects RX9 yX9_bidderAt yX9_bidderAt, Cond.initialized RX9, Cond.code yX9_bidderAt cX9_bidderAt 3 (some (.object "CouponSale$Bidder")), Cond.methodLink RX9 100 yX9_personAt, Cond.instanceMethod yX9_personAt, Cond.selects RX9 yX9_personAt yX9_personAt, Cond.code yX9_personAt cX9_personAt 2 (some (.object "CouponSale$Person")), Cond.fieldLink RX9 87 "CouponSale" "peopleCount" "I", Cond.fieldLink RX9 31 "CouponSale" "people" "[LCouponSale$Person;", Cond.methodLink RX9 104 yX9_fundAt, Cond.instanceMethod yX9_fundAt, Cond.selects RX9 yX9_fundAt yX9_fundAt, Cond.code yX9_fundAt cX9_fundAt 3 (some (.object "CouponSale$Fund")), Cond.fieldLink RX9 96 "CouponSale" "fundCount" "I", Cond.fieldLink RX9 37 "CouponSale" "funds" "[LCouponSale$Fund;", Cond.methodLink RX9 77 yX9_isWithin, Cond.static yX9_isWithin, Cond.code yX9_isWithin cX9_isWithin 3 (some .boolean), Cond.methodLink RX9 111 yX9_costOfBids]
def wsX9_purse_r2 : List Cond := [Cond.instanceMethod yX9_costOfBids, Cond.selects RX9 yX9_costOfBids yX9_costOfBids, Cond.code yX9_costOfBids cX9_costOfBids 5 (some .int), Cond.fieldLink RX9 74 "CouponSale" "workCount" "I", Cond.methodLink RX9 90 yX9_workAt, Cond.instanceMethod yX9_workAt, Cond.selects RX9 yX9_workAt yX9_workAt, Cond.code yX9_workAt cX9_workAt 2 (some (.object "CouponSale$Work")), Cond.fieldLink RX9 25 "CouponSale" "works" "[LCouponSale$Work;", Cond.methodLink RX9 160 yX9_isKept, Cond.instanceMethod yX9_isKept, Cond.selects RX9 yX9_isKept yX9_isKept, Cond.code yX9_isKept cX9_isKept 5 (some .boolean), Cond.constantLong RX9 187 (100), Cond.fieldLink RX9 115 "CouponSale$Fund" "points" "I", Cond.sameField "CouponSale$Fund" "CouponSale$Bidder" "points" "I", Cond.methodLink RX9 189 yX9_worthHeldBy, Cond.instanceMethod yX9_worthHeldBy, Cond.selects RX9 yX9_worthHeldBy yX9_worthHeldBy, Cond.code yX9_worthHeldBy cX9_worthHeldBy 5 (some .int), Cond.methodLink RX9 164 yX9_sharesHeldBy, Cond.instanceMethod yX9_sharesHeldBy, Cond.selects RX9 yX9_sharesHeldBy yX9_sharesHeldBy, Cond.code yX9_sharesHeldBy cX9_sharesHeldBy 5 (some .int)]
def wsX9_purse : List Cond := .code yX9_purse cX9_purse 5 (some .int) :: ((wsX9_purse_r1 ++ wsX9_purse_r2) ++ wsX30 ++ wsX40 ++ wsX90 ++ wsX80 ++ (vx_at0 RX9 159 "java/util/NoSuchElementException" ["java/lang/RuntimeException", "java/lang/Exception"]).filter goodWord)
def wsX9_holds_r1 : List Cond := [Cond.fieldLink RX9 81 "CouponSale" "roundNow" "I", Cond.methodLink RX9 90 yX9_workAt, Cond.instanceMethod yX9_workAt, Cond.selects RX9 yX9_workAt yX9_workAt, Cond.initialized RX9, Cond.code yX9_workAt cX9_workAt 2 (some (.object "CouponSale$Work")), Cond.fieldLink RX9 74 "CouponSale" "workCount" "I", Cond.fieldLink RX9 25 "CouponSale" "works" "[LCouponSale$Work;", Cond.methodLink RX9 122 yX9_bidderAt, Cond.instanceMethod yX9_bidderAt, Cond.selects RX9 yX9_bidderAt yX9_bidderAt, Cond.code yX9_bidderAt cX9_bidderAt 3 (some (.object "CouponSale$Bidder")), Cond.methodLink RX9 100 yX9_personAt, Cond.instanceMethod yX9_personAt, Cond.selects RX9 yX9_personAt yX9_personAt, Cond.code yX9_personAt cX9_personAt 2 (some (.object "CouponSale$Person")), Cond.fieldLink RX9 87 "CouponSale" "peopleCount" "I", Cond.fieldLink RX9 31 "CouponSale" "people" "[LCouponSale$Person;", Cond.methodLink RX9 104 yX9_fundAt, Cond.instanceMethod yX9_fundAt, Cond.selects RX9 yX9_fundAt yX9_fundAt, Cond.code yX9_fundAt cX9_fundAt 3 (some (.object "CouponSale$Fund")), Cond.fieldLink RX9 96 "CouponSale" "fundCount" "I", Cond.fieldLink RX9 37 "CouponSale" "funds" "[LCouponSale$Fund;"]
def wsX9_holds_r2 : List Cond := [Cond.methodLink RX9 77 yX9_isWithin, Cond.static yX9_isWithin, Cond.code yX9_isWithin cX9_isWithin 3 (some .boolean), Cond.methodLink RX9 167 yX8_heldAsOf, Cond.instanceMethod yX8_heldAsOf, Cond.selects RX8 yX8_heldAsOf yX8_heldAsOf, Cond.initialized RX8, Cond.code yX8_heldAsOf cX8_heldAsOf 3 (some .int), Cond.fieldLink RX8 21 "CouponSale$Work" "heldRows" "[I"]
def wsX9_holds : List Cond := .code yX9_holds cX9_holds 5 (some .int) :: ((wsX9_holds_r1 ++ wsX9_holds_r2) ++ wsX90 ++ wsX80)
def wsX9_asks_r1 : List Cond := [Cond.methodLink RX9 90 yX9_workAt, Cond.instanceMethod yX9_workAt, Cond.selects RX9 yX9_workAt yX9_workAt, Cond.initialized RX9, Cond.code yX9_workAt cX9_workAt 2 (some (.object "CouponSale$Work")), Cond.fieldLink RX9 74 "CouponSale" "workCount" "I", Cond.fieldLink RX9 25 "CouponSale" "works" "[LCouponSale$Work;", Cond.methodLink RX9 122 yX9_bidderAt, Cond.instanceMethod yX9_bidderAt, Cond.selects RX9 yX9_bidderAt yX9_bidderAt, Cond.code yX9_bidderAt cX9_bidderAt 3 (some (.object "CouponSale$Bidder")), Cond.methodLink RX9 100 yX9_personAt, Cond.instanceMethod yX9_personAt, Cond.selects RX9 yX9_personAt yX9_personAt, Cond.code yX9_personAt cX9_personAt 2 (some (.object "CouponSale$Person")), Cond.fieldLink RX9 87 "CouponSale" "peopleCount" "I", Cond.fieldLink RX9 31 "CouponSale" "people" "[LCouponSale$Person;", Cond.methodLink RX9 104 yX9_fundAt, Cond.instanceMethod yX9_fundAt, Cond.selects RX9 yX9_fundAt yX9_fundAt, Cond.code yX9_fundAt cX9_fundAt 3 (some (.object "CouponSale$Fund")), Cond.fieldLink RX9 96 "CouponSale" "fundCount" "I", Cond.fieldLink RX9 37 "CouponSale" "funds" "[LCouponSale$Fund;", Cond.methodLink RX9 77 yX9_isWithin]
def wsX9_asks_r2 : List Cond := [Cond.static yX9_isWithin, Cond.code yX9_isWithin cX9_isWithin 3 (some .boolean)]
def wsX9_asks : List Cond := .code yX9_asks cX9_asks 4 (some .int) :: ((wsX9_asks_r1 ++ wsX9_asks_r2) ++ wsX80 ++ wsX90)
def wsX9_partOwned_r1 : List Cond := [Cond.classLink RX9 176 RX2, Cond.instantiable RX2 2, Cond.initialized RX2, Cond.fieldLink RX9 96 "CouponSale" "fundCount" "I", Cond.methodLink RX9 167 yX8_heldAsOf, Cond.instanceMethod yX8_heldAsOf, Cond.selects RX8 yX8_heldAsOf yX8_heldAsOf, Cond.initialized RX8, Cond.code yX8_heldAsOf cX8_heldAsOf 3 (some .int), Cond.fieldLink RX8 21 "CouponSale$Work" "heldRows" "[I", Cond.static yX9_isWithin, Cond.initialized RX9, Cond.code yX9_isWithin cX9_isWithin 3 (some .boolean), Cond.methodLink RX9 195 yX2_init, Cond.instanceMethod yX2_init, Cond.code yX2_init cX2_init 3 none, Cond.methodLink RX2 1 objectInit, Cond.instanceMethod objectInit, Cond.code objectInit ⟨#[0xb1]⟩ 1 none, Cond.fieldLink RX2 7 "CouponSale$Fraction" "lower" "J", Cond.fieldLink RX2 13 "CouponSale$Fraction" "upper" "J", Cond.methodLink RX9 104 yX9_fundAt, Cond.instanceMethod yX9_fundAt, Cond.selects RX9 yX9_fundAt yX9_fundAt]
def wsX9_partOwned_r2 : List Cond := [Cond.code yX9_fundAt cX9_fundAt 3 (some (.object "CouponSale$Fund")), Cond.fieldLink RX9 37 "CouponSale" "funds" "[LCouponSale$Fund;", Cond.methodLink RX9 77 yX9_isWithin, Cond.methodLink RX9 198 yX2_add, Cond.instanceMethod yX2_add, Cond.selects RX2 yX2_add yX2_add, Cond.code yX2_add cX2_add 5 none, Cond.methodLink RX2 16 yX2_shorten, Cond.instanceMethod yX2_shorten, Cond.selects RX2 yX2_shorten yX2_shorten, Cond.code yX2_shorten cX2_shorten 3 none, Cond.methodLink RX2 19 yX2_divisorInCommon, Cond.static yX2_divisorInCommon, Cond.code yX2_divisorInCommon cX2_divisorInCommon 11 (some .long), Cond.methodLink RX9 202 yX2_divideBy, Cond.instanceMethod yX2_divideBy, Cond.selects RX2 yX2_divideBy yX2_divideBy, Cond.code yX2_divideBy cX2_divideBy 3 none]
def wsX9_partOwned : List Cond := .code yX9_partOwned cX9_partOwned 8 (some (.object "CouponSale$Fraction")) :: ((wsX9_partOwned_r1 ++ wsX9_partOwned_r2) ++ wsX20 ++ wsX90 ++ wsX30 ++ wsX80)
def wsX9_owned_r1 : List Cond := [Cond.classLink RX9 157 "java/util/NoSuchElementException", Cond.initialized "java/util/NoSuchElementException", Cond.fieldLink RX9 81 "CouponSale" "roundNow" "I", Cond.methodLink RX9 90 yX9_workAt, Cond.instanceMethod yX9_workAt, Cond.selects RX9 yX9_workAt yX9_workAt, Cond.initialized RX9, Cond.code yX9_workAt cX9_workAt 2 (some (.object "CouponSale$Work")), Cond.fieldLink RX9 74 "CouponSale" "workCount" "I", Cond.fieldLink RX9 25 "CouponSale" "works" "[LCouponSale$Work;", Cond.methodLink RX9 100 yX9_personAt, Cond.instanceMethod yX9_personAt, Cond.selects RX9 yX9_personAt yX9_personAt, Cond.code yX9_personAt cX9_personAt 2 (some (.object "CouponSale$Person")), Cond.fieldLink RX9 87 "CouponSale" "peopleCount" "I", Cond.fieldLink RX9 31 "CouponSale" "people" "[LCouponSale$Person;", Cond.methodLink RX9 77 yX9_isWithin, Cond.static yX9_isWithin, Cond.code yX9_isWithin cX9_isWithin 3 (some .boolean), Cond.methodLink RX9 171 yX9_partOwned, Cond.instanceMethod yX9_partOwned, Cond.selects RX9 yX9_partOwned yX9_partOwned, Cond.code yX9_partOwned cX9_partOwned 8 (some (.object "CouponSale$Fraction")), Cond.classLink RX9 176 RX2]
def wsX9_owned_r2 : List Cond := [Cond.instantiable RX2 2, Cond.initialized RX2, Cond.fieldLink RX9 96 "CouponSale" "fundCount" "I", Cond.methodLink RX9 167 yX8_heldAsOf, Cond.instanceMethod yX8_heldAsOf, Cond.selects RX8 yX8_heldAsOf yX8_heldAsOf, Cond.initialized RX8, Cond.code yX8_heldAsOf cX8_heldAsOf 3 (some .int), Cond.fieldLink RX8 21 "CouponSale$Work" "heldRows" "[I", Cond.methodLink RX9 195 yX2_init, Cond.instanceMethod yX2_init, Cond.code yX2_init cX2_init 3 none, Cond.methodLink RX2 1 objectInit, Cond.instanceMethod objectInit, Cond.code objectInit ⟨#[0xb1]⟩ 1 none, Cond.fieldLink RX2 7 "CouponSale$Fraction" "lower" "J", Cond.fieldLink RX2 13 "CouponSale$Fraction" "upper" "J", Cond.methodLink RX9 104 yX9_fundAt, Cond.instanceMethod yX9_fundAt, Cond.selects RX9 yX9_fundAt yX9_fundAt, Cond.code yX9_fundAt cX9_fundAt 3 (some (.object "CouponSale$Fund")), Cond.fieldLink RX9 37 "CouponSale" "funds" "[LCouponSale$Fund;", Cond.methodLink RX9 198 yX2_add, Cond.instanceMethod yX2_add]
def wsX9_owned_r3 : List Cond := [Cond.selects RX2 yX2_add yX2_add, Cond.code yX2_add cX2_add 5 none, Cond.methodLink RX2 16 yX2_shorten, Cond.instanceMethod yX2_shorten, Cond.selects RX2 yX2_shorten yX2_shorten, Cond.code yX2_shorten cX2_shorten 3 none, Cond.methodLink RX2 19 yX2_divisorInCommon, Cond.static yX2_divisorInCommon, Cond.code yX2_divisorInCommon cX2_divisorInCommon 11 (some .long), Cond.methodLink RX9 202 yX2_divideBy, Cond.instanceMethod yX2_divideBy, Cond.selects RX2 yX2_divideBy yX2_divideBy, Cond.code yX2_divideBy cX2_divideBy 3 none]
def wsX9_owned : List Cond := .code yX9_owned cX9_owned 7 (some .long) :: ((wsX9_owned_r1 ++ (wsX9_owned_r2 ++ wsX9_owned_r3)) ++ wsX90 ++ wsX20 ++ wsX30 ++ wsX80 ++ (vx_at0 RX9 159 "java/util/NoSuchElementException" ["java/lang/RuntimeException", "java/lang/Exception"]).filter goodWord)
def wsX9_count : List Cond := .code yX9_count cX9_count 2 (some .int) :: ([.fieldLink RX9 81 "CouponSale" "roundNow" "I", .fieldLink RX9 74 "CouponSale" "workCount" "I", .fieldLink RX9 87 "CouponSale" "peopleCount" "I", .fieldLink RX9 96 "CouponSale" "fundCount" "I", .fieldLink RX9 138 "CouponSale" "soldInAll" "I", .fieldLink RX9 12 "CouponSale" "tape" "LCouponSale$Tape;"] ++ wsX90 ++ wsX70)
def wsX10_init_r1 : List Cond := [Cond.methodLink RX10 1 objectInit, Cond.instanceMethod objectInit, Cond.code objectInit ⟨#[0xb1]⟩ 1 none, Cond.arrayClass .int, Cond.fieldLink RX10 7 "CouponSaleModel" "tape" "[I", Cond.fieldLink RX10 13 "CouponSaleModel" "rule" "[I", Cond.fieldLink RX10 16 "CouponSaleModel" "usual" "[I", Cond.fieldLink RX10 19 "CouponSaleModel" "low" "[I", Cond.fieldLink RX10 22 "CouponSaleModel" "high" "[I", Cond.fieldLink RX10 25 "CouponSaleModel" "fresh" "[I", Cond.fieldLink RX10 28 "CouponSaleModel" "shares" "[I", Cond.fieldLink RX10 31 "CouponSaleModel" "left" "[I", Cond.fieldLink RX10 34 "CouponSaleModel" "price" "[I", Cond.fieldLink RX10 37 "CouponSaleModel" "prices" "[I", Cond.fieldLink RX10 40 "CouponSaleModel" "since" "[I", Cond.fieldLink RX10 43 "CouponSaleModel" "points" "[I", Cond.fieldLink RX10 46 "CouponSaleModel" "worker" "[I", Cond.fieldLink RX10 49 "CouponSaleModel" "promise" "[I", Cond.fieldLink RX10 52 "CouponSaleModel" "given" "[I", Cond.fieldLink RX10 55 "CouponSaleModel" "gift" "[I", Cond.fieldLink RX10 58 "CouponSaleModel" "asked" "[I", Cond.fieldLink RX10 61 "CouponSaleModel" "held" "[I", Cond.fieldLink RX10 64 "CouponSaleModel" "was" "[I", Cond.fieldLink RX10 67 "CouponSaleModel" "wants" "[I"]
def wsX10_init_r2 : List Cond := [Cond.fieldLink RX10 70 "CouponSaleModel" "gets" "[I"]
def wsX10_init : List Cond := .code yX10_init cX10_init 1 none :: ((wsX10_init_r1 ++ wsX10_init_r2) ++ wsX100)
def wsX10_thrown : List Cond := .code yX10_thrown cX10_thrown 1 (some .int) :: ([.fieldLink RX10 73 "CouponSaleModel" "thrown" "I"] ++ wsX100)
def wsX10_refuse : List Cond := .code yX10_refuse cX10_refuse 1 (some .int) :: ([.fieldLink RX10 73 "CouponSaleModel" "thrown" "I"] ++ wsX100)
def wsX10_come : List Cond := .code yX10_come cX10_come 3 none :: ([.fieldLink RX10 7 "CouponSaleModel" "tape" "[I", .fieldLink RX10 77 "CouponSaleModel" "taped" "I"] ++ wsX100)
def wsX10_feed : List Cond := .code yX10_feed cX10_feed 6 (some .int) :: ([.fieldLink RX10 73 "CouponSaleModel" "thrown" "I", .fieldLink RX10 77 "CouponSaleModel" "taped" "I", .methodLink RX10 80 yX10_come, .instanceMethod yX10_come, .selects RX10 yX10_come yX10_come, .initialized RX10, .code yX10_come cX10_come 3 none, .fieldLink RX10 7 "CouponSaleModel" "tape" "[I"] ++ wsX100)
def wsX10_end : List Cond := .code yX10_end cX10_end 2 (some .boolean) :: ([.fieldLink RX10 73 "CouponSaleModel" "thrown" "I", .fieldLink RX10 77 "CouponSaleModel" "taped" "I"] ++ wsX100)
def wsX10_byteAt : List Cond := .code yX10_byteAt cX10_byteAt 2 (some .int) :: ([.fieldLink RX10 84 "CouponSaleModel" "size" "I", .fieldLink RX10 7 "CouponSaleModel" "tape" "[I"] ++ wsX100)
def wsX10_isDigit : List Cond := .code yX10_isDigit cX10_isDigit 1 (some .boolean) :: ([])
def wsX10_isLetter : List Cond := .code yX10_isLetter cX10_isLetter 1 (some .boolean) :: ([])
def wsX10_go : List Cond := .code yX10_go cX10_go 5 none :: ([.fieldLink RX10 87 "CouponSaleModel" "to" "I", .fieldLink RX10 84 "CouponSaleModel" "size" "I", .fieldLink RX10 7 "CouponSaleModel" "tape" "[I", .fieldLink RX10 90 "CouponSaleModel" "from" "I", .fieldLink RX10 93 "CouponSaleModel" "kind" "I", .fieldLink RX10 103 "CouponSaleModel" "word" "J", .fieldLink RX10 107 "CouponSaleModel" "number" "I", .constantLong RX10 114 (27), .constantLong RX10 116 (96), .constantLong RX10 118 (-1), .methodLink RX10 96 yX10_isLetter, .static yX10_isLetter, .initialized RX10, .code yX10_isLetter cX10_isLetter 1 (some .boolean), .methodLink RX10 100 yX10_isDigit, .static yX10_isDigit, .code yX10_isDigit cX10_isDigit 1 (some .boolean), .methodLink RX10 110 yX10_byteAt, .instanceMethod yX10_byteAt, .selects RX10 yX10_byteAt yX10_byteAt, .code yX10_byteAt cX10_byteAt 2 (some .int)] ++ wsX100)
def wsX10_spelt : List Cond := .code yX10_spelt cX10_spelt 3 (some .long) :: ([.constantLong RX10 114 (27), .constantLong RX10 116 (96)])
def wsX10_isKey : List Cond := .code yX10_isKey cX10_isKey 3 (some .boolean) :: ([.fieldLink RX10 93 "CouponSaleModel" "kind" "I", .fieldLink RX10 103 "CouponSaleModel" "word" "J"] ++ wsX100)
def wsX10_ruleAtHand : List Cond := .code yX10_ruleAtHand cX10_ruleAtHand 1 (some .int) :: ([.constantLong RX10 114 (27), .constantLong RX10 120 (19683), .constantLong RX10 126 (19), .constantLong RX10 132 (6), .constantLong RX10 134 (5), .constantLong RX10 136 (12), .constantLong RX10 138 (20), .methodLink RX10 122 yX10_spelt, .static yX10_spelt, .initialized RX10, .code yX10_spelt cX10_spelt 3 (some .long), .constantLong RX10 116 (96), .methodLink RX10 128 yX10_isKey, .instanceMethod yX10_isKey, .selects RX10 yX10_isKey yX10_isKey, .code yX10_isKey cX10_isKey 3 (some .boolean), .fieldLink RX10 93 "CouponSaleModel" "kind" "I", .fieldLink RX10 103 "CouponSaleModel" "word" "J"] ++ wsX100)
def wsX10_bad : List Cond := .code yX10_bad cX10_bad 2 (some .boolean) :: ([.fieldLink RX10 93 "CouponSaleModel" "kind" "I", .fieldLink RX10 140 "CouponSaleModel" "fault" "I", .fieldLink RX10 90 "CouponSaleModel" "from" "I", .fieldLink RX10 143 "CouponSaleModel" "place" "I"] ++ wsX100)
def wsX10_readRule_r1 : List Cond := [Cond.fieldLink RX10 153 "CouponSaleModel" "told" "I", Cond.fieldLink RX10 93 "CouponSaleModel" "kind" "I", Cond.fieldLink RX10 107 "CouponSaleModel" "number" "I", Cond.fieldLink RX10 19 "CouponSaleModel" "low" "[I", Cond.fieldLink RX10 22 "CouponSaleModel" "high" "[I", Cond.fieldLink RX10 25 "CouponSaleModel" "fresh" "[I", Cond.methodLink RX10 146 yX10_ruleAtHand, Cond.instanceMethod yX10_ruleAtHand, Cond.selects RX10 yX10_ruleAtHand yX10_ruleAtHand, Cond.initialized RX10, Cond.code yX10_ruleAtHand cX10_ruleAtHand 1 (some .int), Cond.constantLong RX10 114 (27), Cond.constantLong RX10 120 (19683), Cond.constantLong RX10 126 (19), Cond.constantLong RX10 132 (6), Cond.constantLong RX10 134 (5), Cond.constantLong RX10 136 (12), Cond.constantLong RX10 138 (20), Cond.methodLink RX10 122 yX10_spelt, Cond.static yX10_spelt, Cond.code yX10_spelt cX10_spelt 3 (some .long), Cond.constantLong RX10 116 (96), Cond.methodLink RX10 128 yX10_isKey, Cond.instanceMethod yX10_isKey]
def wsX10_readRule_r2 : List Cond := [Cond.selects RX10 yX10_isKey yX10_isKey, Cond.code yX10_isKey cX10_isKey 3 (some .boolean), Cond.fieldLink RX10 103 "CouponSaleModel" "word" "J", Cond.methodLink RX10 150 yX10_bad, Cond.instanceMethod yX10_bad, Cond.selects RX10 yX10_bad yX10_bad, Cond.code yX10_bad cX10_bad 2 (some .boolean), Cond.fieldLink RX10 140 "CouponSaleModel" "fault" "I", Cond.fieldLink RX10 90 "CouponSaleModel" "from" "I", Cond.fieldLink RX10 143 "CouponSaleModel" "place" "I", Cond.methodLink RX10 156 yX10_go, Cond.instanceMethod yX10_go, Cond.selects RX10 yX10_go yX10_go, Cond.code yX10_go cX10_go 5 none, Cond.fieldLink RX10 87 "CouponSaleModel" "to" "I", Cond.fieldLink RX10 84 "CouponSaleModel" "size" "I", Cond.fieldLink RX10 7 "CouponSaleModel" "tape" "[I", Cond.constantLong RX10 118 (-1), Cond.methodLink RX10 96 yX10_isLetter, Cond.static yX10_isLetter, Cond.code yX10_isLetter cX10_isLetter 1 (some .boolean), Cond.methodLink RX10 100 yX10_isDigit, Cond.static yX10_isDigit, Cond.code yX10_isDigit cX10_isDigit 1 (some .boolean)]
def wsX10_readRule_r3 : List Cond := [Cond.methodLink RX10 110 yX10_byteAt, Cond.instanceMethod yX10_byteAt, Cond.selects RX10 yX10_byteAt yX10_byteAt, Cond.code yX10_byteAt cX10_byteAt 2 (some .int)]
def wsX10_readRule : List Cond := .code yX10_readRule cX10_readRule 2 (some .boolean) :: ((wsX10_readRule_r1 ++ (wsX10_readRule_r2 ++ wsX10_readRule_r3)) ++ wsX100)
def wsX10_rules_r1 : List Cond := [Cond.fieldLink RX10 73 "CouponSaleModel" "thrown" "I", Cond.fieldLink RX10 77 "CouponSaleModel" "taped" "I", Cond.fieldLink RX10 84 "CouponSaleModel" "size" "I", Cond.fieldLink RX10 140 "CouponSaleModel" "fault" "I", Cond.fieldLink RX10 153 "CouponSaleModel" "told" "I", Cond.fieldLink RX10 25 "CouponSaleModel" "fresh" "[I", Cond.fieldLink RX10 16 "CouponSaleModel" "usual" "[I", Cond.fieldLink RX10 87 "CouponSaleModel" "to" "I", Cond.fieldLink RX10 93 "CouponSaleModel" "kind" "I", Cond.fieldLink RX10 143 "CouponSaleModel" "place" "I", Cond.fieldLink RX10 13 "CouponSaleModel" "rule" "[I", Cond.methodLink RX10 156 yX10_go, Cond.instanceMethod yX10_go, Cond.selects RX10 yX10_go yX10_go, Cond.initialized RX10, Cond.code yX10_go cX10_go 5 none, Cond.fieldLink RX10 7 "CouponSaleModel" "tape" "[I", Cond.fieldLink RX10 90 "CouponSaleModel" "from" "I", Cond.fieldLink RX10 103 "CouponSaleModel" "word" "J", Cond.fieldLink RX10 107 "CouponSaleModel" "number" "I", Cond.constantLong RX10 114 (27), Cond.constantLong RX10 116 (96), Cond.constantLong RX10 118 (-1), Cond.methodLink RX10 96 yX10_isLetter]
def wsX10_rules_r2 : List Cond := [Cond.static yX10_isLetter, Cond.code yX10_isLetter cX10_isLetter 1 (some .boolean), Cond.methodLink RX10 100 yX10_isDigit, Cond.static yX10_isDigit, Cond.code yX10_isDigit cX10_isDigit 1 (some .boolean), Cond.methodLink RX10 110 yX10_byteAt, Cond.instanceMethod yX10_byteAt, Cond.selects RX10 yX10_byteAt yX10_byteAt, Cond.code yX10_byteAt cX10_byteAt 2 (some .int), Cond.methodLink RX10 159 yX10_readRule, Cond.instanceMethod yX10_readRule, Cond.selects RX10 yX10_readRule yX10_readRule, Cond.code yX10_readRule cX10_readRule 2 (some .boolean), Cond.fieldLink RX10 19 "CouponSaleModel" "low" "[I", Cond.fieldLink RX10 22 "CouponSaleModel" "high" "[I", Cond.methodLink RX10 146 yX10_ruleAtHand, Cond.instanceMethod yX10_ruleAtHand, Cond.selects RX10 yX10_ruleAtHand yX10_ruleAtHand, Cond.code yX10_ruleAtHand cX10_ruleAtHand 1 (some .int), Cond.constantLong RX10 120 (19683), Cond.constantLong RX10 126 (19), Cond.constantLong RX10 132 (6), Cond.constantLong RX10 134 (5), Cond.constantLong RX10 136 (12)]
def wsX10_rules_r3 : List Cond := [Cond.constantLong RX10 138 (20), Cond.methodLink RX10 122 yX10_spelt, Cond.static yX10_spelt, Cond.code yX10_spelt cX10_spelt 3 (some .long), Cond.methodLink RX10 128 yX10_isKey, Cond.instanceMethod yX10_isKey, Cond.selects RX10 yX10_isKey yX10_isKey, Cond.code yX10_isKey cX10_isKey 3 (some .boolean), Cond.methodLink RX10 150 yX10_bad, Cond.instanceMethod yX10_bad, Cond.selects RX10 yX10_bad yX10_bad, Cond.code yX10_bad cX10_bad 2 (some .boolean)]
def wsX10_rules : List Cond := .code yX10_rules cX10_rules 3 (some .int) :: ((wsX10_rules_r1 ++ (wsX10_rules_r2 ++ wsX10_rules_r3)) ++ wsX100)
def wsX10_fault : List Cond := .code yX10_fault cX10_fault 1 (some .int) :: ([.fieldLink RX10 73 "CouponSaleModel" "thrown" "I", .fieldLink RX10 140 "CouponSaleModel" "fault" "I"] ++ wsX100)
def wsX10_rule : List Cond := .code yX10_rule cX10_rule 2 (some .int) :: ([.fieldLink RX10 73 "CouponSaleModel" "thrown" "I", .fieldLink RX10 13 "CouponSaleModel" "rule" "[I"] ++ wsX100)
def wsX10_isIn : List Cond := .code yX10_isIn cX10_isIn 3 (some .boolean) :: ([])
def wsX10_isWork : List Cond := .code yX10_isWork cX10_isWork 2 (some .boolean) :: ([.fieldLink RX10 163 "CouponSaleModel" "works" "I"] ++ wsX100)
def wsX10_isPerson : List Cond := .code yX10_isPerson cX10_isPerson 2 (some .boolean) :: ([.fieldLink RX10 166 "CouponSaleModel" "people" "I"] ++ wsX100)
def wsX10_isFund : List Cond := .code yX10_isFund cX10_isFund 2 (some .boolean) :: ([.fieldLink RX10 169 "CouponSaleModel" "funds" "I"] ++ wsX100)
def wsX10_isBidder : List Cond := .code yX10_isBidder cX10_isBidder 2 (some .boolean) :: ([.methodLink RX10 172 yX10_isPerson, .instanceMethod yX10_isPerson, .selects RX10 yX10_isPerson yX10_isPerson, .initialized RX10, .code yX10_isPerson cX10_isPerson 2 (some .boolean), .fieldLink RX10 166 "CouponSaleModel" "people" "I", .methodLink RX10 175 yX10_isFund, .instanceMethod yX10_isFund, .selects RX10 yX10_isFund yX10_isFund, .code yX10_isFund cX10_isFund 2 (some .boolean), .fieldLink RX10 169 "CouponSaleModel" "funds" "I"] ++ wsX100)
def wsX10_work : List Cond := .code yX10_work cX10_work 3 (some .int) :: ([.fieldLink RX10 73 "CouponSaleModel" "thrown" "I", .fieldLink RX10 163 "CouponSaleModel" "works" "I", .fieldLink RX10 28 "CouponSaleModel" "shares" "[I", .fieldLink RX10 31 "CouponSaleModel" "left" "[I", .fieldLink RX10 34 "CouponSaleModel" "price" "[I", .fieldLink RX10 40 "CouponSaleModel" "since" "[I", .fieldLink RX10 182 "CouponSaleModel" "round" "I", .fieldLink RX10 37 "CouponSaleModel" "prices" "[I", .methodLink RX10 178 yX10_isIn, .static yX10_isIn, .initialized RX10, .code yX10_isIn cX10_isIn 3 (some .boolean)] ++ wsX100)
def wsX10_person : List Cond := .code yX10_person cX10_person 2 (some .int) :: ([.fieldLink RX10 73 "CouponSaleModel" "thrown" "I", .fieldLink RX10 166 "CouponSaleModel" "people" "I", .fieldLink RX10 43 "CouponSaleModel" "points" "[I", .fieldLink RX10 46 "CouponSaleModel" "worker" "[I", .methodLink RX10 185 yX10_isWork, .instanceMethod yX10_isWork, .selects RX10 yX10_isWork yX10_isWork, .initialized RX10, .code yX10_isWork cX10_isWork 2 (some .boolean), .fieldLink RX10 163 "CouponSaleModel" "works" "I"] ++ wsX100)
def wsX10_fund : List Cond := .code yX10_fund cX10_fund 2 (some .int) :: ([.fieldLink RX10 73 "CouponSaleModel" "thrown" "I", .fieldLink RX10 169 "CouponSaleModel" "funds" "I", .fieldLink RX10 49 "CouponSaleModel" "promise" "[I", .methodLink RX10 178 yX10_isIn, .static yX10_isIn, .initialized RX10, .code yX10_isIn cX10_isIn 3 (some .boolean)] ++ wsX100)
def wsX10_costs : List Cond := .code yX10_costs cX10_costs 4 (some .int) :: ([.fieldLink RX10 163 "CouponSaleModel" "works" "I", .fieldLink RX10 58 "CouponSaleModel" "asked" "[I", .fieldLink RX10 34 "CouponSaleModel" "price" "[I"] ++ wsX100)
def wsX10_give : List Cond := .code yX10_give cX10_give 5 (some .int) :: ([.fieldLink RX10 73 "CouponSaleModel" "thrown" "I", .fieldLink RX10 182 "CouponSaleModel" "round" "I", .fieldLink RX10 43 "CouponSaleModel" "points" "[I", .fieldLink RX10 52 "CouponSaleModel" "given" "[I", .fieldLink RX10 55 "CouponSaleModel" "gift" "[I", .methodLink RX10 172 yX10_isPerson, .instanceMethod yX10_isPerson, .selects RX10 yX10_isPerson yX10_isPerson, .initialized RX10, .code yX10_isPerson cX10_isPerson 2 (some .boolean), .fieldLink RX10 166 "CouponSaleModel" "people" "I", .methodLink RX10 175 yX10_isFund, .instanceMethod yX10_isFund, .selects RX10 yX10_isFund yX10_isFund, .code yX10_isFund cX10_isFund 2 (some .boolean), .fieldLink RX10 169 "CouponSaleModel" "funds" "I", .methodLink RX10 188 yX10_costs, .instanceMethod yX10_costs, .selects RX10 yX10_costs yX10_costs, .code yX10_costs cX10_costs 4 (some .int), .fieldLink RX10 163 "CouponSaleModel" "works" "I", .fieldLink RX10 58 "CouponSaleModel" "asked" "[I", .fieldLink RX10 34 "CouponSaleModel" "price" "[I"] ++ wsX100)
def wsX10_bid_r1 : List Cond := [Cond.fieldLink RX10 73 "CouponSaleModel" "thrown" "I", Cond.fieldLink RX10 58 "CouponSaleModel" "asked" "[I", Cond.fieldLink RX10 34 "CouponSaleModel" "price" "[I", Cond.fieldLink RX10 43 "CouponSaleModel" "points" "[I", Cond.methodLink RX10 191 yX10_isBidder, Cond.instanceMethod yX10_isBidder, Cond.selects RX10 yX10_isBidder yX10_isBidder, Cond.initialized RX10, Cond.code yX10_isBidder cX10_isBidder 2 (some .boolean), Cond.methodLink RX10 172 yX10_isPerson, Cond.instanceMethod yX10_isPerson, Cond.selects RX10 yX10_isPerson yX10_isPerson, Cond.code yX10_isPerson cX10_isPerson 2 (some .boolean), Cond.fieldLink RX10 166 "CouponSaleModel" "people" "I", Cond.methodLink RX10 175 yX10_isFund, Cond.instanceMethod yX10_isFund, Cond.selects RX10 yX10_isFund yX10_isFund, Cond.code yX10_isFund cX10_isFund 2 (some .boolean), Cond.fieldLink RX10 169 "CouponSaleModel" "funds" "I", Cond.methodLink RX10 185 yX10_isWork, Cond.instanceMethod yX10_isWork, Cond.selects RX10 yX10_isWork yX10_isWork, Cond.code yX10_isWork cX10_isWork 2 (some .boolean), Cond.fieldLink RX10 163 "CouponSaleModel" "works" "I"]
def wsX10_bid_r2 : List Cond := [Cond.methodLink RX10 178 yX10_isIn, Cond.static yX10_isIn, Cond.code yX10_isIn cX10_isIn 3 (some .boolean), Cond.methodLink RX10 188 yX10_costs, Cond.instanceMethod yX10_costs, Cond.selects RX10 yX10_costs yX10_costs, Cond.code yX10_costs cX10_costs 4 (some .int)]
def wsX10_bid : List Cond := .code yX10_bid cX10_bid 5 (some .int) :: ((wsX10_bid_r1 ++ wsX10_bid_r2) ++ wsX100)
def wsX10_part : List Cond := .code yX10_part cX10_part 6 (some .int) :: ([.fieldLink RX10 67 "CouponSaleModel" "wants" "[I", .fieldLink RX10 70 "CouponSaleModel" "gets" "[I"] ++ wsX100)
def wsX10_sells : List Cond := .code yX10_sells cX10_sells 5 (some .int) :: ([.fieldLink RX10 61 "CouponSaleModel" "held" "[I", .fieldLink RX10 70 "CouponSaleModel" "gets" "[I", .fieldLink RX10 58 "CouponSaleModel" "asked" "[I", .fieldLink RX10 43 "CouponSaleModel" "points" "[I", .fieldLink RX10 31 "CouponSaleModel" "left" "[I"] ++ wsX100)
def wsX10_sellsWork : List Cond := .code yX10_sellsWork cX10_sellsWork 9 (some .int) :: ([.fieldLink RX10 182 "CouponSaleModel" "round" "I", .fieldLink RX10 67 "CouponSaleModel" "wants" "[I", .fieldLink RX10 166 "CouponSaleModel" "people" "I", .fieldLink RX10 46 "CouponSaleModel" "worker" "[I", .fieldLink RX10 58 "CouponSaleModel" "asked" "[I", .fieldLink RX10 28 "CouponSaleModel" "shares" "[I", .fieldLink RX10 13 "CouponSaleModel" "rule" "[I", .fieldLink RX10 34 "CouponSaleModel" "price" "[I", .fieldLink RX10 31 "CouponSaleModel" "left" "[I", .methodLink RX10 194 yX10_part, .instanceMethod yX10_part, .selects RX10 yX10_part yX10_part, .initialized RX10, .code yX10_part cX10_part 6 (some .int), .fieldLink RX10 70 "CouponSaleModel" "gets" "[I", .methodLink RX10 197 yX10_sells, .instanceMethod yX10_sells, .selects RX10 yX10_sells yX10_sells, .code yX10_sells cX10_sells 5 (some .int), .fieldLink RX10 61 "CouponSaleModel" "held" "[I", .fieldLink RX10 43 "CouponSaleModel" "points" "[I"] ++ wsX100)
def wsX10_close_r1 : List Cond := [Cond.fieldLink RX10 73 "CouponSaleModel" "thrown" "I", Cond.fieldLink RX10 182 "CouponSaleModel" "round" "I", Cond.fieldLink RX10 64 "CouponSaleModel" "was" "[I", Cond.fieldLink RX10 61 "CouponSaleModel" "held" "[I", Cond.fieldLink RX10 163 "CouponSaleModel" "works" "I", Cond.fieldLink RX10 31 "CouponSaleModel" "left" "[I", Cond.fieldLink RX10 58 "CouponSaleModel" "asked" "[I", Cond.fieldLink RX10 37 "CouponSaleModel" "prices" "[I", Cond.fieldLink RX10 34 "CouponSaleModel" "price" "[I", Cond.fieldLink RX10 204 "CouponSaleModel" "soldAll" "I", Cond.methodLink RX10 201 yX10_sellsWork, Cond.instanceMethod yX10_sellsWork, Cond.selects RX10 yX10_sellsWork yX10_sellsWork, Cond.initialized RX10, Cond.code yX10_sellsWork cX10_sellsWork 9 (some .int), Cond.fieldLink RX10 67 "CouponSaleModel" "wants" "[I", Cond.fieldLink RX10 166 "CouponSaleModel" "people" "I", Cond.fieldLink RX10 46 "CouponSaleModel" "worker" "[I", Cond.fieldLink RX10 28 "CouponSaleModel" "shares" "[I", Cond.fieldLink RX10 13 "CouponSaleModel" "rule" "[I", Cond.methodLink RX10 194 yX10_part, Cond.instanceMethod yX10_part, Cond.selects RX10 yX10_part yX10_part, Cond.code yX10_part cX10_part 6 (some .int)]
def wsX10_close_r2 : List Cond := [Cond.fieldLink RX10 70 "CouponSaleModel" "gets" "[I", Cond.methodLink RX10 197 yX10_sells, Cond.instanceMethod yX10_sells, Cond.selects RX10 yX10_sells yX10_sells, Cond.code yX10_sells cX10_sells 5 (some .int), Cond.fieldLink RX10 43 "CouponSaleModel" "points" "[I"]
def wsX10_close : List Cond := .code yX10_close cX10_close 3 (some .int) :: ((wsX10_close_r1 ++ wsX10_close_r2) ++ wsX100)
def wsX10_about : List Cond := .code yX10_about cX10_about 5 (some .int) :: ([.fieldLink RX10 73 "CouponSaleModel" "thrown" "I", .fieldLink RX10 58 "CouponSaleModel" "asked" "[I", .fieldLink RX10 28 "CouponSaleModel" "shares" "[I", .fieldLink RX10 31 "CouponSaleModel" "left" "[I", .fieldLink RX10 34 "CouponSaleModel" "price" "[I", .methodLink RX10 185 yX10_isWork, .instanceMethod yX10_isWork, .selects RX10 yX10_isWork yX10_isWork, .initialized RX10, .code yX10_isWork cX10_isWork 2 (some .boolean), .fieldLink RX10 163 "CouponSaleModel" "works" "I"] ++ wsX100)
def wsX10_price : List Cond := .code yX10_price cX10_price 3 (some .int) :: ([.fieldLink RX10 73 "CouponSaleModel" "thrown" "I", .fieldLink RX10 40 "CouponSaleModel" "since" "[I", .fieldLink RX10 182 "CouponSaleModel" "round" "I", .fieldLink RX10 37 "CouponSaleModel" "prices" "[I", .methodLink RX10 185 yX10_isWork, .instanceMethod yX10_isWork, .selects RX10 yX10_isWork yX10_isWork, .initialized RX10, .code yX10_isWork cX10_isWork 2 (some .boolean), .fieldLink RX10 163 "CouponSaleModel" "works" "I"] ++ wsX100)
def wsX10_isKept : List Cond := .code yX10_isKept cX10_isKept 5 (some .boolean) :: ([.fieldLink RX10 43 "CouponSaleModel" "points" "[I", .fieldLink RX10 163 "CouponSaleModel" "works" "I", .fieldLink RX10 61 "CouponSaleModel" "held" "[I", .fieldLink RX10 34 "CouponSaleModel" "price" "[I", .constantLong RX10 207 (100), .fieldLink RX10 49 "CouponSaleModel" "promise" "[I", .fieldLink RX10 52 "CouponSaleModel" "given" "[I"] ++ wsX100)
def wsX10_purse_r1 : List Cond := [Cond.fieldLink RX10 73 "CouponSaleModel" "thrown" "I", Cond.fieldLink RX10 163 "CouponSaleModel" "works" "I", Cond.fieldLink RX10 61 "CouponSaleModel" "held" "[I", Cond.fieldLink RX10 43 "CouponSaleModel" "points" "[I", Cond.fieldLink RX10 52 "CouponSaleModel" "given" "[I", Cond.methodLink RX10 191 yX10_isBidder, Cond.instanceMethod yX10_isBidder, Cond.selects RX10 yX10_isBidder yX10_isBidder, Cond.initialized RX10, Cond.code yX10_isBidder cX10_isBidder 2 (some .boolean), Cond.methodLink RX10 172 yX10_isPerson, Cond.instanceMethod yX10_isPerson, Cond.selects RX10 yX10_isPerson yX10_isPerson, Cond.code yX10_isPerson cX10_isPerson 2 (some .boolean), Cond.fieldLink RX10 166 "CouponSaleModel" "people" "I", Cond.methodLink RX10 175 yX10_isFund, Cond.instanceMethod yX10_isFund, Cond.selects RX10 yX10_isFund yX10_isFund, Cond.code yX10_isFund cX10_isFund 2 (some .boolean), Cond.fieldLink RX10 169 "CouponSaleModel" "funds" "I", Cond.methodLink RX10 209 yX10_refuse, Cond.instanceMethod yX10_refuse, Cond.selects RX10 yX10_refuse yX10_refuse, Cond.code yX10_refuse cX10_refuse 1 (some .int)]
def wsX10_purse_r2 : List Cond := [Cond.methodLink RX10 188 yX10_costs, Cond.instanceMethod yX10_costs, Cond.selects RX10 yX10_costs yX10_costs, Cond.code yX10_costs cX10_costs 4 (some .int), Cond.fieldLink RX10 58 "CouponSaleModel" "asked" "[I", Cond.fieldLink RX10 34 "CouponSaleModel" "price" "[I", Cond.methodLink RX10 212 yX10_isKept, Cond.instanceMethod yX10_isKept, Cond.selects RX10 yX10_isKept yX10_isKept, Cond.code yX10_isKept cX10_isKept 5 (some .boolean), Cond.constantLong RX10 207 (100), Cond.fieldLink RX10 49 "CouponSaleModel" "promise" "[I"]
def wsX10_purse : List Cond := .code yX10_purse cX10_purse 5 (some .int) :: ((wsX10_purse_r1 ++ wsX10_purse_r2) ++ wsX100)
def wsX10_heldAsOf : List Cond := .code yX10_heldAsOf cX10_heldAsOf 4 (some .int) :: ([.fieldLink RX10 182 "CouponSaleModel" "round" "I", .fieldLink RX10 61 "CouponSaleModel" "held" "[I", .fieldLink RX10 64 "CouponSaleModel" "was" "[I"] ++ wsX100)
def wsX10_isRound : List Cond := .code yX10_isRound cX10_isRound 2 (some .boolean) :: ([.fieldLink RX10 182 "CouponSaleModel" "round" "I"] ++ wsX100)
def wsX10_holds_r1 : List Cond := [Cond.fieldLink RX10 73 "CouponSaleModel" "thrown" "I", Cond.methodLink RX10 191 yX10_isBidder, Cond.instanceMethod yX10_isBidder, Cond.selects RX10 yX10_isBidder yX10_isBidder, Cond.initialized RX10, Cond.code yX10_isBidder cX10_isBidder 2 (some .boolean), Cond.methodLink RX10 172 yX10_isPerson, Cond.instanceMethod yX10_isPerson, Cond.selects RX10 yX10_isPerson yX10_isPerson, Cond.code yX10_isPerson cX10_isPerson 2 (some .boolean), Cond.fieldLink RX10 166 "CouponSaleModel" "people" "I", Cond.methodLink RX10 175 yX10_isFund, Cond.instanceMethod yX10_isFund, Cond.selects RX10 yX10_isFund yX10_isFund, Cond.code yX10_isFund cX10_isFund 2 (some .boolean), Cond.fieldLink RX10 169 "CouponSaleModel" "funds" "I", Cond.methodLink RX10 185 yX10_isWork, Cond.instanceMethod yX10_isWork, Cond.selects RX10 yX10_isWork yX10_isWork, Cond.code yX10_isWork cX10_isWork 2 (some .boolean), Cond.fieldLink RX10 163 "CouponSaleModel" "works" "I", Cond.methodLink RX10 215 yX10_isRound, Cond.instanceMethod yX10_isRound, Cond.selects RX10 yX10_isRound yX10_isRound]
def wsX10_holds_r2 : List Cond := [Cond.code yX10_isRound cX10_isRound 2 (some .boolean), Cond.fieldLink RX10 182 "CouponSaleModel" "round" "I", Cond.methodLink RX10 218 yX10_heldAsOf, Cond.instanceMethod yX10_heldAsOf, Cond.selects RX10 yX10_heldAsOf yX10_heldAsOf, Cond.code yX10_heldAsOf cX10_heldAsOf 4 (some .int), Cond.fieldLink RX10 61 "CouponSaleModel" "held" "[I", Cond.fieldLink RX10 64 "CouponSaleModel" "was" "[I"]
def wsX10_holds : List Cond := .code yX10_holds cX10_holds 4 (some .int) :: ((wsX10_holds_r1 ++ wsX10_holds_r2) ++ wsX100)
def wsX10_asks : List Cond := .code yX10_asks cX10_asks 3 (some .int) :: ([.fieldLink RX10 73 "CouponSaleModel" "thrown" "I", .fieldLink RX10 58 "CouponSaleModel" "asked" "[I", .methodLink RX10 191 yX10_isBidder, .instanceMethod yX10_isBidder, .selects RX10 yX10_isBidder yX10_isBidder, .initialized RX10, .code yX10_isBidder cX10_isBidder 2 (some .boolean), .methodLink RX10 172 yX10_isPerson, .instanceMethod yX10_isPerson, .selects RX10 yX10_isPerson yX10_isPerson, .code yX10_isPerson cX10_isPerson 2 (some .boolean), .fieldLink RX10 166 "CouponSaleModel" "people" "I", .methodLink RX10 175 yX10_isFund, .instanceMethod yX10_isFund, .selects RX10 yX10_isFund yX10_isFund, .code yX10_isFund cX10_isFund 2 (some .boolean), .fieldLink RX10 169 "CouponSaleModel" "funds" "I", .methodLink RX10 185 yX10_isWork, .instanceMethod yX10_isWork, .selects RX10 yX10_isWork yX10_isWork, .code yX10_isWork cX10_isWork 2 (some .boolean), .fieldLink RX10 163 "CouponSaleModel" "works" "I"] ++ wsX100)
def wsX10_common : List Cond := .code yX10_common cX10_common 10 (some .long) :: ([])
def wsX10_owned_r1 : List Cond := [Cond.fieldLink RX10 73 "CouponSaleModel" "thrown" "I", Cond.fieldLink RX10 169 "CouponSaleModel" "funds" "I", Cond.fieldLink RX10 55 "CouponSaleModel" "gift" "[I", Cond.fieldLink RX10 52 "CouponSaleModel" "given" "[I", Cond.fieldLink RX10 28 "CouponSaleModel" "shares" "[I", Cond.methodLink RX10 172 yX10_isPerson, Cond.instanceMethod yX10_isPerson, Cond.selects RX10 yX10_isPerson yX10_isPerson, Cond.initialized RX10, Cond.code yX10_isPerson cX10_isPerson 2 (some .boolean), Cond.fieldLink RX10 166 "CouponSaleModel" "people" "I", Cond.methodLink RX10 185 yX10_isWork, Cond.instanceMethod yX10_isWork, Cond.selects RX10 yX10_isWork yX10_isWork, Cond.code yX10_isWork cX10_isWork 2 (some .boolean), Cond.fieldLink RX10 163 "CouponSaleModel" "works" "I", Cond.methodLink RX10 215 yX10_isRound, Cond.instanceMethod yX10_isRound, Cond.selects RX10 yX10_isRound yX10_isRound, Cond.code yX10_isRound cX10_isRound 2 (some .boolean), Cond.fieldLink RX10 182 "CouponSaleModel" "round" "I", Cond.methodLink RX10 209 yX10_refuse, Cond.instanceMethod yX10_refuse, Cond.selects RX10 yX10_refuse yX10_refuse]
def wsX10_owned_r2 : List Cond := [Cond.code yX10_refuse cX10_refuse 1 (some .int), Cond.methodLink RX10 218 yX10_heldAsOf, Cond.instanceMethod yX10_heldAsOf, Cond.selects RX10 yX10_heldAsOf yX10_heldAsOf, Cond.code yX10_heldAsOf cX10_heldAsOf 4 (some .int), Cond.fieldLink RX10 61 "CouponSaleModel" "held" "[I", Cond.fieldLink RX10 64 "CouponSaleModel" "was" "[I", Cond.methodLink RX10 222 yX10_common, Cond.static yX10_common, Cond.code yX10_common cX10_common 10 (some .long)]
def wsX10_owned : List Cond := .code yX10_owned cX10_owned 18 (some .long) :: ((wsX10_owned_r1 ++ wsX10_owned_r2) ++ wsX100)
def wsX10_count : List Cond := .code yX10_count cX10_count 2 (some .int) :: ([.fieldLink RX10 73 "CouponSaleModel" "thrown" "I", .fieldLink RX10 182 "CouponSaleModel" "round" "I", .fieldLink RX10 163 "CouponSaleModel" "works" "I", .fieldLink RX10 166 "CouponSaleModel" "people" "I", .fieldLink RX10 169 "CouponSaleModel" "funds" "I", .fieldLink RX10 204 "CouponSaleModel" "soldAll" "I", .fieldLink RX10 77 "CouponSaleModel" "taped" "I"] ++ wsX100)
def wsJ9_max_7cf53 : List Cond := .code yJ9_max_7cf53 cJ9_max_7cf53 2 (some .int) :: ([])
def wsJ9_min_7cf53 : List Cond := .code yJ9_min_7cf53 cJ9_min_7cf53 2 (some .int) :: ([])
def wsL_purse_r1 : List Cond := [Cond.classLink RL 13 "java/util/NoSuchElementException", Cond.methodLink RL 7 yX9_purse, Cond.instanceMethod yX9_purse, Cond.selects RX9 yX9_purse yX9_purse, Cond.initialized RX9, Cond.code yX9_purse cX9_purse 5 (some .int), Cond.classLink RX9 157 "java/util/NoSuchElementException", Cond.initialized "java/util/NoSuchElementException", Cond.fieldLink RX9 132 "CouponSale$Bidder" "points" "I", Cond.methodLink RX9 122 yX9_bidderAt, Cond.instanceMethod yX9_bidderAt, Cond.selects RX9 yX9_bidderAt yX9_bidderAt, Cond.code yX9_bidderAt cX9_bidderAt 3 (some (.object "CouponSale$Bidder")), Cond.methodLink RX9 100 yX9_personAt, Cond.instanceMethod yX9_personAt, Cond.selects RX9 yX9_personAt yX9_personAt, Cond.code yX9_personAt cX9_personAt 2 (some (.object "CouponSale$Person")), Cond.fieldLink RX9 87 "CouponSale" "peopleCount" "I", Cond.fieldLink RX9 31 "CouponSale" "people" "[LCouponSale$Person;", Cond.methodLink RX9 104 yX9_fundAt, Cond.instanceMethod yX9_fundAt, Cond.selects RX9 yX9_fundAt yX9_fundAt, Cond.code yX9_fundAt cX9_fundAt 3 (some (.object "CouponSale$Fund")), Cond.fieldLink RX9 96 "CouponSale" "fundCount" "I"]
def wsL_purse_r2 : List Cond := [Cond.fieldLink RX9 37 "CouponSale" "funds" "[LCouponSale$Fund;", Cond.methodLink RX9 77 yX9_isWithin, Cond.static yX9_isWithin, Cond.code yX9_isWithin cX9_isWithin 3 (some .boolean), Cond.methodLink RX9 111 yX9_costOfBids, Cond.instanceMethod yX9_costOfBids, Cond.selects RX9 yX9_costOfBids yX9_costOfBids, Cond.code yX9_costOfBids cX9_costOfBids 5 (some .int), Cond.fieldLink RX9 74 "CouponSale" "workCount" "I", Cond.methodLink RX9 90 yX9_workAt, Cond.instanceMethod yX9_workAt, Cond.selects RX9 yX9_workAt yX9_workAt, Cond.code yX9_workAt cX9_workAt 2 (some (.object "CouponSale$Work")), Cond.fieldLink RX9 25 "CouponSale" "works" "[LCouponSale$Work;", Cond.methodLink RX9 160 yX9_isKept, Cond.instanceMethod yX9_isKept, Cond.selects RX9 yX9_isKept yX9_isKept, Cond.code yX9_isKept cX9_isKept 5 (some .boolean), Cond.constantLong RX9 187 (100), Cond.fieldLink RX9 115 "CouponSale$Fund" "points" "I", Cond.sameField "CouponSale$Fund" "CouponSale$Bidder" "points" "I", Cond.methodLink RX9 189 yX9_worthHeldBy, Cond.instanceMethod yX9_worthHeldBy, Cond.selects RX9 yX9_worthHeldBy yX9_worthHeldBy]
def wsL_purse_r3 : List Cond := [Cond.code yX9_worthHeldBy cX9_worthHeldBy 5 (some .int), Cond.methodLink RX9 164 yX9_sharesHeldBy, Cond.instanceMethod yX9_sharesHeldBy, Cond.selects RX9 yX9_sharesHeldBy yX9_sharesHeldBy, Cond.code yX9_sharesHeldBy cX9_sharesHeldBy 5 (some .int)]
def wsL_purse : List Cond := .codeWith yL_purse cL_purse 5 (some .int) [(0, 10, 13, 13)] :: ((wsL_purse_r1 ++ (wsL_purse_r2 ++ wsL_purse_r3)) ++ wsX30 ++ wsX40 ++ wsX90 ++ wsX80 ++ (vx_at0 RX9 159 "java/util/NoSuchElementException" ["java/lang/RuntimeException", "java/lang/Exception"]).filter goodWord)
def wsL_owned_r1 : List Cond := [Cond.classLink RL 13 "java/util/NoSuchElementException", Cond.methodLink RL 15 yX9_owned, Cond.instanceMethod yX9_owned, Cond.selects RX9 yX9_owned yX9_owned, Cond.initialized RX9, Cond.code yX9_owned cX9_owned 7 (some .long), Cond.classLink RX9 157 "java/util/NoSuchElementException", Cond.initialized "java/util/NoSuchElementException", Cond.fieldLink RX9 81 "CouponSale" "roundNow" "I", Cond.methodLink RX9 90 yX9_workAt, Cond.instanceMethod yX9_workAt, Cond.selects RX9 yX9_workAt yX9_workAt, Cond.code yX9_workAt cX9_workAt 2 (some (.object "CouponSale$Work")), Cond.fieldLink RX9 74 "CouponSale" "workCount" "I", Cond.fieldLink RX9 25 "CouponSale" "works" "[LCouponSale$Work;", Cond.methodLink RX9 100 yX9_personAt, Cond.instanceMethod yX9_personAt, Cond.selects RX9 yX9_personAt yX9_personAt, Cond.code yX9_personAt cX9_personAt 2 (some (.object "CouponSale$Person")), Cond.fieldLink RX9 87 "CouponSale" "peopleCount" "I", Cond.fieldLink RX9 31 "CouponSale" "people" "[LCouponSale$Person;", Cond.methodLink RX9 77 yX9_isWithin, Cond.static yX9_isWithin, Cond.code yX9_isWithin cX9_isWithin 3 (some .boolean)]
def wsL_owned_r2 : List Cond := [Cond.methodLink RX9 171 yX9_partOwned, Cond.instanceMethod yX9_partOwned, Cond.selects RX9 yX9_partOwned yX9_partOwned, Cond.code yX9_partOwned cX9_partOwned 8 (some (.object "CouponSale$Fraction")), Cond.classLink RX9 176 RX2, Cond.instantiable RX2 2, Cond.initialized RX2, Cond.fieldLink RX9 96 "CouponSale" "fundCount" "I", Cond.methodLink RX9 167 yX8_heldAsOf, Cond.instanceMethod yX8_heldAsOf, Cond.selects RX8 yX8_heldAsOf yX8_heldAsOf, Cond.initialized RX8, Cond.code yX8_heldAsOf cX8_heldAsOf 3 (some .int), Cond.fieldLink RX8 21 "CouponSale$Work" "heldRows" "[I", Cond.methodLink RX9 195 yX2_init, Cond.instanceMethod yX2_init, Cond.code yX2_init cX2_init 3 none, Cond.methodLink RX2 1 objectInit, Cond.instanceMethod objectInit, Cond.code objectInit ⟨#[0xb1]⟩ 1 none, Cond.fieldLink RX2 7 "CouponSale$Fraction" "lower" "J", Cond.fieldLink RX2 13 "CouponSale$Fraction" "upper" "J", Cond.methodLink RX9 104 yX9_fundAt, Cond.instanceMethod yX9_fundAt]
def wsL_owned_r3 : List Cond := [Cond.selects RX9 yX9_fundAt yX9_fundAt, Cond.code yX9_fundAt cX9_fundAt 3 (some (.object "CouponSale$Fund")), Cond.fieldLink RX9 37 "CouponSale" "funds" "[LCouponSale$Fund;", Cond.methodLink RX9 198 yX2_add, Cond.instanceMethod yX2_add, Cond.selects RX2 yX2_add yX2_add, Cond.code yX2_add cX2_add 5 none, Cond.methodLink RX2 16 yX2_shorten, Cond.instanceMethod yX2_shorten, Cond.selects RX2 yX2_shorten yX2_shorten, Cond.code yX2_shorten cX2_shorten 3 none, Cond.methodLink RX2 19 yX2_divisorInCommon, Cond.static yX2_divisorInCommon, Cond.code yX2_divisorInCommon cX2_divisorInCommon 11 (some .long), Cond.methodLink RX9 202 yX2_divideBy, Cond.instanceMethod yX2_divideBy, Cond.selects RX2 yX2_divideBy yX2_divideBy, Cond.code yX2_divideBy cX2_divideBy 3 none]
def wsL_owned : List Cond := .codeWith yL_owned cL_owned 7 (some .int) [(0, 13, 16, 13)] :: ((wsL_owned_r1 ++ (wsL_owned_r2 ++ wsL_owned_r3)) ++ wsX90 ++ wsX20 ++ wsX30 ++ wsX80 ++ (vx_at0 RX9 159 "java/util/NoSuchElementException" ["java/lang/RuntimeException", "java/lang/Exception"]).filter goodWord)
def wsL_law0_r1 : List Cond := [Cond.classLink RL 8 RX9, Cond.instantiable RX9 11, Cond.initialized RX9, Cond.classLink RL 20 RX10, Cond.instantiable RX10 37, Cond.initialized RX10, Cond.arrayClass .long, Cond.methodLink RL 19 yX9_init, Cond.instanceMethod yX9_init, Cond.code yX9_init cX9_init 1 none, Cond.methodLink RX9 3 objectInit, Cond.instanceMethod objectInit, Cond.code objectInit ⟨#[0xb1]⟩ 1 none, Cond.classLink RX9 9 RX7, Cond.instantiable RX7 2, Cond.initialized RX7, Cond.fieldLink RX9 12 "CouponSale" "tape" "LCouponSale$Tape;", Cond.classLink RX9 16 RX6, Cond.instantiable RX6 7, Cond.initialized RX6, Cond.fieldLink RX9 19 "CouponSale" "ruleText" "LCouponSale$RuleText;", Cond.classLink RX9 23 RX8, Cond.fieldLink RX9 25 "CouponSale" "works" "[LCouponSale$Work;", Cond.classLink RX9 29 RX4]
def wsL_law0_r2 : List Cond := [Cond.fieldLink RX9 31 "CouponSale" "people" "[LCouponSale$Person;", Cond.classLink RX9 35 RX3, Cond.fieldLink RX9 37 "CouponSale" "funds" "[LCouponSale$Fund;", Cond.classLink RX9 41 RX0, Cond.instantiable RX0 3, Cond.initialized RX0, Cond.fieldLink RX9 44 "CouponSale" "allotment" "LCouponSale$Allotment;", Cond.instanceMethod yX7_init, Cond.code yX7_init cX7_init 1 none, Cond.methodLink RX7 3 objectInit, Cond.arrayClass .byte, Cond.fieldLink RX7 11 "CouponSale$Tape" "bytes" "[B", Cond.methodLink RX9 18 yX6_init, Cond.instanceMethod yX6_init, Cond.code yX6_init cX6_init 5 none, Cond.methodLink RX6 3 objectInit, Cond.arrayClass .int, Cond.fieldLink RX6 15 "CouponSale$RuleText" "values" "[I", Cond.fieldLink RX6 21 "CouponSale$RuleText" "told" "[I", Cond.instanceMethod yX0_init, Cond.code yX0_init cX0_init 1 none, Cond.methodLink RX0 3 objectInit, Cond.fieldLink RX0 9 "CouponSale$Allotment" "wanted" "[I", Cond.fieldLink RX0 15 "CouponSale$Allotment" "won" "[I"]
def wsL_law0_r3 : List Cond := [Cond.fieldLink RX0 18 "CouponSale$Allotment" "rests" "[I", Cond.methodLink RL 22 yX10_init, Cond.instanceMethod yX10_init, Cond.code yX10_init cX10_init 1 none, Cond.methodLink RX10 1 objectInit, Cond.fieldLink RX10 7 "CouponSaleModel" "tape" "[I", Cond.fieldLink RX10 13 "CouponSaleModel" "rule" "[I", Cond.fieldLink RX10 16 "CouponSaleModel" "usual" "[I", Cond.fieldLink RX10 19 "CouponSaleModel" "low" "[I", Cond.fieldLink RX10 22 "CouponSaleModel" "high" "[I", Cond.fieldLink RX10 25 "CouponSaleModel" "fresh" "[I", Cond.fieldLink RX10 28 "CouponSaleModel" "shares" "[I", Cond.fieldLink RX10 31 "CouponSaleModel" "left" "[I", Cond.fieldLink RX10 34 "CouponSaleModel" "price" "[I", Cond.fieldLink RX10 37 "CouponSaleModel" "prices" "[I", Cond.fieldLink RX10 40 "CouponSaleModel" "since" "[I", Cond.fieldLink RX10 43 "CouponSaleModel" "points" "[I", Cond.fieldLink RX10 46 "CouponSaleModel" "worker" "[I", Cond.fieldLink RX10 49 "CouponSaleModel" "promise" "[I", Cond.fieldLink RX10 52 "CouponSaleModel" "given" "[I", Cond.fieldLink RX10 55 "CouponSaleModel" "gift" "[I", Cond.fieldLink RX10 58 "CouponSaleModel" "asked" "[I", Cond.fieldLink RX10 61 "CouponSaleModel" "held" "[I", Cond.fieldLink RX10 64 "CouponSaleModel" "was" "[I"]
def wsL_law0_r4 : List Cond := [Cond.fieldLink RX10 67 "CouponSaleModel" "wants" "[I", Cond.fieldLink RX10 70 "CouponSaleModel" "gets" "[I", Cond.methodLink RL 23 yX9_feed, Cond.instanceMethod yX9_feed, Cond.selects RX9 yX9_feed yX9_feed, Cond.code yX9_feed cX9_feed 6 (some .int), Cond.methodLink RX9 48 yX7_hasRoomFor, Cond.instanceMethod yX7_hasRoomFor, Cond.selects RX7 yX7_hasRoomFor yX7_hasRoomFor, Cond.code yX7_hasRoomFor cX7_hasRoomFor 2 (some .boolean), Cond.fieldLink RX7 15 "CouponSale$Tape" "length" "I", Cond.methodLink RX9 52 yX7_append, Cond.instanceMethod yX7_append, Cond.selects RX7 yX7_append yX7_append, Cond.code yX7_append cX7_append 3 none, Cond.methodLink RL 27 yX10_feed, Cond.instanceMethod yX10_feed, Cond.selects RX10 yX10_feed yX10_feed, Cond.code yX10_feed cX10_feed 6 (some .int), Cond.fieldLink RX10 73 "CouponSaleModel" "thrown" "I", Cond.fieldLink RX10 77 "CouponSaleModel" "taped" "I", Cond.methodLink RX10 80 yX10_come, Cond.instanceMethod yX10_come, Cond.selects RX10 yX10_come yX10_come]
def wsL_law0_r5 : List Cond := [Cond.code yX10_come cX10_come 3 none, Cond.methodLink RL 28 yX9_end, Cond.instanceMethod yX9_end, Cond.selects RX9 yX9_end yX9_end, Cond.code yX9_end cX9_end 2 (some .boolean), Cond.methodLink RX9 60 yX7_shortenTo, Cond.instanceMethod yX7_shortenTo, Cond.selects RX7 yX7_shortenTo yX7_shortenTo, Cond.code yX7_shortenTo cX7_shortenTo 2 (some .boolean), Cond.static yX9_isWithin, Cond.code yX9_isWithin cX9_isWithin 3 (some .boolean), Cond.methodLink RL 32 yX10_end, Cond.instanceMethod yX10_end, Cond.selects RX10 yX10_end yX10_end, Cond.code yX10_end cX10_end 2 (some .boolean), Cond.methodLink RL 33 yX9_rules, Cond.instanceMethod yX9_rules, Cond.selects RX9 yX9_rules yX9_rules, Cond.code yX9_rules cX9_rules 2 (some .int), Cond.methodLink RX9 63 yX6_read, Cond.instanceMethod yX6_read, Cond.selects RX6 yX6_read yX6_read, Cond.code yX6_read cX6_read 4 (some .int), Cond.methodLink RX6 39 Lib.Math.min.name]
def wsL_law0_r6 : List Cond := [Cond.static Lib.Math.min.name, Cond.initialized "java/lang/Math", Cond.code Lib.Math.min.name Lib.Math.min.code 2 (some .int), Cond.fieldLink RX6 45 "CouponSale$RuleText" "faultKind" "I", Cond.methodLink RX6 64 Lib.Math.max.name, Cond.static Lib.Math.max.name, Cond.code Lib.Math.max.name Lib.Math.max.code 2 (some .int), Cond.fieldLink RX6 67 "CouponSale$RuleText" "awaited" "I", Cond.fieldLink RX6 74 "CouponSale$RuleText" "faultPlace" "I", Cond.fieldLink RX6 80 "CouponSale$RuleText" "toldCount" "I", Cond.methodLink RX6 31 yX6_begin, Cond.instanceMethod yX6_begin, Cond.selects RX6 yX6_begin yX6_begin, Cond.code yX6_begin cX6_begin 2 none, Cond.fieldLink RX6 83 "CouponSale$RuleText" "open" "LCouponSale$Rule;", Cond.methodLink RX6 48 yX7_at, Cond.instanceMethod yX7_at, Cond.selects RX7 yX7_at yX7_at, Cond.code yX7_at cX7_at 2 (some .int), Cond.methodLink RX6 52 yX6_isBlank, Cond.static yX6_isBlank, Cond.code yX6_isBlank cX6_isBlank 1 (some .boolean), Cond.methodLink RX6 56 yX6_tokenEnd, Cond.static yX6_tokenEnd]
def wsL_law0_r7 : List Cond := [Cond.code yX6_tokenEnd cX6_tokenEnd 3 (some .int), Cond.methodLink RX6 111 yX6_isOfWordOrNumber, Cond.static yX6_isOfWordOrNumber, Cond.code yX6_isOfWordOrNumber cX6_isOfWordOrNumber 1 (some .boolean), Cond.methodLink RX6 114 yX6_isLetter, Cond.static yX6_isLetter, Cond.code yX6_isLetter cX6_isLetter 1 (some .boolean), Cond.methodLink RX6 117 yX6_isDigit, Cond.static yX6_isDigit, Cond.code yX6_isDigit cX6_isDigit 1 (some .boolean), Cond.methodLink RX6 60 yX6_takeToken, Cond.instanceMethod yX6_takeToken, Cond.selects RX6 yX6_takeToken yX6_takeToken, Cond.code yX6_takeToken cX6_takeToken 5 none, Cond.methodLink RX6 87 yX6_tokenKind, Cond.static yX6_tokenKind, Cond.code yX6_tokenKind cX6_tokenKind 6 (some .int), Cond.methodLink RX6 70 yX6_setFault, Cond.instanceMethod yX6_setFault, Cond.selects RX6 yX6_setFault yX6_setFault, Cond.code yX6_setFault cX6_setFault 3 none, Cond.methodLink RX6 91 yX6_takeWord, Cond.instanceMethod yX6_takeWord, Cond.selects RX6 yX6_takeWord yX6_takeWord]
def wsL_law0_r8 : List Cond := [Cond.code yX6_takeWord cX6_takeWord 4 none, Cond.methodLink RX6 97 yX6_ruleOf, Cond.static yX6_ruleOf, Cond.code yX6_ruleOf cX6_ruleOf 7 (some (.object "CouponSale$Rule")), Cond.methodLink RX6 124 yX6_spells, Cond.static yX6_spells, Cond.code yX6_spells cX6_spells 5 (some .boolean), Cond.methodLink RX6 128 yJ0_length_8abf5, Cond.instanceMethod yJ0_length_8abf5, Cond.selects RJ0 yJ0_length_8abf5 yJ0_length_8abf5, Cond.initialized RJ0, Cond.code yJ0_length_8abf5 cJ0_length_8abf5 1 (some .int), Cond.fieldLink RJ0 9 "java/lang/String" "value" "[B", Cond.methodLink RJ0 335 yJ0_coder_7d493, Cond.instanceMethod yJ0_coder_7d493, Cond.selects RJ0 yJ0_coder_7d493 yJ0_coder_7d493, Cond.code yJ0_coder_7d493 cJ0_coder_7d493 1 (some .byte), Cond.fieldLink RJ0 38 "java/lang/String" "COMPACT_STRINGS" "Z", Cond.fieldLink RJ0 15 "java/lang/String" "coder" "B", Cond.methodLink RX6 133 yJ0_charAt_5068e, Cond.instanceMethod yJ0_charAt_5068e, Cond.selects RJ0 yJ0_charAt_5068e yJ0_charAt_5068e, Cond.code yJ0_charAt_5068e cJ0_charAt_5068e 2 (some .char), Cond.methodLink RJ0 492 yJ0_isLatin1_aae02]
def wsL_law0_r9 : List Cond := [Cond.instanceMethod yJ0_isLatin1_aae02, Cond.selects RJ0 yJ0_isLatin1_aae02 yJ0_isLatin1_aae02, Cond.code yJ0_isLatin1_aae02 cJ0_isLatin1_aae02 1 (some .boolean), Cond.methodLink RJ0 495 yJ1_charAt_3b067, Cond.static yJ1_charAt_3b067, Cond.initialized RJ1, Cond.code yJ1_charAt_3b067 cJ1_charAt_3b067 2 (some .char), Cond.methodLink RJ1 9 yJ0_checkIndex_df160, Cond.static yJ0_checkIndex_df160, Cond.code yJ0_checkIndex_df160 cJ0_checkIndex_df160 2 none, Cond.fieldLink RJ0 1053 "jdk/internal/util/Preconditions" "SIOOBE_FORMATTER" "Ljava/util/function/BiFunction;", Cond.methodLink RJ0 1059 yJ3_checkIndex_8e157, Cond.static yJ3_checkIndex_8e157, Cond.initialized RJ3, Cond.code yJ3_checkIndex_8e157 cJ3_checkIndex_8e157 3 (some .int), Cond.methodLink RJ0 498 yJ2_charAt_3b067, Cond.static yJ2_charAt_3b067, Cond.initialized RJ2, Cond.code yJ2_charAt_3b067 cJ2_charAt_3b067 2 (some .char), Cond.methodLink RJ2 67 yJ2_checkIndex_2214a, Cond.static yJ2_checkIndex_2214a, Cond.code yJ2_checkIndex_2214a cJ2_checkIndex_2214a 2 none, Cond.methodLink RJ2 48 yJ2_length_9d52b, Cond.static yJ2_length_9d52b]
def wsL_law0_r10 : List Cond := [Cond.code yJ2_length_9d52b cJ2_length_9d52b 1 (some .int), Cond.methodLink RJ2 414 yJ0_checkIndex_df160, Cond.methodLink RJ2 71 yJ2_getChar_3b067, Cond.static yJ2_getChar_3b067, Cond.code yJ2_getChar_3b067 cJ2_getChar_3b067 2 (some .char), Cond.fieldLink RJ2 44 "java/lang/StringUTF16" "$assertionsDisabled" "Z", Cond.fieldLink RJ2 59 "java/lang/StringUTF16" "HI_BYTE_SHIFT" "I", Cond.fieldLink RJ2 63 "java/lang/StringUTF16" "LO_BYTE_SHIFT" "I", Cond.methodLink RX6 94 yX6_takeNumber, Cond.instanceMethod yX6_takeNumber, Cond.selects RX6 yX6_takeNumber yX6_takeNumber, Cond.code yX6_takeNumber cX6_takeNumber 6 none, Cond.methodLink RX6 77 yX6_putInForce, Cond.instanceMethod yX6_putInForce, Cond.selects RX6 yX6_putInForce yX6_putInForce, Cond.code yX6_putInForce cX6_putInForce 5 none, Cond.methodLink RL 37 yX10_rules, Cond.instanceMethod yX10_rules, Cond.selects RX10 yX10_rules yX10_rules, Cond.code yX10_rules cX10_rules 3 (some .int), Cond.fieldLink RX10 84 "CouponSaleModel" "size" "I", Cond.fieldLink RX10 140 "CouponSaleModel" "fault" "I", Cond.fieldLink RX10 153 "CouponSaleModel" "told" "I", Cond.fieldLink RX10 87 "CouponSaleModel" "to" "I"]
def wsL_law0_r11 : List Cond := [Cond.fieldLink RX10 93 "CouponSaleModel" "kind" "I", Cond.fieldLink RX10 143 "CouponSaleModel" "place" "I", Cond.methodLink RX10 156 yX10_go, Cond.instanceMethod yX10_go, Cond.selects RX10 yX10_go yX10_go, Cond.code yX10_go cX10_go 5 none, Cond.fieldLink RX10 90 "CouponSaleModel" "from" "I", Cond.fieldLink RX10 103 "CouponSaleModel" "word" "J", Cond.fieldLink RX10 107 "CouponSaleModel" "number" "I", Cond.constantLong RX10 114 (27), Cond.constantLong RX10 116 (96), Cond.constantLong RX10 118 (-1), Cond.methodLink RX10 96 yX10_isLetter, Cond.static yX10_isLetter, Cond.code yX10_isLetter cX10_isLetter 1 (some .boolean), Cond.methodLink RX10 100 yX10_isDigit, Cond.static yX10_isDigit, Cond.code yX10_isDigit cX10_isDigit 1 (some .boolean), Cond.methodLink RX10 110 yX10_byteAt, Cond.instanceMethod yX10_byteAt, Cond.selects RX10 yX10_byteAt yX10_byteAt, Cond.code yX10_byteAt cX10_byteAt 2 (some .int), Cond.methodLink RX10 159 yX10_readRule, Cond.instanceMethod yX10_readRule]
def wsL_law0_r12 : List Cond := [Cond.selects RX10 yX10_readRule yX10_readRule, Cond.code yX10_readRule cX10_readRule 2 (some .boolean), Cond.methodLink RX10 146 yX10_ruleAtHand, Cond.instanceMethod yX10_ruleAtHand, Cond.selects RX10 yX10_ruleAtHand yX10_ruleAtHand, Cond.code yX10_ruleAtHand cX10_ruleAtHand 1 (some .int), Cond.constantLong RX10 120 (19683), Cond.constantLong RX10 126 (19), Cond.constantLong RX10 132 (6), Cond.constantLong RX10 134 (5), Cond.constantLong RX10 136 (12), Cond.constantLong RX10 138 (20), Cond.methodLink RX10 122 yX10_spelt, Cond.static yX10_spelt, Cond.code yX10_spelt cX10_spelt 3 (some .long), Cond.methodLink RX10 128 yX10_isKey, Cond.instanceMethod yX10_isKey, Cond.selects RX10 yX10_isKey yX10_isKey, Cond.code yX10_isKey cX10_isKey 3 (some .boolean), Cond.methodLink RX10 150 yX10_bad, Cond.instanceMethod yX10_bad, Cond.selects RX10 yX10_bad yX10_bad, Cond.code yX10_bad cX10_bad 2 (some .boolean), Cond.methodLink RL 38 yX9_fault]
def wsL_law0_r13 : List Cond := [Cond.instanceMethod yX9_fault, Cond.selects RX9 yX9_fault yX9_fault, Cond.code yX9_fault cX9_fault 1 (some .int), Cond.methodLink RL 41 yX10_fault, Cond.instanceMethod yX10_fault, Cond.selects RX10 yX10_fault yX10_fault, Cond.code yX10_fault cX10_fault 1 (some .int), Cond.methodLink RL 42 yX9_rule, Cond.instanceMethod yX9_rule, Cond.selects RX9 yX9_rule yX9_rule, Cond.code yX9_rule cX9_rule 2 (some .int), Cond.methodLink RL 46 yX10_rule, Cond.instanceMethod yX10_rule, Cond.selects RX10 yX10_rule yX10_rule, Cond.code yX10_rule cX10_rule 2 (some .int), Cond.methodLink RL 47 yX9_work, Cond.instanceMethod yX9_work, Cond.selects RX9 yX9_work yX9_work, Cond.code yX9_work cX9_work 3 (some .int), Cond.fieldLink RX9 74 "CouponSale" "workCount" "I", Cond.instantiable RX8 8, Cond.initialized RX8, Cond.fieldLink RX9 81 "CouponSale" "roundNow" "I", Cond.methodLink RX9 77 yX9_isWithin]
def wsL_law0_r14 : List Cond := [Cond.methodLink RX9 84 yX8_init, Cond.instanceMethod yX8_init, Cond.code yX8_init cX8_init 4 none, Cond.methodLink RX8 3 objectInit, Cond.fieldLink RX8 9 "CouponSale$Work" "asked" "[I", Cond.fieldLink RX8 15 "CouponSale$Work" "held" "[I", Cond.fieldLink RX8 18 "CouponSale$Work" "priceIn" "[I", Cond.fieldLink RX8 21 "CouponSale$Work" "heldRows" "[I", Cond.fieldLink RX8 24 "CouponSale$Work" "shares" "I", Cond.fieldLink RX8 28 "CouponSale$Work" "left" "I", Cond.fieldLink RX8 31 "CouponSale$Work" "priceNow" "I", Cond.fieldLink RX8 34 "CouponSale$Work" "madeIn" "I", Cond.methodLink RL 50 yX10_work, Cond.instanceMethod yX10_work, Cond.selects RX10 yX10_work yX10_work, Cond.code yX10_work cX10_work 3 (some .int), Cond.fieldLink RX10 163 "CouponSaleModel" "works" "I", Cond.fieldLink RX10 182 "CouponSaleModel" "round" "I", Cond.methodLink RX10 178 yX10_isIn, Cond.static yX10_isIn, Cond.code yX10_isIn cX10_isIn 3 (some .boolean), Cond.methodLink RL 51 yX9_person, Cond.instanceMethod yX9_person, Cond.selects RX9 yX9_person yX9_person]
def wsL_law0_r15 : List Cond := [Cond.code yX9_person cX9_person 2 (some .int), Cond.fieldLink RX9 87 "CouponSale" "peopleCount" "I", Cond.instantiable RX4 2, Cond.initialized RX4, Cond.methodLink RX9 90 yX9_workAt, Cond.instanceMethod yX9_workAt, Cond.selects RX9 yX9_workAt yX9_workAt, Cond.code yX9_workAt cX9_workAt 2 (some (.object "CouponSale$Work")), Cond.methodLink RX9 94 yX4_init, Cond.instanceMethod yX4_init, Cond.code yX4_init cX4_init 2 none, Cond.fieldLink RX4 9 "CouponSale$Person" "workerOf" "I", Cond.fieldLink RX4 15 "CouponSale$Person" "points" "I", Cond.sameField "CouponSale$Person" "CouponSale$Bidder" "points" "I", Cond.instanceMethod yX1_init, Cond.initialized RX1, Cond.code yX1_init cX1_init 1 none, Cond.methodLink RX1 1 objectInit, Cond.methodLink RL 54 yX10_person, Cond.instanceMethod yX10_person, Cond.selects RX10 yX10_person yX10_person, Cond.code yX10_person cX10_person 2 (some .int), Cond.fieldLink RX10 166 "CouponSaleModel" "people" "I", Cond.methodLink RX10 185 yX10_isWork]
def wsL_law0_r16 : List Cond := [Cond.instanceMethod yX10_isWork, Cond.selects RX10 yX10_isWork yX10_isWork, Cond.code yX10_isWork cX10_isWork 2 (some .boolean), Cond.methodLink RL 55 yX9_fund, Cond.instanceMethod yX9_fund, Cond.selects RX9 yX9_fund yX9_fund, Cond.code yX9_fund cX9_fund 2 (some .int), Cond.fieldLink RX9 96 "CouponSale" "fundCount" "I", Cond.instantiable RX3 4, Cond.initialized RX3, Cond.methodLink RX9 99 yX3_init, Cond.instanceMethod yX3_init, Cond.code yX3_init cX3_init 2 none, Cond.fieldLink RX3 9 "CouponSale$Fund" "givenBy" "[I", Cond.fieldLink RX3 15 "CouponSale$Fund" "promised" "I", Cond.methodLink RL 58 yX10_fund, Cond.instanceMethod yX10_fund, Cond.selects RX10 yX10_fund yX10_fund, Cond.code yX10_fund cX10_fund 2 (some .int), Cond.fieldLink RX10 169 "CouponSaleModel" "funds" "I", Cond.methodLink RL 59 yX9_give, Cond.instanceMethod yX9_give, Cond.selects RX9 yX9_give yX9_give, Cond.code yX9_give cX9_give 6 (some .int)]
def wsL_law0_r17 : List Cond := [Cond.fieldLink RX9 108 "CouponSale$Person" "points" "I", Cond.fieldLink RX9 115 "CouponSale$Fund" "points" "I", Cond.sameField "CouponSale$Fund" "CouponSale$Bidder" "points" "I", Cond.methodLink RX9 100 yX9_personAt, Cond.instanceMethod yX9_personAt, Cond.selects RX9 yX9_personAt yX9_personAt, Cond.code yX9_personAt cX9_personAt 2 (some (.object "CouponSale$Person")), Cond.methodLink RX9 104 yX9_fundAt, Cond.instanceMethod yX9_fundAt, Cond.selects RX9 yX9_fundAt yX9_fundAt, Cond.code yX9_fundAt cX9_fundAt 3 (some (.object "CouponSale$Fund")), Cond.methodLink RX9 111 yX9_costOfBids, Cond.instanceMethod yX9_costOfBids, Cond.selects RX9 yX9_costOfBids yX9_costOfBids, Cond.code yX9_costOfBids cX9_costOfBids 5 (some .int), Cond.methodLink RL 63 yX10_give, Cond.instanceMethod yX10_give, Cond.selects RX10 yX10_give yX10_give, Cond.code yX10_give cX10_give 5 (some .int), Cond.methodLink RX10 172 yX10_isPerson, Cond.instanceMethod yX10_isPerson, Cond.selects RX10 yX10_isPerson yX10_isPerson, Cond.code yX10_isPerson cX10_isPerson 2 (some .boolean), Cond.methodLink RX10 175 yX10_isFund]
def wsL_law0_r18 : List Cond := [Cond.instanceMethod yX10_isFund, Cond.selects RX10 yX10_isFund yX10_isFund, Cond.code yX10_isFund cX10_isFund 2 (some .boolean), Cond.methodLink RX10 188 yX10_costs, Cond.instanceMethod yX10_costs, Cond.selects RX10 yX10_costs yX10_costs, Cond.code yX10_costs cX10_costs 4 (some .int), Cond.methodLink RL 64 yX9_bid, Cond.instanceMethod yX9_bid, Cond.selects RX9 yX9_bid yX9_bid, Cond.code yX9_bid cX9_bid 7 (some .int), Cond.fieldLink RX9 132 "CouponSale$Bidder" "points" "I", Cond.methodLink RX9 122 yX9_bidderAt, Cond.instanceMethod yX9_bidderAt, Cond.selects RX9 yX9_bidderAt yX9_bidderAt, Cond.code yX9_bidderAt cX9_bidderAt 3 (some (.object "CouponSale$Bidder")), Cond.methodLink RL 67 yX10_bid, Cond.instanceMethod yX10_bid, Cond.selects RX10 yX10_bid yX10_bid, Cond.code yX10_bid cX10_bid 5 (some .int), Cond.methodLink RX10 191 yX10_isBidder, Cond.instanceMethod yX10_isBidder, Cond.selects RX10 yX10_isBidder yX10_isBidder, Cond.code yX10_isBidder cX10_isBidder 2 (some .boolean)]
def wsL_law0_r19 : List Cond := [Cond.methodLink RL 68 yX9_close, Cond.instanceMethod yX9_close, Cond.selects RX9 yX9_close yX9_close, Cond.code yX9_close cX9_close 3 (some .int), Cond.fieldLink RX9 138 "CouponSale" "soldInAll" "I", Cond.methodLink RX9 135 yX9_endRoundOf, Cond.instanceMethod yX9_endRoundOf, Cond.selects RX9 yX9_endRoundOf yX9_endRoundOf, Cond.code yX9_endRoundOf cX9_endRoundOf 4 (some .int), Cond.methodLink RX9 205 yX9_sellToWorkers, Cond.instanceMethod yX9_sellToWorkers, Cond.selects RX9 yX9_sellToWorkers yX9_sellToWorkers, Cond.code yX9_sellToWorkers cX9_sellToWorkers 5 none, Cond.fieldLink RX9 222 "CouponSale$Rule" "WORKERS" "LCouponSale$Rule;", Cond.methodLink RX9 232 Lib.Math.min.name, Cond.fieldLink RX9 240 "CouponSale$Rule" "HALF" "LCouponSale$Rule;", Cond.methodLink RX9 228 yX6_valueOf, Cond.instanceMethod yX6_valueOf, Cond.selects RX6 yX6_valueOf yX6_valueOf, Cond.code yX6_valueOf cX6_valueOf 2 (some .int), Cond.methodLink RX9 237 yX0_cutBackTo, Cond.instanceMethod yX0_cutBackTo, Cond.selects RX0 yX0_cutBackTo yX0_cutBackTo, Cond.code yX0_cutBackTo cX0_cutBackTo 7 none]
def wsL_law0_r20 : List Cond := [Cond.methodLink RX0 25 Lib.Math.min.name, Cond.static yX9_sumOf, Cond.code yX9_sumOf cX9_sumOf 6 (some .int), Cond.methodLink RX0 31 yX0_giveOneToGreatestRest, Cond.instanceMethod yX0_giveOneToGreatestRest, Cond.selects RX0 yX0_giveOneToGreatestRest yX0_giveOneToGreatestRest, Cond.code yX0_giveOneToGreatestRest cX0_giveOneToGreatestRest 3 none, Cond.methodLink RX9 243 yX9_dividedUp, Cond.static yX9_dividedUp, Cond.code yX9_dividedUp cX9_dividedUp 2 (some .int), Cond.methodLink RX9 246 yX9_handOver, Cond.instanceMethod yX9_handOver, Cond.selects RX9 yX9_handOver yX9_handOver, Cond.code yX9_handOver cX9_handOver 6 none, Cond.methodLink RX9 209 yX9_sellToAll, Cond.instanceMethod yX9_sellToAll, Cond.selects RX9 yX9_sellToAll yX9_sellToAll, Cond.code yX9_sellToAll cX9_sellToAll 5 none, Cond.methodLink RX9 249 arraycopyName, Cond.native arraycopyName, Cond.static arraycopyName, Cond.initialized "java/lang/System", Cond.fieldLink RX9 255 "CouponSale$Rule" "CUT" "LCouponSale$Rule;", Cond.methodLink RX9 147 yX9_sumOf]
def wsL_law0_r21 : List Cond := [Cond.methodLink RX9 258 yX9_movedPrice, Cond.instanceMethod yX9_movedPrice, Cond.selects RX9 yX9_movedPrice yX9_movedPrice, Cond.code yX9_movedPrice cX9_movedPrice 5 (some .int), Cond.fieldLink RX9 265 "CouponSale$Rule" "RISE" "LCouponSale$Rule;", Cond.fieldLink RX9 268 "CouponSale$Rule" "FALL" "LCouponSale$Rule;", Cond.methodLink RX9 271 Lib.Math.max.name, Cond.fieldLink RX9 274 "CouponSale$Rule" "LEAST" "LCouponSale$Rule;", Cond.methodLink RX9 213 yX8_keepFor, Cond.instanceMethod yX8_keepFor, Cond.selects RX8 yX8_keepFor yX8_keepFor, Cond.code yX8_keepFor cX8_keepFor 3 none, Cond.methodLink RL 71 yX10_close, Cond.instanceMethod yX10_close, Cond.selects RX10 yX10_close yX10_close, Cond.code yX10_close cX10_close 3 (some .int), Cond.fieldLink RX10 204 "CouponSaleModel" "soldAll" "I", Cond.methodLink RX10 201 yX10_sellsWork, Cond.instanceMethod yX10_sellsWork, Cond.selects RX10 yX10_sellsWork yX10_sellsWork, Cond.code yX10_sellsWork cX10_sellsWork 9 (some .int), Cond.methodLink RX10 194 yX10_part, Cond.instanceMethod yX10_part, Cond.selects RX10 yX10_part yX10_part]
def wsL_law0_r22 : List Cond := [Cond.code yX10_part cX10_part 6 (some .int), Cond.methodLink RX10 197 yX10_sells, Cond.instanceMethod yX10_sells, Cond.selects RX10 yX10_sells yX10_sells, Cond.code yX10_sells cX10_sells 5 (some .int), Cond.methodLink RL 72 yX9_about, Cond.instanceMethod yX9_about, Cond.selects RX9 yX9_about yX9_about, Cond.code yX9_about cX9_about 4 (some .int), Cond.methodLink RL 75 yX10_about, Cond.instanceMethod yX10_about, Cond.selects RX10 yX10_about yX10_about, Cond.code yX10_about cX10_about 5 (some .int), Cond.methodLink RL 76 yX9_price, Cond.instanceMethod yX9_price, Cond.selects RX9 yX9_price yX9_price, Cond.code yX9_price cX9_price 4 (some .int), Cond.methodLink RL 79 yX10_price, Cond.instanceMethod yX10_price, Cond.selects RX10 yX10_price yX10_price, Cond.code yX10_price cX10_price 3 (some .int), Cond.methodLink RL 80 yL_purse, Cond.static yL_purse, Cond.initialized RL]
def wsL_law0_r23 : List Cond := [Cond.codeWith yL_purse cL_purse 5 (some .int) [(0, 10, 13, 13)], Cond.classLink RL 13 "java/util/NoSuchElementException", Cond.methodLink RL 7 yX9_purse, Cond.instanceMethod yX9_purse, Cond.selects RX9 yX9_purse yX9_purse, Cond.code yX9_purse cX9_purse 5 (some .int), Cond.classLink RX9 157 "java/util/NoSuchElementException", Cond.initialized "java/util/NoSuchElementException", Cond.methodLink RX9 160 yX9_isKept, Cond.instanceMethod yX9_isKept, Cond.selects RX9 yX9_isKept yX9_isKept, Cond.code yX9_isKept cX9_isKept 5 (some .boolean), Cond.constantLong RX9 187 (100), Cond.methodLink RX9 189 yX9_worthHeldBy, Cond.instanceMethod yX9_worthHeldBy, Cond.selects RX9 yX9_worthHeldBy yX9_worthHeldBy, Cond.code yX9_worthHeldBy cX9_worthHeldBy 5 (some .int), Cond.methodLink RX9 164 yX9_sharesHeldBy, Cond.instanceMethod yX9_sharesHeldBy, Cond.selects RX9 yX9_sharesHeldBy yX9_sharesHeldBy, Cond.code yX9_sharesHeldBy cX9_sharesHeldBy 5 (some .int), Cond.methodLink RL 85 yX10_purse, Cond.instanceMethod yX10_purse, Cond.selects RX10 yX10_purse yX10_purse]
def wsL_law0_r24 : List Cond := [Cond.code yX10_purse cX10_purse 5 (some .int), Cond.methodLink RX10 209 yX10_refuse, Cond.instanceMethod yX10_refuse, Cond.selects RX10 yX10_refuse yX10_refuse, Cond.code yX10_refuse cX10_refuse 1 (some .int), Cond.methodLink RX10 212 yX10_isKept, Cond.instanceMethod yX10_isKept, Cond.selects RX10 yX10_isKept yX10_isKept, Cond.code yX10_isKept cX10_isKept 5 (some .boolean), Cond.constantLong RX10 207 (100), Cond.methodLink RL 86 yX10_thrown, Cond.instanceMethod yX10_thrown, Cond.selects RX10 yX10_thrown yX10_thrown, Cond.code yX10_thrown cX10_thrown 1 (some .int), Cond.methodLink RL 89 yX9_holds, Cond.instanceMethod yX9_holds, Cond.selects RX9 yX9_holds yX9_holds, Cond.code yX9_holds cX9_holds 5 (some .int), Cond.methodLink RX9 167 yX8_heldAsOf, Cond.instanceMethod yX8_heldAsOf, Cond.selects RX8 yX8_heldAsOf yX8_heldAsOf, Cond.code yX8_heldAsOf cX8_heldAsOf 3 (some .int), Cond.methodLink RL 92 yX10_holds, Cond.instanceMethod yX10_holds]
def wsL_law0_r25 : List Cond := [Cond.selects RX10 yX10_holds yX10_holds, Cond.code yX10_holds cX10_holds 4 (some .int), Cond.methodLink RX10 215 yX10_isRound, Cond.instanceMethod yX10_isRound, Cond.selects RX10 yX10_isRound yX10_isRound, Cond.code yX10_isRound cX10_isRound 2 (some .boolean), Cond.methodLink RX10 218 yX10_heldAsOf, Cond.instanceMethod yX10_heldAsOf, Cond.selects RX10 yX10_heldAsOf yX10_heldAsOf, Cond.code yX10_heldAsOf cX10_heldAsOf 4 (some .int), Cond.methodLink RL 93 yX9_asks, Cond.instanceMethod yX9_asks, Cond.selects RX9 yX9_asks yX9_asks, Cond.code yX9_asks cX9_asks 4 (some .int), Cond.methodLink RL 96 yX10_asks, Cond.instanceMethod yX10_asks, Cond.selects RX10 yX10_asks yX10_asks, Cond.code yX10_asks cX10_asks 3 (some .int), Cond.methodLink RL 97 yL_owned, Cond.static yL_owned, Cond.codeWith yL_owned cL_owned 7 (some .int) [(0, 13, 16, 13)], Cond.methodLink RL 15 yX9_owned, Cond.instanceMethod yX9_owned, Cond.selects RX9 yX9_owned yX9_owned]
def wsL_law0_r26 : List Cond := [Cond.code yX9_owned cX9_owned 7 (some .long), Cond.methodLink RX9 171 yX9_partOwned, Cond.instanceMethod yX9_partOwned, Cond.selects RX9 yX9_partOwned yX9_partOwned, Cond.code yX9_partOwned cX9_partOwned 8 (some (.object "CouponSale$Fraction")), Cond.classLink RX9 176 RX2, Cond.instantiable RX2 2, Cond.initialized RX2, Cond.methodLink RX9 195 yX2_init, Cond.instanceMethod yX2_init, Cond.code yX2_init cX2_init 3 none, Cond.methodLink RX2 1 objectInit, Cond.fieldLink RX2 7 "CouponSale$Fraction" "lower" "J", Cond.fieldLink RX2 13 "CouponSale$Fraction" "upper" "J", Cond.methodLink RX9 198 yX2_add, Cond.instanceMethod yX2_add, Cond.selects RX2 yX2_add yX2_add, Cond.code yX2_add cX2_add 5 none, Cond.methodLink RX2 16 yX2_shorten, Cond.instanceMethod yX2_shorten, Cond.selects RX2 yX2_shorten yX2_shorten, Cond.code yX2_shorten cX2_shorten 3 none, Cond.methodLink RX2 19 yX2_divisorInCommon, Cond.static yX2_divisorInCommon]
def wsL_law0_r27 : List Cond := [Cond.code yX2_divisorInCommon cX2_divisorInCommon 11 (some .long), Cond.methodLink RX9 202 yX2_divideBy, Cond.instanceMethod yX2_divideBy, Cond.selects RX2 yX2_divideBy yX2_divideBy, Cond.code yX2_divideBy cX2_divideBy 3 none, Cond.methodLink RL 100 yX10_owned, Cond.instanceMethod yX10_owned, Cond.selects RX10 yX10_owned yX10_owned, Cond.code yX10_owned cX10_owned 18 (some .long), Cond.methodLink RX10 222 yX10_common, Cond.static yX10_common, Cond.code yX10_common cX10_common 10 (some .long), Cond.methodLink RL 101 yX9_count, Cond.instanceMethod yX9_count, Cond.selects RX9 yX9_count yX9_count, Cond.code yX9_count cX9_count 2 (some .int), Cond.methodLink RL 104 yX10_count, Cond.instanceMethod yX10_count, Cond.selects RX10 yX10_count yX10_count, Cond.code yX10_count cX10_count 2 (some .int)]
def wsL_law0 : List Cond := (wsL_law0_r1 ++ (wsL_law0_r2 ++ (wsL_law0_r3 ++ (wsL_law0_r4 ++ (wsL_law0_r5 ++ (wsL_law0_r6 ++ (wsL_law0_r7 ++ (wsL_law0_r8 ++ (wsL_law0_r9 ++ (wsL_law0_r10 ++ (wsL_law0_r11 ++ (wsL_law0_r12 ++ (wsL_law0_r13 ++ (wsL_law0_r14 ++ (wsL_law0_r15 ++ (wsL_law0_r16 ++ (wsL_law0_r17 ++ (wsL_law0_r18 ++ (wsL_law0_r19 ++ (wsL_law0_r20 ++ (wsL_law0_r21 ++ (wsL_law0_r22 ++ (wsL_law0_r23 ++ (wsL_law0_r24 ++ (wsL_law0_r25 ++ (wsL_law0_r26 ++ wsL_law0_r27)))))))))))))))))))))))))) ++ wsX90 ++ wsX100 ++ wsX70 ++ wsX60 ++ wsX00 ++ wsX80 ++ wsX40 ++ wsX30 ++ wsX20 ++ ([] : List Cond)
def wsL_law : List Cond := wsL_law0 ++ (vx_at0 RX9 159 "java/util/NoSuchElementException" ["java/lang/RuntimeException", "java/lang/Exception"]).filter goodWord
abbrev vwCl : List vw_C := [(RX0, TX0, 3), (RX2, TX2, 2), (RX3, TX3, 4), (RX4, TX4, 2), (RX6, TX6, 7), (RX7, TX7, 2), (RX8, TX8, 8), (RX9, TX9, 11), (RX10, TX10, 37)]
end
section
theorem dX0_init_0 : decode cX0_init 0 = .ok (.aload_n 0, 1) := by decide +kernel
theorem dX0_init_1 : decode cX0_init 1 = .ok (.invokespecial 3, 3) := by decide +kernel
theorem dX0_init_4 : decode cX0_init 4 = .ok (.aload_n 0, 1) := by decide +kernel
theorem dX0_init_5 : decode cX0_init 5 = .ok (.bipush 28, 2) := by decide +kernel
theorem dX0_init_7 : decode cX0_init 7 = .ok (.newarray .int, 2) := by decide +kernel
theorem dX0_init_9 : decode cX0_init 9 = .ok (.putfield 9, 3) := by decide +kernel
theorem dX0_init_12 : decode cX0_init 12 = .ok (.aload_n 0, 1) := by decide +kernel
theorem dX0_init_13 : decode cX0_init 13 = .ok (.bipush 28, 2) := by decide +kernel
theorem dX0_init_15 : decode cX0_init 15 = .ok (.newarray .int, 2) := by decide +kernel
theorem dX0_init_17 : decode cX0_init 17 = .ok (.putfield 15, 3) := by decide +kernel
theorem dX0_init_20 : decode cX0_init 20 = .ok (.aload_n 0, 1) := by decide +kernel
theorem dX0_init_21 : decode cX0_init 21 = .ok (.bipush 28, 2) := by decide +kernel
theorem dX0_init_23 : decode cX0_init 23 = .ok (.newarray .int, 2) := by decide +kernel
theorem dX0_init_25 : decode cX0_init 25 = .ok (.putfield 18, 3) := by decide +kernel
theorem dX0_init_28 : decode cX0_init 28 = .ok (.return_, 1) := by decide +kernel
theorem dX0_cutBackTo_0 : decode cX0_cutBackTo 0 = .ok (.aload_n 0, 1) := by decide +kernel
theorem dX0_cutBackTo_1 : decode cX0_cutBackTo 1 = .ok (.getfield 9, 3) := by decide +kernel
theorem dX0_cutBackTo_4 : decode cX0_cutBackTo 4 = .ok (.invokestatic 21, 3) := by decide +kernel
theorem dX0_cutBackTo_7 : decode cX0_cutBackTo 7 = .ok (.istore_n 2, 1) := by decide +kernel
theorem dX0_cutBackTo_8 : decode cX0_cutBackTo 8 = .ok (.iload_n 1, 1) := by decide +kernel
theorem dX0_cutBackTo_9 : decode cX0_cutBackTo 9 = .ok (.iload_n 2, 1) := by decide +kernel
theorem dX0_cutBackTo_10 : decode cX0_cutBackTo 10 = .ok (.invokestatic 25, 3) := by decide +kernel
theorem dX0_cutBackTo_13 : decode cX0_cutBackTo 13 = .ok (.istore_n 3, 1) := by decide +kernel
theorem dX0_cutBackTo_14 : decode cX0_cutBackTo 14 = .ok (.iconst 0, 1) := by decide +kernel
theorem dX0_cutBackTo_15 : decode cX0_cutBackTo 15 = .ok (.istore 4, 2) := by decide +kernel
theorem dX0_cutBackTo_17 : decode cX0_cutBackTo 17 = .ok (.iconst 0, 1) := by decide +kernel
theorem dX0_cutBackTo_18 : decode cX0_cutBackTo 18 = .ok (.istore 5, 2) := by decide +kernel
theorem dX0_cutBackTo_20 : decode cX0_cutBackTo 20 = .ok (.iload 5, 2) := by decide +kernel
theorem dX0_cutBackTo_22 : decode cX0_cutBackTo 22 = .ok (.bipush 28, 2) := by decide +kernel
theorem dX0_cutBackTo_24 : decode cX0_cutBackTo 24 = .ok (.if_icmp .ge 70, 3) := by decide +kernel
theorem dX0_cutBackTo_27 : decode cX0_cutBackTo 27 = .ok (.aload_n 0, 1) := by decide +kernel
theorem dX0_cutBackTo_28 : decode cX0_cutBackTo 28 = .ok (.getfield 9, 3) := by decide +kernel
theorem dX0_cutBackTo_31 : decode cX0_cutBackTo 31 = .ok (.iload 5, 2) := by decide +kernel
theorem dX0_cutBackTo_33 : decode cX0_cutBackTo 33 = .ok (.iaload, 1) := by decide +kernel
theorem dX0_cutBackTo_34 : decode cX0_cutBackTo 34 = .ok (.iload_n 3, 1) := by decide +kernel
theorem dX0_cutBackTo_35 : decode cX0_cutBackTo 35 = .ok (.imul, 1) := by decide +kernel
theorem dX0_cutBackTo_36 : decode cX0_cutBackTo 36 = .ok (.istore 6, 2) := by decide +kernel
theorem dX0_cutBackTo_38 : decode cX0_cutBackTo 38 = .ok (.aload_n 0, 1) := by decide +kernel
theorem dX0_cutBackTo_39 : decode cX0_cutBackTo 39 = .ok (.getfield 15, 3) := by decide +kernel
theorem dX0_cutBackTo_42 : decode cX0_cutBackTo 42 = .ok (.iload 5, 2) := by decide +kernel
theorem dX0_cutBackTo_44 : decode cX0_cutBackTo 44 = .ok (.iload_n 2, 1) := by decide +kernel
theorem dX0_cutBackTo_45 : decode cX0_cutBackTo 45 = .ok (.ifCond .le 10, 3) := by decide +kernel
theorem dX0_cutBackTo_48 : decode cX0_cutBackTo 48 = .ok (.iload 6, 2) := by decide +kernel
theorem dX0_cutBackTo_50 : decode cX0_cutBackTo 50 = .ok (.iload_n 2, 1) := by decide +kernel
theorem dX0_cutBackTo_51 : decode cX0_cutBackTo 51 = .ok (.idiv, 1) := by decide +kernel
theorem dX0_cutBackTo_52 : decode cX0_cutBackTo 52 = .ok (.goto 4, 3) := by decide +kernel
theorem dX0_cutBackTo_55 : decode cX0_cutBackTo 55 = .ok (.iconst 0, 1) := by decide +kernel
theorem dX0_cutBackTo_56 : decode cX0_cutBackTo 56 = .ok (.iastore, 1) := by decide +kernel
theorem dX0_cutBackTo_57 : decode cX0_cutBackTo 57 = .ok (.aload_n 0, 1) := by decide +kernel
theorem dX0_cutBackTo_58 : decode cX0_cutBackTo 58 = .ok (.getfield 18, 3) := by decide +kernel
theorem dX0_cutBackTo_61 : decode cX0_cutBackTo 61 = .ok (.iload 5, 2) := by decide +kernel
theorem dX0_cutBackTo_63 : decode cX0_cutBackTo 63 = .ok (.iload_n 2, 1) := by decide +kernel
theorem dX0_cutBackTo_64 : decode cX0_cutBackTo 64 = .ok (.ifCond .le 10, 3) := by decide +kernel
theorem dX0_cutBackTo_67 : decode cX0_cutBackTo 67 = .ok (.iload 6, 2) := by decide +kernel
theorem dX0_cutBackTo_69 : decode cX0_cutBackTo 69 = .ok (.iload_n 2, 1) := by decide +kernel
theorem dX0_cutBackTo_70 : decode cX0_cutBackTo 70 = .ok (.irem, 1) := by decide +kernel
theorem dX0_cutBackTo_71 : decode cX0_cutBackTo 71 = .ok (.goto 4, 3) := by decide +kernel
theorem dX0_cutBackTo_74 : decode cX0_cutBackTo 74 = .ok (.iconst 0, 1) := by decide +kernel
theorem dX0_cutBackTo_75 : decode cX0_cutBackTo 75 = .ok (.iastore, 1) := by decide +kernel
theorem dX0_cutBackTo_76 : decode cX0_cutBackTo 76 = .ok (.iload 4, 2) := by decide +kernel
theorem dX0_cutBackTo_78 : decode cX0_cutBackTo 78 = .ok (.aload_n 0, 1) := by decide +kernel
theorem dX0_cutBackTo_79 : decode cX0_cutBackTo 79 = .ok (.getfield 15, 3) := by decide +kernel
theorem dX0_cutBackTo_82 : decode cX0_cutBackTo 82 = .ok (.iload 5, 2) := by decide +kernel
theorem dX0_cutBackTo_84 : decode cX0_cutBackTo 84 = .ok (.iaload, 1) := by decide +kernel
theorem dX0_cutBackTo_85 : decode cX0_cutBackTo 85 = .ok (.iadd, 1) := by decide +kernel
theorem dX0_cutBackTo_86 : decode cX0_cutBackTo 86 = .ok (.istore 4, 2) := by decide +kernel
theorem dX0_cutBackTo_88 : decode cX0_cutBackTo 88 = .ok (.iinc 5 1, 3) := by decide +kernel
theorem dX0_cutBackTo_91 : decode cX0_cutBackTo 91 = .ok (.goto (-71), 3) := by decide +kernel
theorem dX0_cutBackTo_94 : decode cX0_cutBackTo 94 = .ok (.iload 4, 2) := by decide +kernel
theorem dX0_cutBackTo_96 : decode cX0_cutBackTo 96 = .ok (.istore 5, 2) := by decide +kernel
theorem dX0_cutBackTo_98 : decode cX0_cutBackTo 98 = .ok (.iload 5, 2) := by decide +kernel
theorem dX0_cutBackTo_100 : decode cX0_cutBackTo 100 = .ok (.iload_n 3, 1) := by decide +kernel
theorem dX0_cutBackTo_101 : decode cX0_cutBackTo 101 = .ok (.if_icmp .ge 13, 3) := by decide +kernel
theorem dX0_cutBackTo_104 : decode cX0_cutBackTo 104 = .ok (.aload_n 0, 1) := by decide +kernel
theorem dX0_cutBackTo_105 : decode cX0_cutBackTo 105 = .ok (.invokevirtual 31, 3) := by decide +kernel
theorem dX0_cutBackTo_108 : decode cX0_cutBackTo 108 = .ok (.iinc 5 1, 3) := by decide +kernel
theorem dX0_cutBackTo_111 : decode cX0_cutBackTo 111 = .ok (.goto (-13), 3) := by decide +kernel
theorem dX0_cutBackTo_114 : decode cX0_cutBackTo 114 = .ok (.return_, 1) := by decide +kernel
theorem dX0_giveOneToGreatestRest_0 : decode cX0_giveOneToGreatestRest 0 = .ok (.iconst 0, 1) := by decide +kernel
theorem dX0_giveOneToGreatestRest_1 : decode cX0_giveOneToGreatestRest 1 = .ok (.istore_n 1, 1) := by decide +kernel
theorem dX0_giveOneToGreatestRest_2 : decode cX0_giveOneToGreatestRest 2 = .ok (.iconst 1, 1) := by decide +kernel
theorem dX0_giveOneToGreatestRest_3 : decode cX0_giveOneToGreatestRest 3 = .ok (.istore_n 2, 1) := by decide +kernel
theorem dX0_giveOneToGreatestRest_4 : decode cX0_giveOneToGreatestRest 4 = .ok (.iload_n 2, 1) := by decide +kernel
theorem dX0_giveOneToGreatestRest_5 : decode cX0_giveOneToGreatestRest 5 = .ok (.bipush 28, 2) := by decide +kernel
theorem dX0_giveOneToGreatestRest_7 : decode cX0_giveOneToGreatestRest 7 = .ok (.if_icmp .ge 26, 3) := by decide +kernel
theorem dX0_giveOneToGreatestRest_10 : decode cX0_giveOneToGreatestRest 10 = .ok (.aload_n 0, 1) := by decide +kernel
theorem dX0_giveOneToGreatestRest_11 : decode cX0_giveOneToGreatestRest 11 = .ok (.getfield 18, 3) := by decide +kernel
theorem dX0_giveOneToGreatestRest_14 : decode cX0_giveOneToGreatestRest 14 = .ok (.iload_n 2, 1) := by decide +kernel
theorem dX0_giveOneToGreatestRest_15 : decode cX0_giveOneToGreatestRest 15 = .ok (.iaload, 1) := by decide +kernel
theorem dX0_giveOneToGreatestRest_16 : decode cX0_giveOneToGreatestRest 16 = .ok (.aload_n 0, 1) := by decide +kernel
theorem dX0_giveOneToGreatestRest_17 : decode cX0_giveOneToGreatestRest 17 = .ok (.getfield 18, 3) := by decide +kernel
theorem dX0_giveOneToGreatestRest_20 : decode cX0_giveOneToGreatestRest 20 = .ok (.iload_n 1, 1) := by decide +kernel
theorem dX0_giveOneToGreatestRest_21 : decode cX0_giveOneToGreatestRest 21 = .ok (.iaload, 1) := by decide +kernel
theorem dX0_giveOneToGreatestRest_22 : decode cX0_giveOneToGreatestRest 22 = .ok (.if_icmp .le 5, 3) := by decide +kernel
theorem dX0_giveOneToGreatestRest_25 : decode cX0_giveOneToGreatestRest 25 = .ok (.iload_n 2, 1) := by decide +kernel
theorem dX0_giveOneToGreatestRest_26 : decode cX0_giveOneToGreatestRest 26 = .ok (.istore_n 1, 1) := by decide +kernel
theorem dX0_giveOneToGreatestRest_27 : decode cX0_giveOneToGreatestRest 27 = .ok (.iinc 2 1, 3) := by decide +kernel
theorem dX0_giveOneToGreatestRest_30 : decode cX0_giveOneToGreatestRest 30 = .ok (.goto (-26), 3) := by decide +kernel
theorem dX0_giveOneToGreatestRest_33 : decode cX0_giveOneToGreatestRest 33 = .ok (.aload_n 0, 1) := by decide +kernel
theorem dX0_giveOneToGreatestRest_34 : decode cX0_giveOneToGreatestRest 34 = .ok (.getfield 15, 3) := by decide +kernel
theorem dX0_giveOneToGreatestRest_37 : decode cX0_giveOneToGreatestRest 37 = .ok (.iload_n 1, 1) := by decide +kernel
theorem dX0_giveOneToGreatestRest_38 : decode cX0_giveOneToGreatestRest 38 = .ok (.dup2, 1) := by decide +kernel
theorem dX0_giveOneToGreatestRest_39 : decode cX0_giveOneToGreatestRest 39 = .ok (.iaload, 1) := by decide +kernel
theorem dX0_giveOneToGreatestRest_40 : decode cX0_giveOneToGreatestRest 40 = .ok (.iconst 1, 1) := by decide +kernel
theorem dX0_giveOneToGreatestRest_41 : decode cX0_giveOneToGreatestRest 41 = .ok (.iadd, 1) := by decide +kernel
theorem dX0_giveOneToGreatestRest_42 : decode cX0_giveOneToGreatestRest 42 = .ok (.iastore, 1) := by decide +kernel
theorem dX0_giveOneToGreatestRest_43 : decode cX0_giveOneToGreatestRest 43 = .ok (.aload_n 0, 1) := by decide +kernel
theorem dX0_giveOneToGreatestRest_44 : decode cX0_giveOneToGreatestRest 44 = .ok (.getfield 18, 3) := by decide +kernel
theorem dX0_giveOneToGreatestRest_47 : decode cX0_giveOneToGreatestRest 47 = .ok (.iload_n 1, 1) := by decide +kernel
theorem dX0_giveOneToGreatestRest_48 : decode cX0_giveOneToGreatestRest 48 = .ok (.iconst (-1), 1) := by decide +kernel
theorem dX0_giveOneToGreatestRest_49 : decode cX0_giveOneToGreatestRest 49 = .ok (.iastore, 1) := by decide +kernel
theorem dX0_giveOneToGreatestRest_50 : decode cX0_giveOneToGreatestRest 50 = .ok (.return_, 1) := by decide +kernel
theorem dX1_init_0 : decode cX1_init 0 = .ok (.aload_n 0, 1) := by decide +kernel
theorem dX1_init_1 : decode cX1_init 1 = .ok (.invokespecial 1, 3) := by decide +kernel
theorem dX1_init_4 : decode cX1_init 4 = .ok (.return_, 1) := by decide +kernel
theorem dX2_init_0 : decode cX2_init 0 = .ok (.aload_n 0, 1) := by decide +kernel
theorem dX2_init_1 : decode cX2_init 1 = .ok (.invokespecial 1, 3) := by decide +kernel
theorem dX2_init_4 : decode cX2_init 4 = .ok (.aload_n 0, 1) := by decide +kernel
theorem dX2_init_5 : decode cX2_init 5 = .ok (.lconst 1, 1) := by decide +kernel
theorem dX2_init_6 : decode cX2_init 6 = .ok (.putfield 7, 3) := by decide +kernel
theorem dX2_init_9 : decode cX2_init 9 = .ok (.aload_n 0, 1) := by decide +kernel
theorem dX2_init_10 : decode cX2_init 10 = .ok (.lload_n 1, 1) := by decide +kernel
theorem dX2_init_11 : decode cX2_init 11 = .ok (.putfield 13, 3) := by decide +kernel
theorem dX2_init_14 : decode cX2_init 14 = .ok (.return_, 1) := by decide +kernel
theorem dX2_add_0 : decode cX2_add 0 = .ok (.aload_n 0, 1) := by decide +kernel
theorem dX2_add_1 : decode cX2_add 1 = .ok (.aload_n 0, 1) := by decide +kernel
theorem dX2_add_2 : decode cX2_add 2 = .ok (.getfield 13, 3) := by decide +kernel
theorem dX2_add_5 : decode cX2_add 5 = .ok (.lload_n 3, 1) := by decide +kernel
theorem dX2_add_6 : decode cX2_add 6 = .ok (.lmul, 1) := by decide +kernel
theorem dX2_add_7 : decode cX2_add 7 = .ok (.lload_n 1, 1) := by decide +kernel
theorem dX2_add_8 : decode cX2_add 8 = .ok (.aload_n 0, 1) := by decide +kernel
theorem dX2_add_9 : decode cX2_add 9 = .ok (.getfield 7, 3) := by decide +kernel
theorem dX2_add_12 : decode cX2_add 12 = .ok (.lmul, 1) := by decide +kernel
theorem dX2_add_13 : decode cX2_add 13 = .ok (.ladd, 1) := by decide +kernel
theorem dX2_add_14 : decode cX2_add 14 = .ok (.putfield 13, 3) := by decide +kernel
theorem dX2_add_17 : decode cX2_add 17 = .ok (.aload_n 0, 1) := by decide +kernel
theorem dX2_add_18 : decode cX2_add 18 = .ok (.aload_n 0, 1) := by decide +kernel
theorem dX2_add_19 : decode cX2_add 19 = .ok (.getfield 7, 3) := by decide +kernel
theorem dX2_add_22 : decode cX2_add 22 = .ok (.lload_n 3, 1) := by decide +kernel
theorem dX2_add_23 : decode cX2_add 23 = .ok (.lmul, 1) := by decide +kernel
theorem dX2_add_24 : decode cX2_add 24 = .ok (.putfield 7, 3) := by decide +kernel
theorem dX2_add_27 : decode cX2_add 27 = .ok (.aload_n 0, 1) := by decide +kernel
theorem dX2_add_28 : decode cX2_add 28 = .ok (.invokevirtual 16, 3) := by decide +kernel
theorem dX2_add_31 : decode cX2_add 31 = .ok (.return_, 1) := by decide +kernel
theorem dX2_divideBy_0 : decode cX2_divideBy 0 = .ok (.aload_n 0, 1) := by decide +kernel
theorem dX2_divideBy_1 : decode cX2_divideBy 1 = .ok (.aload_n 0, 1) := by decide +kernel
theorem dX2_divideBy_2 : decode cX2_divideBy 2 = .ok (.getfield 7, 3) := by decide +kernel
theorem dX2_divideBy_5 : decode cX2_divideBy 5 = .ok (.lload_n 1, 1) := by decide +kernel
theorem dX2_divideBy_6 : decode cX2_divideBy 6 = .ok (.lmul, 1) := by decide +kernel
theorem dX2_divideBy_7 : decode cX2_divideBy 7 = .ok (.putfield 7, 3) := by decide +kernel
theorem dX2_divideBy_10 : decode cX2_divideBy 10 = .ok (.aload_n 0, 1) := by decide +kernel
theorem dX2_divideBy_11 : decode cX2_divideBy 11 = .ok (.invokevirtual 16, 3) := by decide +kernel
theorem dX2_divideBy_14 : decode cX2_divideBy 14 = .ok (.return_, 1) := by decide +kernel
theorem dX2_shorten_0 : decode cX2_shorten 0 = .ok (.aload_n 0, 1) := by decide +kernel
theorem dX2_shorten_1 : decode cX2_shorten 1 = .ok (.getfield 13, 3) := by decide +kernel
theorem dX2_shorten_4 : decode cX2_shorten 4 = .ok (.aload_n 0, 1) := by decide +kernel
theorem dX2_shorten_5 : decode cX2_shorten 5 = .ok (.getfield 7, 3) := by decide +kernel
theorem dX2_shorten_8 : decode cX2_shorten 8 = .ok (.invokestatic 19, 3) := by decide +kernel
theorem dX2_shorten_11 : decode cX2_shorten 11 = .ok (.lstore_n 1, 1) := by decide +kernel
theorem dX2_shorten_12 : decode cX2_shorten 12 = .ok (.lload_n 1, 1) := by decide +kernel
theorem dX2_shorten_13 : decode cX2_shorten 13 = .ok (.lconst 1, 1) := by decide +kernel
theorem dX2_shorten_14 : decode cX2_shorten 14 = .ok (.lcmp, 1) := by decide +kernel
theorem dX2_shorten_15 : decode cX2_shorten 15 = .ok (.ifCond .le 23, 3) := by decide +kernel
theorem dX2_shorten_18 : decode cX2_shorten 18 = .ok (.aload_n 0, 1) := by decide +kernel
theorem dX2_shorten_19 : decode cX2_shorten 19 = .ok (.aload_n 0, 1) := by decide +kernel
theorem dX2_shorten_20 : decode cX2_shorten 20 = .ok (.getfield 13, 3) := by decide +kernel
theorem dX2_shorten_23 : decode cX2_shorten 23 = .ok (.lload_n 1, 1) := by decide +kernel
theorem dX2_shorten_24 : decode cX2_shorten 24 = .ok (.ldiv, 1) := by decide +kernel
theorem dX2_shorten_25 : decode cX2_shorten 25 = .ok (.putfield 13, 3) := by decide +kernel
theorem dX2_shorten_28 : decode cX2_shorten 28 = .ok (.aload_n 0, 1) := by decide +kernel
theorem dX2_shorten_29 : decode cX2_shorten 29 = .ok (.aload_n 0, 1) := by decide +kernel
theorem dX2_shorten_30 : decode cX2_shorten 30 = .ok (.getfield 7, 3) := by decide +kernel
theorem dX2_shorten_33 : decode cX2_shorten 33 = .ok (.lload_n 1, 1) := by decide +kernel
theorem dX2_shorten_34 : decode cX2_shorten 34 = .ok (.ldiv, 1) := by decide +kernel
theorem dX2_shorten_35 : decode cX2_shorten 35 = .ok (.putfield 7, 3) := by decide +kernel
theorem dX2_shorten_38 : decode cX2_shorten 38 = .ok (.return_, 1) := by decide +kernel
theorem dX2_divisorInCommon_0 : decode cX2_divisorInCommon 0 = .ok (.lload_n 0, 1) := by decide +kernel
theorem dX2_divisorInCommon_1 : decode cX2_divisorInCommon 1 = .ok (.lstore 4, 2) := by decide +kernel
theorem dX2_divisorInCommon_3 : decode cX2_divisorInCommon 3 = .ok (.lload_n 2, 1) := by decide +kernel
theorem dX2_divisorInCommon_4 : decode cX2_divisorInCommon 4 = .ok (.lstore 6, 2) := by decide +kernel
theorem dX2_divisorInCommon_6 : decode cX2_divisorInCommon 6 = .ok (.iconst 0, 1) := by decide +kernel
theorem dX2_divisorInCommon_7 : decode cX2_divisorInCommon 7 = .ok (.istore 8, 2) := by decide +kernel
theorem dX2_divisorInCommon_9 : decode cX2_divisorInCommon 9 = .ok (.iload 8, 2) := by decide +kernel
theorem dX2_divisorInCommon_11 : decode cX2_divisorInCommon 11 = .ok (.bipush 100, 2) := by decide +kernel
theorem dX2_divisorInCommon_13 : decode cX2_divisorInCommon 13 = .ok (.if_icmp .ge 31, 3) := by decide +kernel
theorem dX2_divisorInCommon_16 : decode cX2_divisorInCommon 16 = .ok (.lload 6, 2) := by decide +kernel
theorem dX2_divisorInCommon_18 : decode cX2_divisorInCommon 18 = .ok (.lconst 0, 1) := by decide +kernel
theorem dX2_divisorInCommon_19 : decode cX2_divisorInCommon 19 = .ok (.lcmp, 1) := by decide +kernel
theorem dX2_divisorInCommon_20 : decode cX2_divisorInCommon 20 = .ok (.ifCond .eq 24, 3) := by decide +kernel
theorem dX2_divisorInCommon_23 : decode cX2_divisorInCommon 23 = .ok (.lload 4, 2) := by decide +kernel
theorem dX2_divisorInCommon_25 : decode cX2_divisorInCommon 25 = .ok (.lload 6, 2) := by decide +kernel
theorem dX2_divisorInCommon_27 : decode cX2_divisorInCommon 27 = .ok (.lrem, 1) := by decide +kernel
theorem dX2_divisorInCommon_28 : decode cX2_divisorInCommon 28 = .ok (.lstore 9, 2) := by decide +kernel
theorem dX2_divisorInCommon_30 : decode cX2_divisorInCommon 30 = .ok (.lload 6, 2) := by decide +kernel
theorem dX2_divisorInCommon_32 : decode cX2_divisorInCommon 32 = .ok (.lstore 4, 2) := by decide +kernel
theorem dX2_divisorInCommon_34 : decode cX2_divisorInCommon 34 = .ok (.lload 9, 2) := by decide +kernel
theorem dX2_divisorInCommon_36 : decode cX2_divisorInCommon 36 = .ok (.lstore 6, 2) := by decide +kernel
theorem dX2_divisorInCommon_38 : decode cX2_divisorInCommon 38 = .ok (.iinc 8 1, 3) := by decide +kernel
theorem dX2_divisorInCommon_41 : decode cX2_divisorInCommon 41 = .ok (.goto (-32), 3) := by decide +kernel
theorem dX2_divisorInCommon_44 : decode cX2_divisorInCommon 44 = .ok (.lload 4, 2) := by decide +kernel
theorem dX2_divisorInCommon_46 : decode cX2_divisorInCommon 46 = .ok (.lreturn, 1) := by decide +kernel
theorem dX3_init_0 : decode cX3_init 0 = .ok (.aload_n 0, 1) := by decide +kernel
theorem dX3_init_1 : decode cX3_init 1 = .ok (.invokespecial 3, 3) := by decide +kernel
theorem dX3_init_4 : decode cX3_init 4 = .ok (.aload_n 0, 1) := by decide +kernel
theorem dX3_init_5 : decode cX3_init 5 = .ok (.bipush 24, 2) := by decide +kernel
theorem dX3_init_7 : decode cX3_init 7 = .ok (.newarray .int, 2) := by decide +kernel
theorem dX3_init_9 : decode cX3_init 9 = .ok (.putfield 9, 3) := by decide +kernel
theorem dX3_init_12 : decode cX3_init 12 = .ok (.aload_n 0, 1) := by decide +kernel
theorem dX3_init_13 : decode cX3_init 13 = .ok (.iload_n 1, 1) := by decide +kernel
theorem dX3_init_14 : decode cX3_init 14 = .ok (.putfield 15, 3) := by decide +kernel
theorem dX3_init_17 : decode cX3_init 17 = .ok (.return_, 1) := by decide +kernel
theorem dX4_init_0 : decode cX4_init 0 = .ok (.aload_n 0, 1) := by decide +kernel
theorem dX4_init_1 : decode cX4_init 1 = .ok (.invokespecial 3, 3) := by decide +kernel
theorem dX4_init_4 : decode cX4_init 4 = .ok (.aload_n 0, 1) := by decide +kernel
theorem dX4_init_5 : decode cX4_init 5 = .ok (.iload_n 1, 1) := by decide +kernel
theorem dX4_init_6 : decode cX4_init 6 = .ok (.putfield 9, 3) := by decide +kernel
theorem dX4_init_9 : decode cX4_init 9 = .ok (.aload_n 0, 1) := by decide +kernel
theorem dX4_init_10 : decode cX4_init 10 = .ok (.sipush 1000, 3) := by decide +kernel
theorem dX4_init_13 : decode cX4_init 13 = .ok (.putfield 15, 3) := by decide +kernel
theorem dX4_init_16 : decode cX4_init 16 = .ok (.return_, 1) := by decide +kernel
theorem dX6_init_0 : decode cX6_init 0 = .ok (.aload_n 0, 1) := by decide +kernel
theorem dX6_init_1 : decode cX6_init 1 = .ok (.invokespecial 3, 3) := by decide +kernel
theorem dX6_init_4 : decode cX6_init 4 = .ok (.aload_n 0, 1) := by decide +kernel
theorem dX6_init_5 : decode cX6_init 5 = .ok (.getstatic 9, 3) := by decide +kernel
theorem dX6_init_8 : decode cX6_init 8 = .ok (.arraylength, 1) := by decide +kernel
theorem dX6_init_9 : decode cX6_init 9 = .ok (.newarray .int, 2) := by decide +kernel
theorem dX6_init_11 : decode cX6_init 11 = .ok (.putfield 15, 3) := by decide +kernel
theorem dX6_init_14 : decode cX6_init 14 = .ok (.aload_n 0, 1) := by decide +kernel
theorem dX6_init_15 : decode cX6_init 15 = .ok (.getstatic 9, 3) := by decide +kernel
theorem dX6_init_18 : decode cX6_init 18 = .ok (.arraylength, 1) := by decide +kernel
theorem dX6_init_19 : decode cX6_init 19 = .ok (.newarray .int, 2) := by decide +kernel
theorem dX6_init_21 : decode cX6_init 21 = .ok (.putfield 21, 3) := by decide +kernel
theorem dX6_init_24 : decode cX6_init 24 = .ok (.getstatic 9, 3) := by decide +kernel
theorem dX6_init_27 : decode cX6_init 27 = .ok (.astore_n 1, 1) := by decide +kernel
theorem dX6_init_28 : decode cX6_init 28 = .ok (.aload_n 1, 1) := by decide +kernel
theorem dX6_init_29 : decode cX6_init 29 = .ok (.arraylength, 1) := by decide +kernel
theorem dX6_init_30 : decode cX6_init 30 = .ok (.istore_n 2, 1) := by decide +kernel
theorem dX6_init_31 : decode cX6_init 31 = .ok (.iconst 0, 1) := by decide +kernel
theorem dX6_init_32 : decode cX6_init 32 = .ok (.istore_n 3, 1) := by decide +kernel
theorem dX6_init_33 : decode cX6_init 33 = .ok (.iload_n 3, 1) := by decide +kernel
theorem dX6_init_34 : decode cX6_init 34 = .ok (.iload_n 2, 1) := by decide +kernel
theorem dX6_init_35 : decode cX6_init 35 = .ok (.if_icmp .ge 29, 3) := by decide +kernel
theorem dX6_init_38 : decode cX6_init 38 = .ok (.aload_n 1, 1) := by decide +kernel
theorem dX6_init_39 : decode cX6_init 39 = .ok (.iload_n 3, 1) := by decide +kernel
theorem dX6_init_40 : decode cX6_init 40 = .ok (.aaload, 1) := by decide +kernel
theorem dX6_init_41 : decode cX6_init 41 = .ok (.astore 4, 2) := by decide +kernel
theorem dX6_init_43 : decode cX6_init 43 = .ok (.aload_n 0, 1) := by decide +kernel
theorem dX6_init_44 : decode cX6_init 44 = .ok (.getfield 15, 3) := by decide +kernel
theorem dX6_init_47 : decode cX6_init 47 = .ok (.aload 4, 2) := by decide +kernel
theorem dX6_init_49 : decode cX6_init 49 = .ok (.getfield 24, 3) := by decide +kernel
theorem dX6_init_52 : decode cX6_init 52 = .ok (.aload 4, 2) := by decide +kernel
theorem dX6_init_54 : decode cX6_init 54 = .ok (.getfield 28, 3) := by decide +kernel
theorem dX6_init_57 : decode cX6_init 57 = .ok (.iastore, 1) := by decide +kernel
theorem dX6_init_58 : decode cX6_init 58 = .ok (.iinc 3 1, 3) := by decide +kernel
theorem dX6_init_61 : decode cX6_init 61 = .ok (.goto (-28), 3) := by decide +kernel
theorem dX6_init_64 : decode cX6_init 64 = .ok (.return_, 1) := by decide +kernel
theorem dX6_valueOf_0 : decode cX6_valueOf 0 = .ok (.aload_n 0, 1) := by decide +kernel
theorem dX6_valueOf_1 : decode cX6_valueOf 1 = .ok (.getfield 15, 3) := by decide +kernel
theorem dX6_valueOf_4 : decode cX6_valueOf 4 = .ok (.aload_n 1, 1) := by decide +kernel
theorem dX6_valueOf_5 : decode cX6_valueOf 5 = .ok (.getfield 24, 3) := by decide +kernel
theorem dX6_valueOf_8 : decode cX6_valueOf 8 = .ok (.iaload, 1) := by decide +kernel
theorem dX6_valueOf_9 : decode cX6_valueOf 9 = .ok (.ireturn, 1) := by decide +kernel
theorem dX6_read_0 : decode cX6_read 0 = .ok (.aload_n 0, 1) := by decide +kernel
theorem dX6_read_1 : decode cX6_read 1 = .ok (.invokevirtual 31, 3) := by decide +kernel
theorem dX6_read_4 : decode cX6_read 4 = .ok (.aload_n 1, 1) := by decide +kernel
theorem dX6_read_5 : decode cX6_read 5 = .ok (.getfield 34, 3) := by decide +kernel
theorem dX6_read_8 : decode cX6_read 8 = .ok (.bipush 120, 2) := by decide +kernel
theorem dX6_read_10 : decode cX6_read 10 = .ok (.invokestatic 39, 3) := by decide +kernel
theorem dX6_read_13 : decode cX6_read 13 = .ok (.istore_n 2, 1) := by decide +kernel
theorem dX6_read_14 : decode cX6_read 14 = .ok (.iconst 0, 1) := by decide +kernel
theorem dX6_read_15 : decode cX6_read 15 = .ok (.istore_n 3, 1) := by decide +kernel
theorem dX6_read_16 : decode cX6_read 16 = .ok (.iload_n 3, 1) := by decide +kernel
theorem dX6_read_17 : decode cX6_read 17 = .ok (.iload_n 2, 1) := by decide +kernel
theorem dX6_read_18 : decode cX6_read 18 = .ok (.if_icmp .ge 47, 3) := by decide +kernel
theorem dX6_read_21 : decode cX6_read 21 = .ok (.aload_n 0, 1) := by decide +kernel
theorem dX6_read_22 : decode cX6_read 22 = .ok (.getfield 45, 3) := by decide +kernel
theorem dX6_read_25 : decode cX6_read 25 = .ok (.ifCond .ne 40, 3) := by decide +kernel
theorem dX6_read_28 : decode cX6_read 28 = .ok (.aload_n 1, 1) := by decide +kernel
theorem dX6_read_29 : decode cX6_read 29 = .ok (.iload_n 3, 1) := by decide +kernel
theorem dX6_read_30 : decode cX6_read 30 = .ok (.invokevirtual 48, 3) := by decide +kernel
theorem dX6_read_33 : decode cX6_read 33 = .ok (.invokestatic 52, 3) := by decide +kernel
theorem dX6_read_36 : decode cX6_read 36 = .ok (.ifCond .ne 14, 3) := by decide +kernel
theorem dX6_read_39 : decode cX6_read 39 = .ok (.aload_n 0, 1) := by decide +kernel
theorem dX6_read_40 : decode cX6_read 40 = .ok (.aload_n 1, 1) := by decide +kernel
theorem dX6_read_41 : decode cX6_read 41 = .ok (.iload_n 3, 1) := by decide +kernel
theorem dX6_read_42 : decode cX6_read 42 = .ok (.aload_n 1, 1) := by decide +kernel
theorem dX6_read_43 : decode cX6_read 43 = .ok (.iload_n 3, 1) := by decide +kernel
theorem dX6_read_44 : decode cX6_read 44 = .ok (.invokestatic 56, 3) := by decide +kernel
theorem dX6_read_47 : decode cX6_read 47 = .ok (.invokevirtual 60, 3) := by decide +kernel
theorem dX6_read_50 : decode cX6_read 50 = .ok (.iload_n 3, 1) := by decide +kernel
theorem dX6_read_51 : decode cX6_read 51 = .ok (.iconst 1, 1) := by decide +kernel
theorem dX6_read_52 : decode cX6_read 52 = .ok (.iadd, 1) := by decide +kernel
theorem dX6_read_53 : decode cX6_read 53 = .ok (.aload_n 1, 1) := by decide +kernel
theorem dX6_read_54 : decode cX6_read 54 = .ok (.iload_n 3, 1) := by decide +kernel
theorem dX6_read_55 : decode cX6_read 55 = .ok (.invokestatic 56, 3) := by decide +kernel
theorem dX6_read_58 : decode cX6_read 58 = .ok (.invokestatic 64, 3) := by decide +kernel
theorem dX6_read_61 : decode cX6_read 61 = .ok (.istore_n 3, 1) := by decide +kernel
theorem dX6_read_62 : decode cX6_read 62 = .ok (.goto (-46), 3) := by decide +kernel
theorem dX6_read_65 : decode cX6_read 65 = .ok (.aload_n 0, 1) := by decide +kernel
theorem dX6_read_66 : decode cX6_read 66 = .ok (.getfield 45, 3) := by decide +kernel
theorem dX6_read_69 : decode cX6_read 69 = .ok (.ifCond .ne 26, 3) := by decide +kernel
theorem dX6_read_72 : decode cX6_read 72 = .ok (.aload_n 0, 1) := by decide +kernel
theorem dX6_read_73 : decode cX6_read 73 = .ok (.getfield 67, 3) := by decide +kernel
theorem dX6_read_76 : decode cX6_read 76 = .ok (.iconst 1, 1) := by decide +kernel
theorem dX6_read_77 : decode cX6_read 77 = .ok (.if_icmp .ne 12, 3) := by decide +kernel
theorem dX6_read_80 : decode cX6_read 80 = .ok (.aload_n 1, 1) := by decide +kernel
theorem dX6_read_81 : decode cX6_read 81 = .ok (.getfield 34, 3) := by decide +kernel
theorem dX6_read_84 : decode cX6_read 84 = .ok (.bipush 120, 2) := by decide +kernel
theorem dX6_read_86 : decode cX6_read 86 = .ok (.if_icmp .le 9, 3) := by decide +kernel
theorem dX6_read_89 : decode cX6_read 89 = .ok (.aload_n 0, 1) := by decide +kernel
theorem dX6_read_90 : decode cX6_read 90 = .ok (.iconst 1, 1) := by decide +kernel
theorem dX6_read_91 : decode cX6_read 91 = .ok (.iload_n 2, 1) := by decide +kernel
theorem dX6_read_92 : decode cX6_read 92 = .ok (.invokevirtual 70, 3) := by decide +kernel
theorem dX6_read_95 : decode cX6_read 95 = .ok (.aload_n 0, 1) := by decide +kernel
theorem dX6_read_96 : decode cX6_read 96 = .ok (.getfield 45, 3) := by decide +kernel
theorem dX6_read_99 : decode cX6_read 99 = .ok (.ifCond .eq 10, 3) := by decide +kernel
theorem dX6_read_102 : decode cX6_read 102 = .ok (.iconst (-1), 1) := by decide +kernel
theorem dX6_read_103 : decode cX6_read 103 = .ok (.aload_n 0, 1) := by decide +kernel
theorem dX6_read_104 : decode cX6_read 104 = .ok (.getfield 74, 3) := by decide +kernel
theorem dX6_read_107 : decode cX6_read 107 = .ok (.isub, 1) := by decide +kernel
theorem dX6_read_108 : decode cX6_read 108 = .ok (.ireturn, 1) := by decide +kernel
theorem dX6_read_109 : decode cX6_read 109 = .ok (.aload_n 0, 1) := by decide +kernel
theorem dX6_read_110 : decode cX6_read 110 = .ok (.invokevirtual 77, 3) := by decide +kernel
theorem dX6_read_113 : decode cX6_read 113 = .ok (.aload_n 0, 1) := by decide +kernel
theorem dX6_read_114 : decode cX6_read 114 = .ok (.getfield 80, 3) := by decide +kernel
theorem dX6_read_117 : decode cX6_read 117 = .ok (.ireturn, 1) := by decide +kernel
theorem dX6_begin_0 : decode cX6_begin 0 = .ok (.iconst 0, 1) := by decide +kernel
theorem dX6_begin_1 : decode cX6_begin 1 = .ok (.istore_n 1, 1) := by decide +kernel
theorem dX6_begin_2 : decode cX6_begin 2 = .ok (.iload_n 1, 1) := by decide +kernel
theorem dX6_begin_3 : decode cX6_begin 3 = .ok (.aload_n 0, 1) := by decide +kernel
theorem dX6_begin_4 : decode cX6_begin 4 = .ok (.getfield 21, 3) := by decide +kernel
theorem dX6_begin_7 : decode cX6_begin 7 = .ok (.arraylength, 1) := by decide +kernel
theorem dX6_begin_8 : decode cX6_begin 8 = .ok (.if_icmp .ge 16, 3) := by decide +kernel
theorem dX6_begin_11 : decode cX6_begin 11 = .ok (.aload_n 0, 1) := by decide +kernel
theorem dX6_begin_12 : decode cX6_begin 12 = .ok (.getfield 21, 3) := by decide +kernel
theorem dX6_begin_15 : decode cX6_begin 15 = .ok (.iload_n 1, 1) := by decide +kernel
theorem dX6_begin_16 : decode cX6_begin 16 = .ok (.iconst (-1), 1) := by decide +kernel
theorem dX6_begin_17 : decode cX6_begin 17 = .ok (.iastore, 1) := by decide +kernel
theorem dX6_begin_18 : decode cX6_begin 18 = .ok (.iinc 1 1, 3) := by decide +kernel
theorem dX6_begin_21 : decode cX6_begin 21 = .ok (.goto (-19), 3) := by decide +kernel
theorem dX6_begin_24 : decode cX6_begin 24 = .ok (.aload_n 0, 1) := by decide +kernel
theorem dX6_begin_25 : decode cX6_begin 25 = .ok (.iconst 0, 1) := by decide +kernel
theorem dX6_begin_26 : decode cX6_begin 26 = .ok (.putfield 80, 3) := by decide +kernel
theorem dX6_begin_29 : decode cX6_begin 29 = .ok (.aload_n 0, 1) := by decide +kernel
theorem dX6_begin_30 : decode cX6_begin 30 = .ok (.iconst 1, 1) := by decide +kernel
theorem dX6_begin_31 : decode cX6_begin 31 = .ok (.putfield 67, 3) := by decide +kernel
theorem dX6_begin_34 : decode cX6_begin 34 = .ok (.aload_n 0, 1) := by decide +kernel
theorem dX6_begin_35 : decode cX6_begin 35 = .ok (.aconst_null, 1) := by decide +kernel
theorem dX6_begin_36 : decode cX6_begin 36 = .ok (.putfield 83, 3) := by decide +kernel
theorem dX6_begin_39 : decode cX6_begin 39 = .ok (.aload_n 0, 1) := by decide +kernel
theorem dX6_begin_40 : decode cX6_begin 40 = .ok (.iconst 0, 1) := by decide +kernel
theorem dX6_begin_41 : decode cX6_begin 41 = .ok (.putfield 45, 3) := by decide +kernel
theorem dX6_begin_44 : decode cX6_begin 44 = .ok (.aload_n 0, 1) := by decide +kernel
theorem dX6_begin_45 : decode cX6_begin 45 = .ok (.iconst 0, 1) := by decide +kernel
theorem dX6_begin_46 : decode cX6_begin 46 = .ok (.putfield 74, 3) := by decide +kernel
theorem dX6_begin_49 : decode cX6_begin 49 = .ok (.return_, 1) := by decide +kernel
theorem dX6_putInForce_0 : decode cX6_putInForce 0 = .ok (.getstatic 9, 3) := by decide +kernel
theorem dX6_putInForce_3 : decode cX6_putInForce 3 = .ok (.astore_n 1, 1) := by decide +kernel
theorem dX6_putInForce_4 : decode cX6_putInForce 4 = .ok (.aload_n 1, 1) := by decide +kernel
theorem dX6_putInForce_5 : decode cX6_putInForce 5 = .ok (.arraylength, 1) := by decide +kernel
theorem dX6_putInForce_6 : decode cX6_putInForce 6 = .ok (.istore_n 2, 1) := by decide +kernel
theorem dX6_putInForce_7 : decode cX6_putInForce 7 = .ok (.iconst 0, 1) := by decide +kernel
theorem dX6_putInForce_8 : decode cX6_putInForce 8 = .ok (.istore_n 3, 1) := by decide +kernel
theorem dX6_putInForce_9 : decode cX6_putInForce 9 = .ok (.iload_n 3, 1) := by decide +kernel
theorem dX6_putInForce_10 : decode cX6_putInForce 10 = .ok (.iload_n 2, 1) := by decide +kernel
theorem dX6_putInForce_11 : decode cX6_putInForce 11 = .ok (.if_icmp .ge 56, 3) := by decide +kernel
theorem dX6_putInForce_14 : decode cX6_putInForce 14 = .ok (.aload_n 1, 1) := by decide +kernel
theorem dX6_putInForce_15 : decode cX6_putInForce 15 = .ok (.iload_n 3, 1) := by decide +kernel
theorem dX6_putInForce_16 : decode cX6_putInForce 16 = .ok (.aaload, 1) := by decide +kernel
theorem dX6_putInForce_17 : decode cX6_putInForce 17 = .ok (.astore 4, 2) := by decide +kernel
theorem dX6_putInForce_19 : decode cX6_putInForce 19 = .ok (.aload_n 0, 1) := by decide +kernel
theorem dX6_putInForce_20 : decode cX6_putInForce 20 = .ok (.getfield 15, 3) := by decide +kernel
theorem dX6_putInForce_23 : decode cX6_putInForce 23 = .ok (.aload 4, 2) := by decide +kernel
theorem dX6_putInForce_25 : decode cX6_putInForce 25 = .ok (.getfield 24, 3) := by decide +kernel
theorem dX6_putInForce_28 : decode cX6_putInForce 28 = .ok (.aload_n 0, 1) := by decide +kernel
theorem dX6_putInForce_29 : decode cX6_putInForce 29 = .ok (.getfield 21, 3) := by decide +kernel
theorem dX6_putInForce_32 : decode cX6_putInForce 32 = .ok (.aload 4, 2) := by decide +kernel
theorem dX6_putInForce_34 : decode cX6_putInForce 34 = .ok (.getfield 24, 3) := by decide +kernel
theorem dX6_putInForce_37 : decode cX6_putInForce 37 = .ok (.iaload, 1) := by decide +kernel
theorem dX6_putInForce_38 : decode cX6_putInForce 38 = .ok (.iconst (-1), 1) := by decide +kernel
theorem dX6_putInForce_39 : decode cX6_putInForce 39 = .ok (.if_icmp .ne 11, 3) := by decide +kernel
theorem dX6_putInForce_42 : decode cX6_putInForce 42 = .ok (.aload 4, 2) := by decide +kernel
theorem dX6_putInForce_44 : decode cX6_putInForce 44 = .ok (.getfield 28, 3) := by decide +kernel
theorem dX6_putInForce_47 : decode cX6_putInForce 47 = .ok (.goto 13, 3) := by decide +kernel
theorem dX6_putInForce_50 : decode cX6_putInForce 50 = .ok (.aload_n 0, 1) := by decide +kernel
theorem dX6_putInForce_51 : decode cX6_putInForce 51 = .ok (.getfield 21, 3) := by decide +kernel
theorem dX6_putInForce_54 : decode cX6_putInForce 54 = .ok (.aload 4, 2) := by decide +kernel
theorem dX6_putInForce_56 : decode cX6_putInForce 56 = .ok (.getfield 24, 3) := by decide +kernel
theorem dX6_putInForce_59 : decode cX6_putInForce 59 = .ok (.iaload, 1) := by decide +kernel
theorem dX6_putInForce_60 : decode cX6_putInForce 60 = .ok (.iastore, 1) := by decide +kernel
theorem dX6_putInForce_61 : decode cX6_putInForce 61 = .ok (.iinc 3 1, 3) := by decide +kernel
theorem dX6_putInForce_64 : decode cX6_putInForce 64 = .ok (.goto (-55), 3) := by decide +kernel
theorem dX6_putInForce_67 : decode cX6_putInForce 67 = .ok (.return_, 1) := by decide +kernel
theorem dX6_setFault_0 : decode cX6_setFault 0 = .ok (.aload_n 0, 1) := by decide +kernel
theorem dX6_setFault_1 : decode cX6_setFault 1 = .ok (.iload_n 1, 1) := by decide +kernel
theorem dX6_setFault_2 : decode cX6_setFault 2 = .ok (.putfield 45, 3) := by decide +kernel
theorem dX6_setFault_5 : decode cX6_setFault 5 = .ok (.aload_n 0, 1) := by decide +kernel
theorem dX6_setFault_6 : decode cX6_setFault 6 = .ok (.iload_n 2, 1) := by decide +kernel
theorem dX6_setFault_7 : decode cX6_setFault 7 = .ok (.putfield 74, 3) := by decide +kernel
theorem dX6_setFault_10 : decode cX6_setFault 10 = .ok (.return_, 1) := by decide +kernel
theorem dX6_takeToken_0 : decode cX6_takeToken 0 = .ok (.aload_n 1, 1) := by decide +kernel
theorem dX6_takeToken_1 : decode cX6_takeToken 1 = .ok (.iload_n 2, 1) := by decide +kernel
theorem dX6_takeToken_2 : decode cX6_takeToken 2 = .ok (.iload_n 3, 1) := by decide +kernel
theorem dX6_takeToken_3 : decode cX6_takeToken 3 = .ok (.invokestatic 87, 3) := by decide +kernel
theorem dX6_takeToken_6 : decode cX6_takeToken 6 = .ok (.istore 4, 2) := by decide +kernel
theorem dX6_takeToken_8 : decode cX6_takeToken 8 = .ok (.iload 4, 2) := by decide +kernel
theorem dX6_takeToken_10 : decode cX6_takeToken 10 = .ok (.aload_n 0, 1) := by decide +kernel
theorem dX6_takeToken_11 : decode cX6_takeToken 11 = .ok (.getfield 67, 3) := by decide +kernel
theorem dX6_takeToken_14 : decode cX6_takeToken 14 = .ok (.if_icmp .eq 12, 3) := by decide +kernel
theorem dX6_takeToken_17 : decode cX6_takeToken 17 = .ok (.aload_n 0, 1) := by decide +kernel
theorem dX6_takeToken_18 : decode cX6_takeToken 18 = .ok (.iconst 1, 1) := by decide +kernel
theorem dX6_takeToken_19 : decode cX6_takeToken 19 = .ok (.iload_n 2, 1) := by decide +kernel
theorem dX6_takeToken_20 : decode cX6_takeToken 20 = .ok (.invokevirtual 70, 3) := by decide +kernel
theorem dX6_takeToken_23 : decode cX6_takeToken 23 = .ok (.goto 40, 3) := by decide +kernel
theorem dX6_takeToken_26 : decode cX6_takeToken 26 = .ok (.iload 4, 2) := by decide +kernel
theorem dX6_takeToken_28 : decode cX6_takeToken 28 = .ok (.iconst 1, 1) := by decide +kernel
theorem dX6_takeToken_29 : decode cX6_takeToken 29 = .ok (.if_icmp .ne 13, 3) := by decide +kernel
theorem dX6_takeToken_32 : decode cX6_takeToken 32 = .ok (.aload_n 0, 1) := by decide +kernel
theorem dX6_takeToken_33 : decode cX6_takeToken 33 = .ok (.aload_n 1, 1) := by decide +kernel
theorem dX6_takeToken_34 : decode cX6_takeToken 34 = .ok (.iload_n 2, 1) := by decide +kernel
theorem dX6_takeToken_35 : decode cX6_takeToken 35 = .ok (.iload_n 3, 1) := by decide +kernel
theorem dX6_takeToken_36 : decode cX6_takeToken 36 = .ok (.invokevirtual 91, 3) := by decide +kernel
theorem dX6_takeToken_39 : decode cX6_takeToken 39 = .ok (.goto 24, 3) := by decide +kernel
theorem dX6_takeToken_42 : decode cX6_takeToken 42 = .ok (.iload 4, 2) := by decide +kernel
theorem dX6_takeToken_44 : decode cX6_takeToken 44 = .ok (.iconst 2, 1) := by decide +kernel
theorem dX6_takeToken_45 : decode cX6_takeToken 45 = .ok (.if_icmp .ne 13, 3) := by decide +kernel
theorem dX6_takeToken_48 : decode cX6_takeToken 48 = .ok (.aload_n 0, 1) := by decide +kernel
theorem dX6_takeToken_49 : decode cX6_takeToken 49 = .ok (.aload_n 1, 1) := by decide +kernel
theorem dX6_takeToken_50 : decode cX6_takeToken 50 = .ok (.iload_n 2, 1) := by decide +kernel
theorem dX6_takeToken_51 : decode cX6_takeToken 51 = .ok (.iload_n 3, 1) := by decide +kernel
theorem dX6_takeToken_52 : decode cX6_takeToken 52 = .ok (.invokevirtual 94, 3) := by decide +kernel
theorem dX6_takeToken_55 : decode cX6_takeToken 55 = .ok (.goto 8, 3) := by decide +kernel
theorem dX6_takeToken_58 : decode cX6_takeToken 58 = .ok (.aload_n 0, 1) := by decide +kernel
theorem dX6_takeToken_59 : decode cX6_takeToken 59 = .ok (.iconst 1, 1) := by decide +kernel
theorem dX6_takeToken_60 : decode cX6_takeToken 60 = .ok (.putfield 67, 3) := by decide +kernel
theorem dX6_takeToken_63 : decode cX6_takeToken 63 = .ok (.return_, 1) := by decide +kernel
theorem dX6_takeWord_0 : decode cX6_takeWord 0 = .ok (.aload_n 0, 1) := by decide +kernel
theorem dX6_takeWord_1 : decode cX6_takeWord 1 = .ok (.aload_n 1, 1) := by decide +kernel
theorem dX6_takeWord_2 : decode cX6_takeWord 2 = .ok (.iload_n 2, 1) := by decide +kernel
theorem dX6_takeWord_3 : decode cX6_takeWord 3 = .ok (.iload_n 3, 1) := by decide +kernel
theorem dX6_takeWord_4 : decode cX6_takeWord 4 = .ok (.invokestatic 97, 3) := by decide +kernel
theorem dX6_takeWord_7 : decode cX6_takeWord 7 = .ok (.putfield 83, 3) := by decide +kernel
theorem dX6_takeWord_10 : decode cX6_takeWord 10 = .ok (.aload_n 0, 1) := by decide +kernel
theorem dX6_takeWord_11 : decode cX6_takeWord 11 = .ok (.getfield 83, 3) := by decide +kernel
theorem dX6_takeWord_14 : decode cX6_takeWord 14 = .ok (.ifnonnull 12, 3) := by decide +kernel
theorem dX6_takeWord_17 : decode cX6_takeWord 17 = .ok (.aload_n 0, 1) := by decide +kernel
theorem dX6_takeWord_18 : decode cX6_takeWord 18 = .ok (.iconst 1, 1) := by decide +kernel
theorem dX6_takeWord_19 : decode cX6_takeWord 19 = .ok (.iload_n 2, 1) := by decide +kernel
theorem dX6_takeWord_20 : decode cX6_takeWord 20 = .ok (.invokevirtual 70, 3) := by decide +kernel
theorem dX6_takeWord_23 : decode cX6_takeWord 23 = .ok (.goto 33, 3) := by decide +kernel
theorem dX6_takeWord_26 : decode cX6_takeWord 26 = .ok (.aload_n 0, 1) := by decide +kernel
theorem dX6_takeWord_27 : decode cX6_takeWord 27 = .ok (.getfield 21, 3) := by decide +kernel
theorem dX6_takeWord_30 : decode cX6_takeWord 30 = .ok (.aload_n 0, 1) := by decide +kernel
theorem dX6_takeWord_31 : decode cX6_takeWord 31 = .ok (.getfield 83, 3) := by decide +kernel
theorem dX6_takeWord_34 : decode cX6_takeWord 34 = .ok (.getfield 24, 3) := by decide +kernel
theorem dX6_takeWord_37 : decode cX6_takeWord 37 = .ok (.iaload, 1) := by decide +kernel
theorem dX6_takeWord_38 : decode cX6_takeWord 38 = .ok (.iconst (-1), 1) := by decide +kernel
theorem dX6_takeWord_39 : decode cX6_takeWord 39 = .ok (.if_icmp .eq 12, 3) := by decide +kernel
theorem dX6_takeWord_42 : decode cX6_takeWord 42 = .ok (.aload_n 0, 1) := by decide +kernel
theorem dX6_takeWord_43 : decode cX6_takeWord 43 = .ok (.iconst 3, 1) := by decide +kernel
theorem dX6_takeWord_44 : decode cX6_takeWord 44 = .ok (.iload_n 2, 1) := by decide +kernel
theorem dX6_takeWord_45 : decode cX6_takeWord 45 = .ok (.invokevirtual 70, 3) := by decide +kernel
theorem dX6_takeWord_48 : decode cX6_takeWord 48 = .ok (.goto 8, 3) := by decide +kernel
theorem dX6_takeWord_51 : decode cX6_takeWord 51 = .ok (.aload_n 0, 1) := by decide +kernel
theorem dX6_takeWord_52 : decode cX6_takeWord 52 = .ok (.iconst 2, 1) := by decide +kernel
theorem dX6_takeWord_53 : decode cX6_takeWord 53 = .ok (.putfield 67, 3) := by decide +kernel
theorem dX6_takeWord_56 : decode cX6_takeWord 56 = .ok (.return_, 1) := by decide +kernel
theorem dX6_takeNumber_0 : decode cX6_takeNumber 0 = .ok (.iconst 0, 1) := by decide +kernel
theorem dX6_takeNumber_1 : decode cX6_takeNumber 1 = .ok (.istore 4, 2) := by decide +kernel
theorem dX6_takeNumber_3 : decode cX6_takeNumber 3 = .ok (.iload_n 2, 1) := by decide +kernel
theorem dX6_takeNumber_4 : decode cX6_takeNumber 4 = .ok (.istore 5, 2) := by decide +kernel
theorem dX6_takeNumber_6 : decode cX6_takeNumber 6 = .ok (.iload 5, 2) := by decide +kernel
theorem dX6_takeNumber_8 : decode cX6_takeNumber 8 = .ok (.iload_n 3, 1) := by decide +kernel
theorem dX6_takeNumber_9 : decode cX6_takeNumber 9 = .ok (.if_icmp .ge 26, 3) := by decide +kernel
theorem dX6_takeNumber_12 : decode cX6_takeNumber 12 = .ok (.iload 4, 2) := by decide +kernel
theorem dX6_takeNumber_14 : decode cX6_takeNumber 14 = .ok (.bipush 10, 2) := by decide +kernel
theorem dX6_takeNumber_16 : decode cX6_takeNumber 16 = .ok (.imul, 1) := by decide +kernel
theorem dX6_takeNumber_17 : decode cX6_takeNumber 17 = .ok (.aload_n 1, 1) := by decide +kernel
theorem dX6_takeNumber_18 : decode cX6_takeNumber 18 = .ok (.iload 5, 2) := by decide +kernel
theorem dX6_takeNumber_20 : decode cX6_takeNumber 20 = .ok (.invokevirtual 48, 3) := by decide +kernel
theorem dX6_takeNumber_23 : decode cX6_takeNumber 23 = .ok (.iadd, 1) := by decide +kernel
theorem dX6_takeNumber_24 : decode cX6_takeNumber 24 = .ok (.bipush 48, 2) := by decide +kernel
theorem dX6_takeNumber_26 : decode cX6_takeNumber 26 = .ok (.isub, 1) := by decide +kernel
theorem dX6_takeNumber_27 : decode cX6_takeNumber 27 = .ok (.istore 4, 2) := by decide +kernel
theorem dX6_takeNumber_29 : decode cX6_takeNumber 29 = .ok (.iinc 5 1, 3) := by decide +kernel
theorem dX6_takeNumber_32 : decode cX6_takeNumber 32 = .ok (.goto (-26), 3) := by decide +kernel
theorem dX6_takeNumber_35 : decode cX6_takeNumber 35 = .ok (.aload_n 0, 1) := by decide +kernel
theorem dX6_takeNumber_36 : decode cX6_takeNumber 36 = .ok (.getfield 83, 3) := by decide +kernel
theorem dX6_takeNumber_39 : decode cX6_takeNumber 39 = .ok (.ifnull 25, 3) := by decide +kernel
theorem dX6_takeNumber_42 : decode cX6_takeNumber 42 = .ok (.iload 4, 2) := by decide +kernel
theorem dX6_takeNumber_44 : decode cX6_takeNumber 44 = .ok (.aload_n 0, 1) := by decide +kernel
theorem dX6_takeNumber_45 : decode cX6_takeNumber 45 = .ok (.getfield 83, 3) := by decide +kernel
theorem dX6_takeNumber_48 : decode cX6_takeNumber 48 = .ok (.getfield 101, 3) := by decide +kernel
theorem dX6_takeNumber_51 : decode cX6_takeNumber 51 = .ok (.aload_n 0, 1) := by decide +kernel
theorem dX6_takeNumber_52 : decode cX6_takeNumber 52 = .ok (.getfield 83, 3) := by decide +kernel
theorem dX6_takeNumber_55 : decode cX6_takeNumber 55 = .ok (.getfield 104, 3) := by decide +kernel
theorem dX6_takeNumber_58 : decode cX6_takeNumber 58 = .ok (.invokestatic 107, 3) := by decide +kernel
theorem dX6_takeNumber_61 : decode cX6_takeNumber 61 = .ok (.ifCond .ne 12, 3) := by decide +kernel
theorem dX6_takeNumber_64 : decode cX6_takeNumber 64 = .ok (.aload_n 0, 1) := by decide +kernel
theorem dX6_takeNumber_65 : decode cX6_takeNumber 65 = .ok (.iconst 2, 1) := by decide +kernel
theorem dX6_takeNumber_66 : decode cX6_takeNumber 66 = .ok (.iload_n 2, 1) := by decide +kernel
theorem dX6_takeNumber_67 : decode cX6_takeNumber 67 = .ok (.invokevirtual 70, 3) := by decide +kernel
theorem dX6_takeNumber_70 : decode cX6_takeNumber 70 = .ok (.goto 32, 3) := by decide +kernel
theorem dX6_takeNumber_73 : decode cX6_takeNumber 73 = .ok (.aload_n 0, 1) := by decide +kernel
theorem dX6_takeNumber_74 : decode cX6_takeNumber 74 = .ok (.getfield 21, 3) := by decide +kernel
theorem dX6_takeNumber_77 : decode cX6_takeNumber 77 = .ok (.aload_n 0, 1) := by decide +kernel
theorem dX6_takeNumber_78 : decode cX6_takeNumber 78 = .ok (.getfield 83, 3) := by decide +kernel
theorem dX6_takeNumber_81 : decode cX6_takeNumber 81 = .ok (.getfield 24, 3) := by decide +kernel
theorem dX6_takeNumber_84 : decode cX6_takeNumber 84 = .ok (.iload 4, 2) := by decide +kernel
theorem dX6_takeNumber_86 : decode cX6_takeNumber 86 = .ok (.iastore, 1) := by decide +kernel
theorem dX6_takeNumber_87 : decode cX6_takeNumber 87 = .ok (.aload_n 0, 1) := by decide +kernel
theorem dX6_takeNumber_88 : decode cX6_takeNumber 88 = .ok (.dup, 1) := by decide +kernel
theorem dX6_takeNumber_89 : decode cX6_takeNumber 89 = .ok (.getfield 80, 3) := by decide +kernel
theorem dX6_takeNumber_92 : decode cX6_takeNumber 92 = .ok (.iconst 1, 1) := by decide +kernel
theorem dX6_takeNumber_93 : decode cX6_takeNumber 93 = .ok (.iadd, 1) := by decide +kernel
theorem dX6_takeNumber_94 : decode cX6_takeNumber 94 = .ok (.putfield 80, 3) := by decide +kernel
theorem dX6_takeNumber_97 : decode cX6_takeNumber 97 = .ok (.aload_n 0, 1) := by decide +kernel
theorem dX6_takeNumber_98 : decode cX6_takeNumber 98 = .ok (.iconst 3, 1) := by decide +kernel
theorem dX6_takeNumber_99 : decode cX6_takeNumber 99 = .ok (.putfield 67, 3) := by decide +kernel
theorem dX6_takeNumber_102 : decode cX6_takeNumber 102 = .ok (.return_, 1) := by decide +kernel
theorem dX6_tokenEnd_0 : decode cX6_tokenEnd 0 = .ok (.iload_n 1, 1) := by decide +kernel
theorem dX6_tokenEnd_1 : decode cX6_tokenEnd 1 = .ok (.istore_n 2, 1) := by decide +kernel
theorem dX6_tokenEnd_2 : decode cX6_tokenEnd 2 = .ok (.iload_n 2, 1) := by decide +kernel
theorem dX6_tokenEnd_3 : decode cX6_tokenEnd 3 = .ok (.aload_n 0, 1) := by decide +kernel
theorem dX6_tokenEnd_4 : decode cX6_tokenEnd 4 = .ok (.getfield 34, 3) := by decide +kernel
theorem dX6_tokenEnd_7 : decode cX6_tokenEnd 7 = .ok (.if_icmp .ge 20, 3) := by decide +kernel
theorem dX6_tokenEnd_10 : decode cX6_tokenEnd 10 = .ok (.aload_n 0, 1) := by decide +kernel
theorem dX6_tokenEnd_11 : decode cX6_tokenEnd 11 = .ok (.iload_n 2, 1) := by decide +kernel
theorem dX6_tokenEnd_12 : decode cX6_tokenEnd 12 = .ok (.invokevirtual 48, 3) := by decide +kernel
theorem dX6_tokenEnd_15 : decode cX6_tokenEnd 15 = .ok (.invokestatic 111, 3) := by decide +kernel
theorem dX6_tokenEnd_18 : decode cX6_tokenEnd 18 = .ok (.ifCond .eq 9, 3) := by decide +kernel
theorem dX6_tokenEnd_21 : decode cX6_tokenEnd 21 = .ok (.iinc 2 1, 3) := by decide +kernel
theorem dX6_tokenEnd_24 : decode cX6_tokenEnd 24 = .ok (.goto (-22), 3) := by decide +kernel
theorem dX6_tokenEnd_27 : decode cX6_tokenEnd 27 = .ok (.iload_n 2, 1) := by decide +kernel
theorem dX6_tokenEnd_28 : decode cX6_tokenEnd 28 = .ok (.iload_n 1, 1) := by decide +kernel
theorem dX6_tokenEnd_29 : decode cX6_tokenEnd 29 = .ok (.iconst 1, 1) := by decide +kernel
theorem dX6_tokenEnd_30 : decode cX6_tokenEnd 30 = .ok (.iadd, 1) := by decide +kernel
theorem dX6_tokenEnd_31 : decode cX6_tokenEnd 31 = .ok (.invokestatic 64, 3) := by decide +kernel
theorem dX6_tokenEnd_34 : decode cX6_tokenEnd 34 = .ok (.ireturn, 1) := by decide +kernel
theorem dX6_tokenKind_0 : decode cX6_tokenKind 0 = .ok (.iconst 0, 1) := by decide +kernel
theorem dX6_tokenKind_1 : decode cX6_tokenKind 1 = .ok (.istore_n 3, 1) := by decide +kernel
theorem dX6_tokenKind_2 : decode cX6_tokenKind 2 = .ok (.iconst 0, 1) := by decide +kernel
theorem dX6_tokenKind_3 : decode cX6_tokenKind 3 = .ok (.istore 4, 2) := by decide +kernel
theorem dX6_tokenKind_5 : decode cX6_tokenKind 5 = .ok (.iload_n 1, 1) := by decide +kernel
theorem dX6_tokenKind_6 : decode cX6_tokenKind 6 = .ok (.istore 5, 2) := by decide +kernel
theorem dX6_tokenKind_8 : decode cX6_tokenKind 8 = .ok (.iload 5, 2) := by decide +kernel
theorem dX6_tokenKind_10 : decode cX6_tokenKind 10 = .ok (.iload_n 2, 1) := by decide +kernel
theorem dX6_tokenKind_11 : decode cX6_tokenKind 11 = .ok (.if_icmp .ge 51, 3) := by decide +kernel
theorem dX6_tokenKind_14 : decode cX6_tokenKind 14 = .ok (.iload_n 3, 1) := by decide +kernel
theorem dX6_tokenKind_15 : decode cX6_tokenKind 15 = .ok (.aload_n 0, 1) := by decide +kernel
theorem dX6_tokenKind_16 : decode cX6_tokenKind 16 = .ok (.iload 5, 2) := by decide +kernel
theorem dX6_tokenKind_18 : decode cX6_tokenKind 18 = .ok (.invokevirtual 48, 3) := by decide +kernel
theorem dX6_tokenKind_21 : decode cX6_tokenKind 21 = .ok (.invokestatic 114, 3) := by decide +kernel
theorem dX6_tokenKind_24 : decode cX6_tokenKind 24 = .ok (.ifCond .eq 7, 3) := by decide +kernel
theorem dX6_tokenKind_27 : decode cX6_tokenKind 27 = .ok (.iconst 1, 1) := by decide +kernel
theorem dX6_tokenKind_28 : decode cX6_tokenKind 28 = .ok (.goto 4, 3) := by decide +kernel
theorem dX6_tokenKind_31 : decode cX6_tokenKind 31 = .ok (.iconst 0, 1) := by decide +kernel
theorem dX6_tokenKind_32 : decode cX6_tokenKind 32 = .ok (.iadd, 1) := by decide +kernel
theorem dX6_tokenKind_33 : decode cX6_tokenKind 33 = .ok (.istore_n 3, 1) := by decide +kernel
theorem dX6_tokenKind_34 : decode cX6_tokenKind 34 = .ok (.iload 4, 2) := by decide +kernel
theorem dX6_tokenKind_36 : decode cX6_tokenKind 36 = .ok (.aload_n 0, 1) := by decide +kernel
theorem dX6_tokenKind_37 : decode cX6_tokenKind 37 = .ok (.iload 5, 2) := by decide +kernel
theorem dX6_tokenKind_39 : decode cX6_tokenKind 39 = .ok (.invokevirtual 48, 3) := by decide +kernel
theorem dX6_tokenKind_42 : decode cX6_tokenKind 42 = .ok (.invokestatic 117, 3) := by decide +kernel
theorem dX6_tokenKind_45 : decode cX6_tokenKind 45 = .ok (.ifCond .eq 7, 3) := by decide +kernel
theorem dX6_tokenKind_48 : decode cX6_tokenKind 48 = .ok (.iconst 1, 1) := by decide +kernel
theorem dX6_tokenKind_49 : decode cX6_tokenKind 49 = .ok (.goto 4, 3) := by decide +kernel
theorem dX6_tokenKind_52 : decode cX6_tokenKind 52 = .ok (.iconst 0, 1) := by decide +kernel
theorem dX6_tokenKind_53 : decode cX6_tokenKind 53 = .ok (.iadd, 1) := by decide +kernel
theorem dX6_tokenKind_54 : decode cX6_tokenKind 54 = .ok (.istore 4, 2) := by decide +kernel
theorem dX6_tokenKind_56 : decode cX6_tokenKind 56 = .ok (.iinc 5 1, 3) := by decide +kernel
theorem dX6_tokenKind_59 : decode cX6_tokenKind 59 = .ok (.goto (-51), 3) := by decide +kernel
theorem dX6_tokenKind_62 : decode cX6_tokenKind 62 = .ok (.iload_n 3, 1) := by decide +kernel
theorem dX6_tokenKind_63 : decode cX6_tokenKind 63 = .ok (.iload_n 2, 1) := by decide +kernel
theorem dX6_tokenKind_64 : decode cX6_tokenKind 64 = .ok (.iload_n 1, 1) := by decide +kernel
theorem dX6_tokenKind_65 : decode cX6_tokenKind 65 = .ok (.isub, 1) := by decide +kernel
theorem dX6_tokenKind_66 : decode cX6_tokenKind 66 = .ok (.if_icmp .ne 5, 3) := by decide +kernel
theorem dX6_tokenKind_69 : decode cX6_tokenKind 69 = .ok (.iconst 1, 1) := by decide +kernel
theorem dX6_tokenKind_70 : decode cX6_tokenKind 70 = .ok (.ireturn, 1) := by decide +kernel
theorem dX6_tokenKind_71 : decode cX6_tokenKind 71 = .ok (.iload 4, 2) := by decide +kernel
theorem dX6_tokenKind_73 : decode cX6_tokenKind 73 = .ok (.iload_n 2, 1) := by decide +kernel
theorem dX6_tokenKind_74 : decode cX6_tokenKind 74 = .ok (.iload_n 1, 1) := by decide +kernel
theorem dX6_tokenKind_75 : decode cX6_tokenKind 75 = .ok (.isub, 1) := by decide +kernel
theorem dX6_tokenKind_76 : decode cX6_tokenKind 76 = .ok (.if_icmp .ne 11, 3) := by decide +kernel
theorem dX6_tokenKind_79 : decode cX6_tokenKind 79 = .ok (.iload 4, 2) := by decide +kernel
theorem dX6_tokenKind_81 : decode cX6_tokenKind 81 = .ok (.iconst 4, 1) := by decide +kernel
theorem dX6_tokenKind_82 : decode cX6_tokenKind 82 = .ok (.if_icmp .gt 5, 3) := by decide +kernel
theorem dX6_tokenKind_85 : decode cX6_tokenKind 85 = .ok (.iconst 2, 1) := by decide +kernel
theorem dX6_tokenKind_86 : decode cX6_tokenKind 86 = .ok (.ireturn, 1) := by decide +kernel
theorem dX6_tokenKind_87 : decode cX6_tokenKind 87 = .ok (.aload_n 0, 1) := by decide +kernel
theorem dX6_tokenKind_88 : decode cX6_tokenKind 88 = .ok (.iload_n 1, 1) := by decide +kernel
theorem dX6_tokenKind_89 : decode cX6_tokenKind 89 = .ok (.invokevirtual 48, 3) := by decide +kernel
theorem dX6_tokenKind_92 : decode cX6_tokenKind 92 = .ok (.bipush 59, 2) := by decide +kernel
theorem dX6_tokenKind_94 : decode cX6_tokenKind 94 = .ok (.if_icmp .ne 7, 3) := by decide +kernel
theorem dX6_tokenKind_97 : decode cX6_tokenKind 97 = .ok (.iconst 3, 1) := by decide +kernel
theorem dX6_tokenKind_98 : decode cX6_tokenKind 98 = .ok (.goto 4, 3) := by decide +kernel
theorem dX6_tokenKind_101 : decode cX6_tokenKind 101 = .ok (.iconst 0, 1) := by decide +kernel
theorem dX6_tokenKind_102 : decode cX6_tokenKind 102 = .ok (.ireturn, 1) := by decide +kernel
theorem dX6_ruleOf_0 : decode cX6_ruleOf 0 = .ok (.getstatic 9, 3) := by decide +kernel
theorem dX6_ruleOf_3 : decode cX6_ruleOf 3 = .ok (.astore_n 3, 1) := by decide +kernel
theorem dX6_ruleOf_4 : decode cX6_ruleOf 4 = .ok (.aload_n 3, 1) := by decide +kernel
theorem dX6_ruleOf_5 : decode cX6_ruleOf 5 = .ok (.arraylength, 1) := by decide +kernel
theorem dX6_ruleOf_6 : decode cX6_ruleOf 6 = .ok (.istore 4, 2) := by decide +kernel
theorem dX6_ruleOf_8 : decode cX6_ruleOf 8 = .ok (.iconst 0, 1) := by decide +kernel
theorem dX6_ruleOf_9 : decode cX6_ruleOf 9 = .ok (.istore 5, 2) := by decide +kernel
theorem dX6_ruleOf_11 : decode cX6_ruleOf 11 = .ok (.iload 5, 2) := by decide +kernel
theorem dX6_ruleOf_13 : decode cX6_ruleOf 13 = .ok (.iload 4, 2) := by decide +kernel
theorem dX6_ruleOf_15 : decode cX6_ruleOf 15 = .ok (.if_icmp .ge 32, 3) := by decide +kernel
theorem dX6_ruleOf_18 : decode cX6_ruleOf 18 = .ok (.aload_n 3, 1) := by decide +kernel
theorem dX6_ruleOf_19 : decode cX6_ruleOf 19 = .ok (.iload 5, 2) := by decide +kernel
theorem dX6_ruleOf_21 : decode cX6_ruleOf 21 = .ok (.aaload, 1) := by decide +kernel
theorem dX6_ruleOf_22 : decode cX6_ruleOf 22 = .ok (.astore 6, 2) := by decide +kernel
theorem dX6_ruleOf_24 : decode cX6_ruleOf 24 = .ok (.aload_n 0, 1) := by decide +kernel
theorem dX6_ruleOf_25 : decode cX6_ruleOf 25 = .ok (.iload_n 1, 1) := by decide +kernel
theorem dX6_ruleOf_26 : decode cX6_ruleOf 26 = .ok (.iload_n 2, 1) := by decide +kernel
theorem dX6_ruleOf_27 : decode cX6_ruleOf 27 = .ok (.aload 6, 2) := by decide +kernel
theorem dX6_ruleOf_29 : decode cX6_ruleOf 29 = .ok (.getfield 120, 3) := by decide +kernel
theorem dX6_ruleOf_32 : decode cX6_ruleOf 32 = .ok (.invokestatic 124, 3) := by decide +kernel
theorem dX6_ruleOf_35 : decode cX6_ruleOf 35 = .ok (.ifCond .eq 6, 3) := by decide +kernel
theorem dX6_ruleOf_38 : decode cX6_ruleOf 38 = .ok (.aload 6, 2) := by decide +kernel
theorem dX6_ruleOf_40 : decode cX6_ruleOf 40 = .ok (.areturn, 1) := by decide +kernel
theorem dX6_ruleOf_41 : decode cX6_ruleOf 41 = .ok (.iinc 5 1, 3) := by decide +kernel
theorem dX6_ruleOf_44 : decode cX6_ruleOf 44 = .ok (.goto (-33), 3) := by decide +kernel
theorem dX6_ruleOf_47 : decode cX6_ruleOf 47 = .ok (.aconst_null, 1) := by decide +kernel
theorem dX6_ruleOf_48 : decode cX6_ruleOf 48 = .ok (.areturn, 1) := by decide +kernel
theorem dX6_spells_0 : decode cX6_spells 0 = .ok (.aload_n 3, 1) := by decide +kernel
theorem dX6_spells_1 : decode cX6_spells 1 = .ok (.invokevirtual 128, 3) := by decide +kernel
theorem dX6_spells_4 : decode cX6_spells 4 = .ok (.iload_n 2, 1) := by decide +kernel
theorem dX6_spells_5 : decode cX6_spells 5 = .ok (.iload_n 1, 1) := by decide +kernel
theorem dX6_spells_6 : decode cX6_spells 6 = .ok (.isub, 1) := by decide +kernel
theorem dX6_spells_7 : decode cX6_spells 7 = .ok (.if_icmp .eq 5, 3) := by decide +kernel
theorem dX6_spells_10 : decode cX6_spells 10 = .ok (.iconst 0, 1) := by decide +kernel
theorem dX6_spells_11 : decode cX6_spells 11 = .ok (.ireturn, 1) := by decide +kernel
theorem dX6_spells_12 : decode cX6_spells 12 = .ok (.iconst 0, 1) := by decide +kernel
theorem dX6_spells_13 : decode cX6_spells 13 = .ok (.istore 4, 2) := by decide +kernel
theorem dX6_spells_15 : decode cX6_spells 15 = .ok (.iload 4, 2) := by decide +kernel
theorem dX6_spells_17 : decode cX6_spells 17 = .ok (.aload_n 3, 1) := by decide +kernel
theorem dX6_spells_18 : decode cX6_spells 18 = .ok (.invokevirtual 128, 3) := by decide +kernel
theorem dX6_spells_21 : decode cX6_spells 21 = .ok (.if_icmp .ge 28, 3) := by decide +kernel
theorem dX6_spells_24 : decode cX6_spells 24 = .ok (.aload_n 0, 1) := by decide +kernel
theorem dX6_spells_25 : decode cX6_spells 25 = .ok (.iload_n 1, 1) := by decide +kernel
theorem dX6_spells_26 : decode cX6_spells 26 = .ok (.iload 4, 2) := by decide +kernel
theorem dX6_spells_28 : decode cX6_spells 28 = .ok (.iadd, 1) := by decide +kernel
theorem dX6_spells_29 : decode cX6_spells 29 = .ok (.invokevirtual 48, 3) := by decide +kernel
theorem dX6_spells_32 : decode cX6_spells 32 = .ok (.aload_n 3, 1) := by decide +kernel
theorem dX6_spells_33 : decode cX6_spells 33 = .ok (.iload 4, 2) := by decide +kernel
theorem dX6_spells_35 : decode cX6_spells 35 = .ok (.invokevirtual 133, 3) := by decide +kernel
theorem dX6_spells_38 : decode cX6_spells 38 = .ok (.if_icmp .eq 5, 3) := by decide +kernel
theorem dX6_spells_41 : decode cX6_spells 41 = .ok (.iconst 0, 1) := by decide +kernel
theorem dX6_spells_42 : decode cX6_spells 42 = .ok (.ireturn, 1) := by decide +kernel
theorem dX6_spells_43 : decode cX6_spells 43 = .ok (.iinc 4 1, 3) := by decide +kernel
theorem dX6_spells_46 : decode cX6_spells 46 = .ok (.goto (-31), 3) := by decide +kernel
theorem dX6_spells_49 : decode cX6_spells 49 = .ok (.iconst 1, 1) := by decide +kernel
theorem dX6_spells_50 : decode cX6_spells 50 = .ok (.ireturn, 1) := by decide +kernel
theorem dX6_isBlank_0 : decode cX6_isBlank 0 = .ok (.iload_n 0, 1) := by decide +kernel
theorem dX6_isBlank_1 : decode cX6_isBlank 1 = .ok (.bipush 32, 2) := by decide +kernel
theorem dX6_isBlank_3 : decode cX6_isBlank 3 = .ok (.if_icmp .eq 9, 3) := by decide +kernel
theorem dX6_isBlank_6 : decode cX6_isBlank 6 = .ok (.iload_n 0, 1) := by decide +kernel
theorem dX6_isBlank_7 : decode cX6_isBlank 7 = .ok (.bipush 10, 2) := by decide +kernel
theorem dX6_isBlank_9 : decode cX6_isBlank 9 = .ok (.if_icmp .ne 7, 3) := by decide +kernel
theorem dX6_isBlank_12 : decode cX6_isBlank 12 = .ok (.iconst 1, 1) := by decide +kernel
theorem dX6_isBlank_13 : decode cX6_isBlank 13 = .ok (.goto 4, 3) := by decide +kernel
theorem dX6_isBlank_16 : decode cX6_isBlank 16 = .ok (.iconst 0, 1) := by decide +kernel
theorem dX6_isBlank_17 : decode cX6_isBlank 17 = .ok (.ireturn, 1) := by decide +kernel
theorem dX6_isLetter_0 : decode cX6_isLetter 0 = .ok (.iload_n 0, 1) := by decide +kernel
theorem dX6_isLetter_1 : decode cX6_isLetter 1 = .ok (.bipush 97, 2) := by decide +kernel
theorem dX6_isLetter_3 : decode cX6_isLetter 3 = .ok (.if_icmp .lt 13, 3) := by decide +kernel
theorem dX6_isLetter_6 : decode cX6_isLetter 6 = .ok (.iload_n 0, 1) := by decide +kernel
theorem dX6_isLetter_7 : decode cX6_isLetter 7 = .ok (.bipush 122, 2) := by decide +kernel
theorem dX6_isLetter_9 : decode cX6_isLetter 9 = .ok (.if_icmp .gt 7, 3) := by decide +kernel
theorem dX6_isLetter_12 : decode cX6_isLetter 12 = .ok (.iconst 1, 1) := by decide +kernel
theorem dX6_isLetter_13 : decode cX6_isLetter 13 = .ok (.goto 4, 3) := by decide +kernel
theorem dX6_isLetter_16 : decode cX6_isLetter 16 = .ok (.iconst 0, 1) := by decide +kernel
theorem dX6_isLetter_17 : decode cX6_isLetter 17 = .ok (.ireturn, 1) := by decide +kernel
theorem dX6_isDigit_0 : decode cX6_isDigit 0 = .ok (.iload_n 0, 1) := by decide +kernel
theorem dX6_isDigit_1 : decode cX6_isDigit 1 = .ok (.bipush 48, 2) := by decide +kernel
theorem dX6_isDigit_3 : decode cX6_isDigit 3 = .ok (.if_icmp .lt 13, 3) := by decide +kernel
theorem dX6_isDigit_6 : decode cX6_isDigit 6 = .ok (.iload_n 0, 1) := by decide +kernel
theorem dX6_isDigit_7 : decode cX6_isDigit 7 = .ok (.bipush 57, 2) := by decide +kernel
theorem dX6_isDigit_9 : decode cX6_isDigit 9 = .ok (.if_icmp .gt 7, 3) := by decide +kernel
theorem dX6_isDigit_12 : decode cX6_isDigit 12 = .ok (.iconst 1, 1) := by decide +kernel
theorem dX6_isDigit_13 : decode cX6_isDigit 13 = .ok (.goto 4, 3) := by decide +kernel
theorem dX6_isDigit_16 : decode cX6_isDigit 16 = .ok (.iconst 0, 1) := by decide +kernel
theorem dX6_isDigit_17 : decode cX6_isDigit 17 = .ok (.ireturn, 1) := by decide +kernel
theorem dX6_isOfWordOrNumber_0 : decode cX6_isOfWordOrNumber 0 = .ok (.iload_n 0, 1) := by decide +kernel
theorem dX6_isOfWordOrNumber_1 : decode cX6_isOfWordOrNumber 1 = .ok (.invokestatic 114, 3) := by decide +kernel
theorem dX6_isOfWordOrNumber_4 : decode cX6_isOfWordOrNumber 4 = .ok (.ifCond .ne 10, 3) := by decide +kernel
theorem dX6_isOfWordOrNumber_7 : decode cX6_isOfWordOrNumber 7 = .ok (.iload_n 0, 1) := by decide +kernel
theorem dX6_isOfWordOrNumber_8 : decode cX6_isOfWordOrNumber 8 = .ok (.invokestatic 117, 3) := by decide +kernel
theorem dX6_isOfWordOrNumber_11 : decode cX6_isOfWordOrNumber 11 = .ok (.ifCond .eq 7, 3) := by decide +kernel
theorem dX6_isOfWordOrNumber_14 : decode cX6_isOfWordOrNumber 14 = .ok (.iconst 1, 1) := by decide +kernel
theorem dX6_isOfWordOrNumber_15 : decode cX6_isOfWordOrNumber 15 = .ok (.goto 4, 3) := by decide +kernel
theorem dX6_isOfWordOrNumber_18 : decode cX6_isOfWordOrNumber 18 = .ok (.iconst 0, 1) := by decide +kernel
theorem dX6_isOfWordOrNumber_19 : decode cX6_isOfWordOrNumber 19 = .ok (.ireturn, 1) := by decide +kernel
theorem dX7_init_0 : decode cX7_init 0 = .ok (.aload_n 0, 1) := by decide +kernel
theorem dX7_init_1 : decode cX7_init 1 = .ok (.invokespecial 3, 3) := by decide +kernel
theorem dX7_init_4 : decode cX7_init 4 = .ok (.aload_n 0, 1) := by decide +kernel
theorem dX7_init_5 : decode cX7_init 5 = .ok (.sipush 140, 3) := by decide +kernel
theorem dX7_init_8 : decode cX7_init 8 = .ok (.newarray .byte, 2) := by decide +kernel
theorem dX7_init_10 : decode cX7_init 10 = .ok (.putfield 11, 3) := by decide +kernel
theorem dX7_init_13 : decode cX7_init 13 = .ok (.return_, 1) := by decide +kernel
theorem dX7_hasRoomFor_0 : decode cX7_hasRoomFor 0 = .ok (.iload_n 1, 1) := by decide +kernel
theorem dX7_hasRoomFor_1 : decode cX7_hasRoomFor 1 = .ok (.sipush 140, 3) := by decide +kernel
theorem dX7_hasRoomFor_4 : decode cX7_hasRoomFor 4 = .ok (.aload_n 0, 1) := by decide +kernel
theorem dX7_hasRoomFor_5 : decode cX7_hasRoomFor 5 = .ok (.getfield 15, 3) := by decide +kernel
theorem dX7_hasRoomFor_8 : decode cX7_hasRoomFor 8 = .ok (.isub, 1) := by decide +kernel
theorem dX7_hasRoomFor_9 : decode cX7_hasRoomFor 9 = .ok (.if_icmp .gt 7, 3) := by decide +kernel
theorem dX7_hasRoomFor_12 : decode cX7_hasRoomFor 12 = .ok (.iconst 1, 1) := by decide +kernel
theorem dX7_hasRoomFor_13 : decode cX7_hasRoomFor 13 = .ok (.goto 4, 3) := by decide +kernel
theorem dX7_hasRoomFor_16 : decode cX7_hasRoomFor 16 = .ok (.iconst 0, 1) := by decide +kernel
theorem dX7_hasRoomFor_17 : decode cX7_hasRoomFor 17 = .ok (.ireturn, 1) := by decide +kernel
theorem dX7_append_0 : decode cX7_append 0 = .ok (.bipush 24, 2) := by decide +kernel
theorem dX7_append_2 : decode cX7_append 2 = .ok (.istore_n 2, 1) := by decide +kernel
theorem dX7_append_3 : decode cX7_append 3 = .ok (.iload_n 2, 1) := by decide +kernel
theorem dX7_append_4 : decode cX7_append 4 = .ok (.ifCond .lt 42, 3) := by decide +kernel
theorem dX7_append_7 : decode cX7_append 7 = .ok (.aload_n 0, 1) := by decide +kernel
theorem dX7_append_8 : decode cX7_append 8 = .ok (.getfield 15, 3) := by decide +kernel
theorem dX7_append_11 : decode cX7_append 11 = .ok (.sipush 140, 3) := by decide +kernel
theorem dX7_append_14 : decode cX7_append 14 = .ok (.if_icmp .ge 32, 3) := by decide +kernel
theorem dX7_append_17 : decode cX7_append 17 = .ok (.aload_n 0, 1) := by decide +kernel
theorem dX7_append_18 : decode cX7_append 18 = .ok (.getfield 11, 3) := by decide +kernel
theorem dX7_append_21 : decode cX7_append 21 = .ok (.aload_n 0, 1) := by decide +kernel
theorem dX7_append_22 : decode cX7_append 22 = .ok (.getfield 15, 3) := by decide +kernel
theorem dX7_append_25 : decode cX7_append 25 = .ok (.iload_n 1, 1) := by decide +kernel
theorem dX7_append_26 : decode cX7_append 26 = .ok (.iload_n 2, 1) := by decide +kernel
theorem dX7_append_27 : decode cX7_append 27 = .ok (.iushr, 1) := by decide +kernel
theorem dX7_append_28 : decode cX7_append 28 = .ok (.i2b, 1) := by decide +kernel
theorem dX7_append_29 : decode cX7_append 29 = .ok (.bastore, 1) := by decide +kernel
theorem dX7_append_30 : decode cX7_append 30 = .ok (.aload_n 0, 1) := by decide +kernel
theorem dX7_append_31 : decode cX7_append 31 = .ok (.dup, 1) := by decide +kernel
theorem dX7_append_32 : decode cX7_append 32 = .ok (.getfield 15, 3) := by decide +kernel
theorem dX7_append_35 : decode cX7_append 35 = .ok (.iconst 1, 1) := by decide +kernel
theorem dX7_append_36 : decode cX7_append 36 = .ok (.iadd, 1) := by decide +kernel
theorem dX7_append_37 : decode cX7_append 37 = .ok (.putfield 15, 3) := by decide +kernel
theorem dX7_append_40 : decode cX7_append 40 = .ok (.iinc 2 (-8), 3) := by decide +kernel
theorem dX7_append_43 : decode cX7_append 43 = .ok (.goto (-40), 3) := by decide +kernel
theorem dX7_append_46 : decode cX7_append 46 = .ok (.return_, 1) := by decide +kernel
theorem dX7_shortenTo_0 : decode cX7_shortenTo 0 = .ok (.iload_n 1, 1) := by decide +kernel
theorem dX7_shortenTo_1 : decode cX7_shortenTo 1 = .ok (.iconst 0, 1) := by decide +kernel
theorem dX7_shortenTo_2 : decode cX7_shortenTo 2 = .ok (.aload_n 0, 1) := by decide +kernel
theorem dX7_shortenTo_3 : decode cX7_shortenTo 3 = .ok (.getfield 15, 3) := by decide +kernel
theorem dX7_shortenTo_6 : decode cX7_shortenTo 6 = .ok (.invokestatic 19, 3) := by decide +kernel
theorem dX7_shortenTo_9 : decode cX7_shortenTo 9 = .ok (.ifCond .ne 5, 3) := by decide +kernel
theorem dX7_shortenTo_12 : decode cX7_shortenTo 12 = .ok (.iconst 0, 1) := by decide +kernel
theorem dX7_shortenTo_13 : decode cX7_shortenTo 13 = .ok (.ireturn, 1) := by decide +kernel
theorem dX7_shortenTo_14 : decode cX7_shortenTo 14 = .ok (.aload_n 0, 1) := by decide +kernel
theorem dX7_shortenTo_15 : decode cX7_shortenTo 15 = .ok (.iload_n 1, 1) := by decide +kernel
theorem dX7_shortenTo_16 : decode cX7_shortenTo 16 = .ok (.putfield 15, 3) := by decide +kernel
theorem dX7_shortenTo_19 : decode cX7_shortenTo 19 = .ok (.iconst 1, 1) := by decide +kernel
theorem dX7_shortenTo_20 : decode cX7_shortenTo 20 = .ok (.ireturn, 1) := by decide +kernel
theorem dX7_at_0 : decode cX7_at 0 = .ok (.iload_n 1, 1) := by decide +kernel
theorem dX7_at_1 : decode cX7_at 1 = .ok (.ifCond .lt 31, 3) := by decide +kernel
theorem dX7_at_4 : decode cX7_at 4 = .ok (.iload_n 1, 1) := by decide +kernel
theorem dX7_at_5 : decode cX7_at 5 = .ok (.aload_n 0, 1) := by decide +kernel
theorem dX7_at_6 : decode cX7_at 6 = .ok (.getfield 15, 3) := by decide +kernel
theorem dX7_at_9 : decode cX7_at 9 = .ok (.if_icmp .ge 23, 3) := by decide +kernel
theorem dX7_at_12 : decode cX7_at 12 = .ok (.iload_n 1, 1) := by decide +kernel
theorem dX7_at_13 : decode cX7_at 13 = .ok (.sipush 140, 3) := by decide +kernel
theorem dX7_at_16 : decode cX7_at 16 = .ok (.if_icmp .ge 16, 3) := by decide +kernel
theorem dX7_at_19 : decode cX7_at 19 = .ok (.aload_n 0, 1) := by decide +kernel
theorem dX7_at_20 : decode cX7_at 20 = .ok (.getfield 11, 3) := by decide +kernel
theorem dX7_at_23 : decode cX7_at 23 = .ok (.iload_n 1, 1) := by decide +kernel
theorem dX7_at_24 : decode cX7_at 24 = .ok (.baload, 1) := by decide +kernel
theorem dX7_at_25 : decode cX7_at 25 = .ok (.sipush 255, 3) := by decide +kernel
theorem dX7_at_28 : decode cX7_at 28 = .ok (.iand, 1) := by decide +kernel
theorem dX7_at_29 : decode cX7_at 29 = .ok (.goto 4, 3) := by decide +kernel
theorem dX7_at_32 : decode cX7_at 32 = .ok (.iconst (-1), 1) := by decide +kernel
theorem dX7_at_33 : decode cX7_at 33 = .ok (.ireturn, 1) := by decide +kernel
theorem dX8_init_0 : decode cX8_init 0 = .ok (.aload_n 0, 1) := by decide +kernel
theorem dX8_init_1 : decode cX8_init 1 = .ok (.invokespecial 3, 3) := by decide +kernel
theorem dX8_init_4 : decode cX8_init 4 = .ok (.aload_n 0, 1) := by decide +kernel
theorem dX8_init_5 : decode cX8_init 5 = .ok (.bipush 28, 2) := by decide +kernel
theorem dX8_init_7 : decode cX8_init 7 = .ok (.newarray .int, 2) := by decide +kernel
theorem dX8_init_9 : decode cX8_init 9 = .ok (.putfield 9, 3) := by decide +kernel
theorem dX8_init_12 : decode cX8_init 12 = .ok (.aload_n 0, 1) := by decide +kernel
theorem dX8_init_13 : decode cX8_init 13 = .ok (.bipush 28, 2) := by decide +kernel
theorem dX8_init_15 : decode cX8_init 15 = .ok (.newarray .int, 2) := by decide +kernel
theorem dX8_init_17 : decode cX8_init 17 = .ok (.putfield 15, 3) := by decide +kernel
theorem dX8_init_20 : decode cX8_init 20 = .ok (.aload_n 0, 1) := by decide +kernel
theorem dX8_init_21 : decode cX8_init 21 = .ok (.bipush 50, 2) := by decide +kernel
theorem dX8_init_23 : decode cX8_init 23 = .ok (.newarray .int, 2) := by decide +kernel
theorem dX8_init_25 : decode cX8_init 25 = .ok (.putfield 18, 3) := by decide +kernel
theorem dX8_init_28 : decode cX8_init 28 = .ok (.aload_n 0, 1) := by decide +kernel
theorem dX8_init_29 : decode cX8_init 29 = .ok (.sipush 1400, 3) := by decide +kernel
theorem dX8_init_32 : decode cX8_init 32 = .ok (.newarray .int, 2) := by decide +kernel
theorem dX8_init_34 : decode cX8_init 34 = .ok (.putfield 21, 3) := by decide +kernel
theorem dX8_init_37 : decode cX8_init 37 = .ok (.aload_n 0, 1) := by decide +kernel
theorem dX8_init_38 : decode cX8_init 38 = .ok (.iload_n 1, 1) := by decide +kernel
theorem dX8_init_39 : decode cX8_init 39 = .ok (.putfield 24, 3) := by decide +kernel
theorem dX8_init_42 : decode cX8_init 42 = .ok (.aload_n 0, 1) := by decide +kernel
theorem dX8_init_43 : decode cX8_init 43 = .ok (.iload_n 1, 1) := by decide +kernel
theorem dX8_init_44 : decode cX8_init 44 = .ok (.putfield 28, 3) := by decide +kernel
theorem dX8_init_47 : decode cX8_init 47 = .ok (.aload_n 0, 1) := by decide +kernel
theorem dX8_init_48 : decode cX8_init 48 = .ok (.iload_n 2, 1) := by decide +kernel
theorem dX8_init_49 : decode cX8_init 49 = .ok (.putfield 31, 3) := by decide +kernel
theorem dX8_init_52 : decode cX8_init 52 = .ok (.aload_n 0, 1) := by decide +kernel
theorem dX8_init_53 : decode cX8_init 53 = .ok (.iload_n 3, 1) := by decide +kernel
theorem dX8_init_54 : decode cX8_init 54 = .ok (.putfield 34, 3) := by decide +kernel
theorem dX8_init_57 : decode cX8_init 57 = .ok (.iload_n 3, 1) := by decide +kernel
theorem dX8_init_58 : decode cX8_init 58 = .ok (.iconst 0, 1) := by decide +kernel
theorem dX8_init_59 : decode cX8_init 59 = .ok (.bipush 49, 2) := by decide +kernel
theorem dX8_init_61 : decode cX8_init 61 = .ok (.invokestatic 37, 3) := by decide +kernel
theorem dX8_init_64 : decode cX8_init 64 = .ok (.ifCond .eq 10, 3) := by decide +kernel
theorem dX8_init_67 : decode cX8_init 67 = .ok (.aload_n 0, 1) := by decide +kernel
theorem dX8_init_68 : decode cX8_init 68 = .ok (.getfield 18, 3) := by decide +kernel
theorem dX8_init_71 : decode cX8_init 71 = .ok (.iload_n 3, 1) := by decide +kernel
theorem dX8_init_72 : decode cX8_init 72 = .ok (.iload_n 2, 1) := by decide +kernel
theorem dX8_init_73 : decode cX8_init 73 = .ok (.iastore, 1) := by decide +kernel
theorem dX8_init_74 : decode cX8_init 74 = .ok (.return_, 1) := by decide +kernel
theorem dX8_heldAsOf_0 : decode cX8_heldAsOf 0 = .ok (.iload_n 1, 1) := by decide +kernel
theorem dX8_heldAsOf_1 : decode cX8_heldAsOf 1 = .ok (.iconst 0, 1) := by decide +kernel
theorem dX8_heldAsOf_2 : decode cX8_heldAsOf 2 = .ok (.bipush 49, 2) := by decide +kernel
theorem dX8_heldAsOf_4 : decode cX8_heldAsOf 4 = .ok (.invokestatic 37, 3) := by decide +kernel
theorem dX8_heldAsOf_7 : decode cX8_heldAsOf 7 = .ok (.ifCond .eq 13, 3) := by decide +kernel
theorem dX8_heldAsOf_10 : decode cX8_heldAsOf 10 = .ok (.iload_n 2, 1) := by decide +kernel
theorem dX8_heldAsOf_11 : decode cX8_heldAsOf 11 = .ok (.iconst 0, 1) := by decide +kernel
theorem dX8_heldAsOf_12 : decode cX8_heldAsOf 12 = .ok (.bipush 27, 2) := by decide +kernel
theorem dX8_heldAsOf_14 : decode cX8_heldAsOf 14 = .ok (.invokestatic 37, 3) := by decide +kernel
theorem dX8_heldAsOf_17 : decode cX8_heldAsOf 17 = .ok (.ifCond .ne 5, 3) := by decide +kernel
theorem dX8_heldAsOf_20 : decode cX8_heldAsOf 20 = .ok (.iconst 0, 1) := by decide +kernel
theorem dX8_heldAsOf_21 : decode cX8_heldAsOf 21 = .ok (.ireturn, 1) := by decide +kernel
theorem dX8_heldAsOf_22 : decode cX8_heldAsOf 22 = .ok (.aload_n 0, 1) := by decide +kernel
theorem dX8_heldAsOf_23 : decode cX8_heldAsOf 23 = .ok (.getfield 21, 3) := by decide +kernel
theorem dX8_heldAsOf_26 : decode cX8_heldAsOf 26 = .ok (.iload_n 1, 1) := by decide +kernel
theorem dX8_heldAsOf_27 : decode cX8_heldAsOf 27 = .ok (.bipush 28, 2) := by decide +kernel
theorem dX8_heldAsOf_29 : decode cX8_heldAsOf 29 = .ok (.imul, 1) := by decide +kernel
theorem dX8_heldAsOf_30 : decode cX8_heldAsOf 30 = .ok (.iload_n 2, 1) := by decide +kernel
theorem dX8_heldAsOf_31 : decode cX8_heldAsOf 31 = .ok (.iadd, 1) := by decide +kernel
theorem dX8_heldAsOf_32 : decode cX8_heldAsOf 32 = .ok (.iaload, 1) := by decide +kernel
theorem dX8_heldAsOf_33 : decode cX8_heldAsOf 33 = .ok (.ireturn, 1) := by decide +kernel
theorem dX8_keepFor_0 : decode cX8_keepFor 0 = .ok (.iload_n 1, 1) := by decide +kernel
theorem dX8_keepFor_1 : decode cX8_keepFor 1 = .ok (.iconst 0, 1) := by decide +kernel
theorem dX8_keepFor_2 : decode cX8_keepFor 2 = .ok (.bipush 49, 2) := by decide +kernel
theorem dX8_keepFor_4 : decode cX8_keepFor 4 = .ok (.invokestatic 37, 3) := by decide +kernel
theorem dX8_keepFor_7 : decode cX8_keepFor 7 = .ok (.ifCond .ne 4, 3) := by decide +kernel
theorem dX8_keepFor_10 : decode cX8_keepFor 10 = .ok (.return_, 1) := by decide +kernel
theorem dX8_keepFor_11 : decode cX8_keepFor 11 = .ok (.iconst 0, 1) := by decide +kernel
theorem dX8_keepFor_12 : decode cX8_keepFor 12 = .ok (.istore_n 2, 1) := by decide +kernel
theorem dX8_keepFor_13 : decode cX8_keepFor 13 = .ok (.iload_n 2, 1) := by decide +kernel
theorem dX8_keepFor_14 : decode cX8_keepFor 14 = .ok (.bipush 28, 2) := by decide +kernel
theorem dX8_keepFor_16 : decode cX8_keepFor 16 = .ok (.if_icmp .ge 33, 3) := by decide +kernel
theorem dX8_keepFor_19 : decode cX8_keepFor 19 = .ok (.aload_n 0, 1) := by decide +kernel
theorem dX8_keepFor_20 : decode cX8_keepFor 20 = .ok (.getfield 9, 3) := by decide +kernel
theorem dX8_keepFor_23 : decode cX8_keepFor 23 = .ok (.iload_n 2, 1) := by decide +kernel
theorem dX8_keepFor_24 : decode cX8_keepFor 24 = .ok (.iconst 0, 1) := by decide +kernel
theorem dX8_keepFor_25 : decode cX8_keepFor 25 = .ok (.iastore, 1) := by decide +kernel
theorem dX8_keepFor_26 : decode cX8_keepFor 26 = .ok (.aload_n 0, 1) := by decide +kernel
theorem dX8_keepFor_27 : decode cX8_keepFor 27 = .ok (.getfield 21, 3) := by decide +kernel
theorem dX8_keepFor_30 : decode cX8_keepFor 30 = .ok (.iload_n 1, 1) := by decide +kernel
theorem dX8_keepFor_31 : decode cX8_keepFor 31 = .ok (.bipush 28, 2) := by decide +kernel
theorem dX8_keepFor_33 : decode cX8_keepFor 33 = .ok (.imul, 1) := by decide +kernel
theorem dX8_keepFor_34 : decode cX8_keepFor 34 = .ok (.iload_n 2, 1) := by decide +kernel
theorem dX8_keepFor_35 : decode cX8_keepFor 35 = .ok (.iadd, 1) := by decide +kernel
theorem dX8_keepFor_36 : decode cX8_keepFor 36 = .ok (.aload_n 0, 1) := by decide +kernel
theorem dX8_keepFor_37 : decode cX8_keepFor 37 = .ok (.getfield 15, 3) := by decide +kernel
theorem dX8_keepFor_40 : decode cX8_keepFor 40 = .ok (.iload_n 2, 1) := by decide +kernel
theorem dX8_keepFor_41 : decode cX8_keepFor 41 = .ok (.iaload, 1) := by decide +kernel
theorem dX8_keepFor_42 : decode cX8_keepFor 42 = .ok (.iastore, 1) := by decide +kernel
theorem dX8_keepFor_43 : decode cX8_keepFor 43 = .ok (.iinc 2 1, 3) := by decide +kernel
theorem dX8_keepFor_46 : decode cX8_keepFor 46 = .ok (.goto (-33), 3) := by decide +kernel
theorem dX8_keepFor_49 : decode cX8_keepFor 49 = .ok (.aload_n 0, 1) := by decide +kernel
theorem dX8_keepFor_50 : decode cX8_keepFor 50 = .ok (.getfield 18, 3) := by decide +kernel
theorem dX8_keepFor_53 : decode cX8_keepFor 53 = .ok (.iload_n 1, 1) := by decide +kernel
theorem dX8_keepFor_54 : decode cX8_keepFor 54 = .ok (.aload_n 0, 1) := by decide +kernel
theorem dX8_keepFor_55 : decode cX8_keepFor 55 = .ok (.getfield 31, 3) := by decide +kernel
theorem dX8_keepFor_58 : decode cX8_keepFor 58 = .ok (.iastore, 1) := by decide +kernel
theorem dX8_keepFor_59 : decode cX8_keepFor 59 = .ok (.return_, 1) := by decide +kernel
theorem dX9_init_0 : decode cX9_init 0 = .ok (.aload_n 0, 1) := by decide +kernel
theorem dX9_init_1 : decode cX9_init 1 = .ok (.invokespecial 3, 3) := by decide +kernel
theorem dX9_init_4 : decode cX9_init 4 = .ok (.aload_n 0, 1) := by decide +kernel
theorem dX9_init_5 : decode cX9_init 5 = .ok (.new 9, 3) := by decide +kernel
theorem dX9_init_8 : decode cX9_init 8 = .ok (.dup, 1) := by decide +kernel
theorem dX9_init_9 : decode cX9_init 9 = .ok (.invokespecial 11, 3) := by decide +kernel
theorem dX9_init_12 : decode cX9_init 12 = .ok (.putfield 12, 3) := by decide +kernel
theorem dX9_init_15 : decode cX9_init 15 = .ok (.aload_n 0, 1) := by decide +kernel
theorem dX9_init_16 : decode cX9_init 16 = .ok (.new 16, 3) := by decide +kernel
theorem dX9_init_19 : decode cX9_init 19 = .ok (.dup, 1) := by decide +kernel
theorem dX9_init_20 : decode cX9_init 20 = .ok (.invokespecial 18, 3) := by decide +kernel
theorem dX9_init_23 : decode cX9_init 23 = .ok (.putfield 19, 3) := by decide +kernel
theorem dX9_init_26 : decode cX9_init 26 = .ok (.aload_n 0, 1) := by decide +kernel
theorem dX9_init_27 : decode cX9_init 27 = .ok (.bipush 10, 2) := by decide +kernel
theorem dX9_init_29 : decode cX9_init 29 = .ok (.anewarray 23, 3) := by decide +kernel
theorem dX9_init_32 : decode cX9_init 32 = .ok (.putfield 25, 3) := by decide +kernel
theorem dX9_init_35 : decode cX9_init 35 = .ok (.aload_n 0, 1) := by decide +kernel
theorem dX9_init_36 : decode cX9_init 36 = .ok (.bipush 24, 2) := by decide +kernel
theorem dX9_init_38 : decode cX9_init 38 = .ok (.anewarray 29, 3) := by decide +kernel
theorem dX9_init_41 : decode cX9_init 41 = .ok (.putfield 31, 3) := by decide +kernel
theorem dX9_init_44 : decode cX9_init 44 = .ok (.aload_n 0, 1) := by decide +kernel
theorem dX9_init_45 : decode cX9_init 45 = .ok (.iconst 4, 1) := by decide +kernel
theorem dX9_init_46 : decode cX9_init 46 = .ok (.anewarray 35, 3) := by decide +kernel
theorem dX9_init_49 : decode cX9_init 49 = .ok (.putfield 37, 3) := by decide +kernel
theorem dX9_init_52 : decode cX9_init 52 = .ok (.aload_n 0, 1) := by decide +kernel
theorem dX9_init_53 : decode cX9_init 53 = .ok (.new 41, 3) := by decide +kernel
theorem dX9_init_56 : decode cX9_init 56 = .ok (.dup, 1) := by decide +kernel
theorem dX9_init_57 : decode cX9_init 57 = .ok (.invokespecial 43, 3) := by decide +kernel
theorem dX9_init_60 : decode cX9_init 60 = .ok (.putfield 44, 3) := by decide +kernel
theorem dX9_init_63 : decode cX9_init 63 = .ok (.return_, 1) := by decide +kernel
theorem dX9_feed_0 : decode cX9_feed 0 = .ok (.aload_n 0, 1) := by decide +kernel
theorem dX9_feed_1 : decode cX9_feed 1 = .ok (.getfield 12, 3) := by decide +kernel
theorem dX9_feed_4 : decode cX9_feed 4 = .ok (.bipush 20, 2) := by decide +kernel
theorem dX9_feed_6 : decode cX9_feed 6 = .ok (.invokevirtual 48, 3) := by decide +kernel
theorem dX9_feed_9 : decode cX9_feed 9 = .ok (.ifCond .ne 5, 3) := by decide +kernel
theorem dX9_feed_12 : decode cX9_feed 12 = .ok (.iconst (-1), 1) := by decide +kernel
theorem dX9_feed_13 : decode cX9_feed 13 = .ok (.ireturn, 1) := by decide +kernel
theorem dX9_feed_14 : decode cX9_feed 14 = .ok (.aload_n 0, 1) := by decide +kernel
theorem dX9_feed_15 : decode cX9_feed 15 = .ok (.getfield 12, 3) := by decide +kernel
theorem dX9_feed_18 : decode cX9_feed 18 = .ok (.iload_n 1, 1) := by decide +kernel
theorem dX9_feed_19 : decode cX9_feed 19 = .ok (.invokevirtual 52, 3) := by decide +kernel
theorem dX9_feed_22 : decode cX9_feed 22 = .ok (.aload_n 0, 1) := by decide +kernel
theorem dX9_feed_23 : decode cX9_feed 23 = .ok (.getfield 12, 3) := by decide +kernel
theorem dX9_feed_26 : decode cX9_feed 26 = .ok (.iload_n 2, 1) := by decide +kernel
theorem dX9_feed_27 : decode cX9_feed 27 = .ok (.invokevirtual 52, 3) := by decide +kernel
theorem dX9_feed_30 : decode cX9_feed 30 = .ok (.aload_n 0, 1) := by decide +kernel
theorem dX9_feed_31 : decode cX9_feed 31 = .ok (.getfield 12, 3) := by decide +kernel
theorem dX9_feed_34 : decode cX9_feed 34 = .ok (.iload_n 3, 1) := by decide +kernel
theorem dX9_feed_35 : decode cX9_feed 35 = .ok (.invokevirtual 52, 3) := by decide +kernel
theorem dX9_feed_38 : decode cX9_feed 38 = .ok (.aload_n 0, 1) := by decide +kernel
theorem dX9_feed_39 : decode cX9_feed 39 = .ok (.getfield 12, 3) := by decide +kernel
theorem dX9_feed_42 : decode cX9_feed 42 = .ok (.iload 4, 2) := by decide +kernel
theorem dX9_feed_44 : decode cX9_feed 44 = .ok (.invokevirtual 52, 3) := by decide +kernel
theorem dX9_feed_47 : decode cX9_feed 47 = .ok (.aload_n 0, 1) := by decide +kernel
theorem dX9_feed_48 : decode cX9_feed 48 = .ok (.getfield 12, 3) := by decide +kernel
theorem dX9_feed_51 : decode cX9_feed 51 = .ok (.iload 5, 2) := by decide +kernel
theorem dX9_feed_53 : decode cX9_feed 53 = .ok (.invokevirtual 52, 3) := by decide +kernel
theorem dX9_feed_56 : decode cX9_feed 56 = .ok (.aload_n 0, 1) := by decide +kernel
theorem dX9_feed_57 : decode cX9_feed 57 = .ok (.getfield 12, 3) := by decide +kernel
theorem dX9_feed_60 : decode cX9_feed 60 = .ok (.getfield 56, 3) := by decide +kernel
theorem dX9_feed_63 : decode cX9_feed 63 = .ok (.ireturn, 1) := by decide +kernel
theorem dX9_end_0 : decode cX9_end 0 = .ok (.aload_n 0, 1) := by decide +kernel
theorem dX9_end_1 : decode cX9_end 1 = .ok (.getfield 12, 3) := by decide +kernel
theorem dX9_end_4 : decode cX9_end 4 = .ok (.iload_n 1, 1) := by decide +kernel
theorem dX9_end_5 : decode cX9_end 5 = .ok (.invokevirtual 60, 3) := by decide +kernel
theorem dX9_end_8 : decode cX9_end 8 = .ok (.ireturn, 1) := by decide +kernel
theorem dX9_rules_0 : decode cX9_rules 0 = .ok (.aload_n 0, 1) := by decide +kernel
theorem dX9_rules_1 : decode cX9_rules 1 = .ok (.getfield 19, 3) := by decide +kernel
theorem dX9_rules_4 : decode cX9_rules 4 = .ok (.aload_n 0, 1) := by decide +kernel
theorem dX9_rules_5 : decode cX9_rules 5 = .ok (.getfield 12, 3) := by decide +kernel
theorem dX9_rules_8 : decode cX9_rules 8 = .ok (.invokevirtual 63, 3) := by decide +kernel
theorem dX9_rules_11 : decode cX9_rules 11 = .ok (.istore_n 1, 1) := by decide +kernel
theorem dX9_rules_12 : decode cX9_rules 12 = .ok (.aload_n 0, 1) := by decide +kernel
theorem dX9_rules_13 : decode cX9_rules 13 = .ok (.getfield 12, 3) := by decide +kernel
theorem dX9_rules_16 : decode cX9_rules 16 = .ok (.iconst 0, 1) := by decide +kernel
theorem dX9_rules_17 : decode cX9_rules 17 = .ok (.invokevirtual 60, 3) := by decide +kernel
theorem dX9_rules_20 : decode cX9_rules 20 = .ok (.pop, 1) := by decide +kernel
theorem dX9_rules_21 : decode cX9_rules 21 = .ok (.iload_n 1, 1) := by decide +kernel
theorem dX9_rules_22 : decode cX9_rules 22 = .ok (.ireturn, 1) := by decide +kernel
theorem dX9_fault_0 : decode cX9_fault 0 = .ok (.aload_n 0, 1) := by decide +kernel
theorem dX9_fault_1 : decode cX9_fault 1 = .ok (.getfield 19, 3) := by decide +kernel
theorem dX9_fault_4 : decode cX9_fault 4 = .ok (.getfield 67, 3) := by decide +kernel
theorem dX9_fault_7 : decode cX9_fault 7 = .ok (.ireturn, 1) := by decide +kernel
theorem dX9_rule_0 : decode cX9_rule 0 = .ok (.iload_n 1, 1) := by decide +kernel
theorem dX9_rule_1 : decode cX9_rule 1 = .ok (.ifCond .lt 27, 3) := by decide +kernel
theorem dX9_rule_4 : decode cX9_rule 4 = .ok (.iload_n 1, 1) := by decide +kernel
theorem dX9_rule_5 : decode cX9_rule 5 = .ok (.aload_n 0, 1) := by decide +kernel
theorem dX9_rule_6 : decode cX9_rule 6 = .ok (.getfield 19, 3) := by decide +kernel
theorem dX9_rule_9 : decode cX9_rule 9 = .ok (.getfield 70, 3) := by decide +kernel
theorem dX9_rule_12 : decode cX9_rule 12 = .ok (.arraylength, 1) := by decide +kernel
theorem dX9_rule_13 : decode cX9_rule 13 = .ok (.if_icmp .ge 15, 3) := by decide +kernel
theorem dX9_rule_16 : decode cX9_rule 16 = .ok (.aload_n 0, 1) := by decide +kernel
theorem dX9_rule_17 : decode cX9_rule 17 = .ok (.getfield 19, 3) := by decide +kernel
theorem dX9_rule_20 : decode cX9_rule 20 = .ok (.getfield 70, 3) := by decide +kernel
theorem dX9_rule_23 : decode cX9_rule 23 = .ok (.iload_n 1, 1) := by decide +kernel
theorem dX9_rule_24 : decode cX9_rule 24 = .ok (.iaload, 1) := by decide +kernel
theorem dX9_rule_25 : decode cX9_rule 25 = .ok (.goto 4, 3) := by decide +kernel
theorem dX9_rule_28 : decode cX9_rule 28 = .ok (.iconst (-1), 1) := by decide +kernel
theorem dX9_rule_29 : decode cX9_rule 29 = .ok (.ireturn, 1) := by decide +kernel
theorem dX9_work_0 : decode cX9_work 0 = .ok (.aload_n 0, 1) := by decide +kernel
theorem dX9_work_1 : decode cX9_work 1 = .ok (.getfield 74, 3) := by decide +kernel
theorem dX9_work_4 : decode cX9_work 4 = .ok (.aload_n 0, 1) := by decide +kernel
theorem dX9_work_5 : decode cX9_work 5 = .ok (.getfield 25, 3) := by decide +kernel
theorem dX9_work_8 : decode cX9_work 8 = .ok (.arraylength, 1) := by decide +kernel
theorem dX9_work_9 : decode cX9_work 9 = .ok (.if_icmp .ge 25, 3) := by decide +kernel
theorem dX9_work_12 : decode cX9_work 12 = .ok (.iload_n 1, 1) := by decide +kernel
theorem dX9_work_13 : decode cX9_work 13 = .ok (.iconst 1, 1) := by decide +kernel
theorem dX9_work_14 : decode cX9_work 14 = .ok (.sipush 1000, 3) := by decide +kernel
theorem dX9_work_17 : decode cX9_work 17 = .ok (.invokestatic 77, 3) := by decide +kernel
theorem dX9_work_20 : decode cX9_work 20 = .ok (.ifCond .eq 14, 3) := by decide +kernel
theorem dX9_work_23 : decode cX9_work 23 = .ok (.iload_n 2, 1) := by decide +kernel
theorem dX9_work_24 : decode cX9_work 24 = .ok (.iconst 1, 1) := by decide +kernel
theorem dX9_work_25 : decode cX9_work 25 = .ok (.sipush 9999, 3) := by decide +kernel
theorem dX9_work_28 : decode cX9_work 28 = .ok (.invokestatic 77, 3) := by decide +kernel
theorem dX9_work_31 : decode cX9_work 31 = .ok (.ifCond .ne 5, 3) := by decide +kernel
theorem dX9_work_34 : decode cX9_work 34 = .ok (.iconst (-1), 1) := by decide +kernel
theorem dX9_work_35 : decode cX9_work 35 = .ok (.ireturn, 1) := by decide +kernel
theorem dX9_work_36 : decode cX9_work 36 = .ok (.aload_n 0, 1) := by decide +kernel
theorem dX9_work_37 : decode cX9_work 37 = .ok (.getfield 25, 3) := by decide +kernel
theorem dX9_work_40 : decode cX9_work 40 = .ok (.aload_n 0, 1) := by decide +kernel
theorem dX9_work_41 : decode cX9_work 41 = .ok (.getfield 74, 3) := by decide +kernel
theorem dX9_work_44 : decode cX9_work 44 = .ok (.new 23, 3) := by decide +kernel
theorem dX9_work_47 : decode cX9_work 47 = .ok (.dup, 1) := by decide +kernel
theorem dX9_work_48 : decode cX9_work 48 = .ok (.iload_n 1, 1) := by decide +kernel
theorem dX9_work_49 : decode cX9_work 49 = .ok (.iload_n 2, 1) := by decide +kernel
theorem dX9_work_50 : decode cX9_work 50 = .ok (.aload_n 0, 1) := by decide +kernel
theorem dX9_work_51 : decode cX9_work 51 = .ok (.getfield 81, 3) := by decide +kernel
theorem dX9_work_54 : decode cX9_work 54 = .ok (.invokespecial 84, 3) := by decide +kernel
theorem dX9_work_57 : decode cX9_work 57 = .ok (.aastore, 1) := by decide +kernel
theorem dX9_work_58 : decode cX9_work 58 = .ok (.aload_n 0, 1) := by decide +kernel
theorem dX9_work_59 : decode cX9_work 59 = .ok (.dup, 1) := by decide +kernel
theorem dX9_work_60 : decode cX9_work 60 = .ok (.getfield 74, 3) := by decide +kernel
theorem dX9_work_63 : decode cX9_work 63 = .ok (.iconst 1, 1) := by decide +kernel
theorem dX9_work_64 : decode cX9_work 64 = .ok (.iadd, 1) := by decide +kernel
theorem dX9_work_65 : decode cX9_work 65 = .ok (.putfield 74, 3) := by decide +kernel
theorem dX9_work_68 : decode cX9_work 68 = .ok (.aload_n 0, 1) := by decide +kernel
theorem dX9_work_69 : decode cX9_work 69 = .ok (.getfield 74, 3) := by decide +kernel
theorem dX9_work_72 : decode cX9_work 72 = .ok (.iconst 1, 1) := by decide +kernel
theorem dX9_work_73 : decode cX9_work 73 = .ok (.isub, 1) := by decide +kernel
theorem dX9_work_74 : decode cX9_work 74 = .ok (.ireturn, 1) := by decide +kernel
theorem dX9_person_0 : decode cX9_person 0 = .ok (.aload_n 0, 1) := by decide +kernel
theorem dX9_person_1 : decode cX9_person 1 = .ok (.getfield 87, 3) := by decide +kernel
theorem dX9_person_4 : decode cX9_person 4 = .ok (.aload_n 0, 1) := by decide +kernel
theorem dX9_person_5 : decode cX9_person 5 = .ok (.getfield 31, 3) := by decide +kernel
theorem dX9_person_8 : decode cX9_person 8 = .ok (.arraylength, 1) := by decide +kernel
theorem dX9_person_9 : decode cX9_person 9 = .ok (.if_icmp .ge 16, 3) := by decide +kernel
theorem dX9_person_12 : decode cX9_person 12 = .ok (.iload_n 1, 1) := by decide +kernel
theorem dX9_person_13 : decode cX9_person 13 = .ok (.iconst (-1), 1) := by decide +kernel
theorem dX9_person_14 : decode cX9_person 14 = .ok (.if_icmp .eq 13, 3) := by decide +kernel
theorem dX9_person_17 : decode cX9_person 17 = .ok (.aload_n 0, 1) := by decide +kernel
theorem dX9_person_18 : decode cX9_person 18 = .ok (.iload_n 1, 1) := by decide +kernel
theorem dX9_person_19 : decode cX9_person 19 = .ok (.invokevirtual 90, 3) := by decide +kernel
theorem dX9_person_22 : decode cX9_person 22 = .ok (.ifnonnull 5, 3) := by decide +kernel
theorem dX9_person_25 : decode cX9_person 25 = .ok (.iconst (-1), 1) := by decide +kernel
theorem dX9_person_26 : decode cX9_person 26 = .ok (.ireturn, 1) := by decide +kernel
theorem dX9_person_27 : decode cX9_person 27 = .ok (.aload_n 0, 1) := by decide +kernel
theorem dX9_person_28 : decode cX9_person 28 = .ok (.getfield 31, 3) := by decide +kernel
theorem dX9_person_31 : decode cX9_person 31 = .ok (.aload_n 0, 1) := by decide +kernel
theorem dX9_person_32 : decode cX9_person 32 = .ok (.getfield 87, 3) := by decide +kernel
theorem dX9_person_35 : decode cX9_person 35 = .ok (.new 29, 3) := by decide +kernel
theorem dX9_person_38 : decode cX9_person 38 = .ok (.dup, 1) := by decide +kernel
theorem dX9_person_39 : decode cX9_person 39 = .ok (.iload_n 1, 1) := by decide +kernel
theorem dX9_person_40 : decode cX9_person 40 = .ok (.invokespecial 94, 3) := by decide +kernel
theorem dX9_person_43 : decode cX9_person 43 = .ok (.aastore, 1) := by decide +kernel
theorem dX9_person_44 : decode cX9_person 44 = .ok (.aload_n 0, 1) := by decide +kernel
theorem dX9_person_45 : decode cX9_person 45 = .ok (.dup, 1) := by decide +kernel
theorem dX9_person_46 : decode cX9_person 46 = .ok (.getfield 87, 3) := by decide +kernel
theorem dX9_person_49 : decode cX9_person 49 = .ok (.iconst 1, 1) := by decide +kernel
theorem dX9_person_50 : decode cX9_person 50 = .ok (.iadd, 1) := by decide +kernel
theorem dX9_person_51 : decode cX9_person 51 = .ok (.putfield 87, 3) := by decide +kernel
theorem dX9_person_54 : decode cX9_person 54 = .ok (.aload_n 0, 1) := by decide +kernel
theorem dX9_person_55 : decode cX9_person 55 = .ok (.getfield 87, 3) := by decide +kernel
theorem dX9_person_58 : decode cX9_person 58 = .ok (.iconst 1, 1) := by decide +kernel
theorem dX9_person_59 : decode cX9_person 59 = .ok (.isub, 1) := by decide +kernel
theorem dX9_person_60 : decode cX9_person 60 = .ok (.ireturn, 1) := by decide +kernel
theorem dX9_fund_0 : decode cX9_fund 0 = .ok (.aload_n 0, 1) := by decide +kernel
theorem dX9_fund_1 : decode cX9_fund 1 = .ok (.getfield 96, 3) := by decide +kernel
theorem dX9_fund_4 : decode cX9_fund 4 = .ok (.aload_n 0, 1) := by decide +kernel
theorem dX9_fund_5 : decode cX9_fund 5 = .ok (.getfield 37, 3) := by decide +kernel
theorem dX9_fund_8 : decode cX9_fund 8 = .ok (.arraylength, 1) := by decide +kernel
theorem dX9_fund_9 : decode cX9_fund 9 = .ok (.if_icmp .ge 14, 3) := by decide +kernel
theorem dX9_fund_12 : decode cX9_fund 12 = .ok (.iload_n 1, 1) := by decide +kernel
theorem dX9_fund_13 : decode cX9_fund 13 = .ok (.iconst 0, 1) := by decide +kernel
theorem dX9_fund_14 : decode cX9_fund 14 = .ok (.sipush 500, 3) := by decide +kernel
theorem dX9_fund_17 : decode cX9_fund 17 = .ok (.invokestatic 77, 3) := by decide +kernel
theorem dX9_fund_20 : decode cX9_fund 20 = .ok (.ifCond .ne 5, 3) := by decide +kernel
theorem dX9_fund_23 : decode cX9_fund 23 = .ok (.iconst (-1), 1) := by decide +kernel
theorem dX9_fund_24 : decode cX9_fund 24 = .ok (.ireturn, 1) := by decide +kernel
theorem dX9_fund_25 : decode cX9_fund 25 = .ok (.aload_n 0, 1) := by decide +kernel
theorem dX9_fund_26 : decode cX9_fund 26 = .ok (.getfield 37, 3) := by decide +kernel
theorem dX9_fund_29 : decode cX9_fund 29 = .ok (.aload_n 0, 1) := by decide +kernel
theorem dX9_fund_30 : decode cX9_fund 30 = .ok (.getfield 96, 3) := by decide +kernel
theorem dX9_fund_33 : decode cX9_fund 33 = .ok (.new 35, 3) := by decide +kernel
theorem dX9_fund_36 : decode cX9_fund 36 = .ok (.dup, 1) := by decide +kernel
theorem dX9_fund_37 : decode cX9_fund 37 = .ok (.iload_n 1, 1) := by decide +kernel
theorem dX9_fund_38 : decode cX9_fund 38 = .ok (.invokespecial 99, 3) := by decide +kernel
theorem dX9_fund_41 : decode cX9_fund 41 = .ok (.aastore, 1) := by decide +kernel
theorem dX9_fund_42 : decode cX9_fund 42 = .ok (.aload_n 0, 1) := by decide +kernel
theorem dX9_fund_43 : decode cX9_fund 43 = .ok (.dup, 1) := by decide +kernel
theorem dX9_fund_44 : decode cX9_fund 44 = .ok (.getfield 96, 3) := by decide +kernel
theorem dX9_fund_47 : decode cX9_fund 47 = .ok (.iconst 1, 1) := by decide +kernel
theorem dX9_fund_48 : decode cX9_fund 48 = .ok (.iadd, 1) := by decide +kernel
theorem dX9_fund_49 : decode cX9_fund 49 = .ok (.putfield 96, 3) := by decide +kernel
theorem dX9_fund_52 : decode cX9_fund 52 = .ok (.bipush 24, 2) := by decide +kernel
theorem dX9_fund_54 : decode cX9_fund 54 = .ok (.aload_n 0, 1) := by decide +kernel
theorem dX9_fund_55 : decode cX9_fund 55 = .ok (.getfield 96, 3) := by decide +kernel
theorem dX9_fund_58 : decode cX9_fund 58 = .ok (.iadd, 1) := by decide +kernel
theorem dX9_fund_59 : decode cX9_fund 59 = .ok (.iconst 1, 1) := by decide +kernel
theorem dX9_fund_60 : decode cX9_fund 60 = .ok (.isub, 1) := by decide +kernel
theorem dX9_fund_61 : decode cX9_fund 61 = .ok (.ireturn, 1) := by decide +kernel
theorem dX9_give_0 : decode cX9_give 0 = .ok (.aload_n 0, 1) := by decide +kernel
theorem dX9_give_1 : decode cX9_give 1 = .ok (.iload_n 1, 1) := by decide +kernel
theorem dX9_give_2 : decode cX9_give 2 = .ok (.invokevirtual 100, 3) := by decide +kernel
theorem dX9_give_5 : decode cX9_give 5 = .ok (.astore 4, 2) := by decide +kernel
theorem dX9_give_7 : decode cX9_give 7 = .ok (.aload_n 0, 1) := by decide +kernel
theorem dX9_give_8 : decode cX9_give 8 = .ok (.iload_n 2, 1) := by decide +kernel
theorem dX9_give_9 : decode cX9_give 9 = .ok (.invokevirtual 104, 3) := by decide +kernel
theorem dX9_give_12 : decode cX9_give 12 = .ok (.astore 5, 2) := by decide +kernel
theorem dX9_give_14 : decode cX9_give 14 = .ok (.aload 4, 2) := by decide +kernel
theorem dX9_give_16 : decode cX9_give 16 = .ok (.ifnull 20, 3) := by decide +kernel
theorem dX9_give_19 : decode cX9_give 19 = .ok (.aload 5, 2) := by decide +kernel
theorem dX9_give_21 : decode cX9_give 21 = .ok (.ifnull 15, 3) := by decide +kernel
theorem dX9_give_24 : decode cX9_give 24 = .ok (.aload_n 0, 1) := by decide +kernel
theorem dX9_give_25 : decode cX9_give 25 = .ok (.getfield 81, 3) := by decide +kernel
theorem dX9_give_28 : decode cX9_give 28 = .ok (.ifCond .ne 8, 3) := by decide +kernel
theorem dX9_give_31 : decode cX9_give 31 = .ok (.iload_n 3, 1) := by decide +kernel
theorem dX9_give_32 : decode cX9_give 32 = .ok (.iconst 1, 1) := by decide +kernel
theorem dX9_give_33 : decode cX9_give 33 = .ok (.if_icmp .ge 5, 3) := by decide +kernel
theorem dX9_give_36 : decode cX9_give 36 = .ok (.iconst (-1), 1) := by decide +kernel
theorem dX9_give_37 : decode cX9_give 37 = .ok (.ireturn, 1) := by decide +kernel
theorem dX9_give_38 : decode cX9_give 38 = .ok (.iload_n 3, 1) := by decide +kernel
theorem dX9_give_39 : decode cX9_give 39 = .ok (.aload 4, 2) := by decide +kernel
theorem dX9_give_41 : decode cX9_give 41 = .ok (.getfield 108, 3) := by decide +kernel
theorem dX9_give_44 : decode cX9_give 44 = .ok (.aload_n 0, 1) := by decide +kernel
theorem dX9_give_45 : decode cX9_give 45 = .ok (.iload_n 1, 1) := by decide +kernel
theorem dX9_give_46 : decode cX9_give 46 = .ok (.invokevirtual 111, 3) := by decide +kernel
theorem dX9_give_49 : decode cX9_give 49 = .ok (.isub, 1) := by decide +kernel
theorem dX9_give_50 : decode cX9_give 50 = .ok (.if_icmp .le 5, 3) := by decide +kernel
theorem dX9_give_53 : decode cX9_give 53 = .ok (.iconst (-1), 1) := by decide +kernel
theorem dX9_give_54 : decode cX9_give 54 = .ok (.ireturn, 1) := by decide +kernel
theorem dX9_give_55 : decode cX9_give 55 = .ok (.aload 4, 2) := by decide +kernel
theorem dX9_give_57 : decode cX9_give 57 = .ok (.dup, 1) := by decide +kernel
theorem dX9_give_58 : decode cX9_give 58 = .ok (.getfield 108, 3) := by decide +kernel
theorem dX9_give_61 : decode cX9_give 61 = .ok (.iload_n 3, 1) := by decide +kernel
theorem dX9_give_62 : decode cX9_give 62 = .ok (.isub, 1) := by decide +kernel
theorem dX9_give_63 : decode cX9_give 63 = .ok (.putfield 108, 3) := by decide +kernel
theorem dX9_give_66 : decode cX9_give 66 = .ok (.aload 5, 2) := by decide +kernel
theorem dX9_give_68 : decode cX9_give 68 = .ok (.dup, 1) := by decide +kernel
theorem dX9_give_69 : decode cX9_give 69 = .ok (.getfield 115, 3) := by decide +kernel
theorem dX9_give_72 : decode cX9_give 72 = .ok (.iload_n 3, 1) := by decide +kernel
theorem dX9_give_73 : decode cX9_give 73 = .ok (.iadd, 1) := by decide +kernel
theorem dX9_give_74 : decode cX9_give 74 = .ok (.putfield 115, 3) := by decide +kernel
theorem dX9_give_77 : decode cX9_give 77 = .ok (.aload 5, 2) := by decide +kernel
theorem dX9_give_79 : decode cX9_give 79 = .ok (.dup, 1) := by decide +kernel
theorem dX9_give_80 : decode cX9_give 80 = .ok (.getfield 116, 3) := by decide +kernel
theorem dX9_give_83 : decode cX9_give 83 = .ok (.iload_n 3, 1) := by decide +kernel
theorem dX9_give_84 : decode cX9_give 84 = .ok (.iadd, 1) := by decide +kernel
theorem dX9_give_85 : decode cX9_give 85 = .ok (.putfield 116, 3) := by decide +kernel
theorem dX9_give_88 : decode cX9_give 88 = .ok (.aload 5, 2) := by decide +kernel
theorem dX9_give_90 : decode cX9_give 90 = .ok (.getfield 119, 3) := by decide +kernel
theorem dX9_give_93 : decode cX9_give 93 = .ok (.iload_n 1, 1) := by decide +kernel
theorem dX9_give_94 : decode cX9_give 94 = .ok (.dup2, 1) := by decide +kernel
theorem dX9_give_95 : decode cX9_give 95 = .ok (.iaload, 1) := by decide +kernel
theorem dX9_give_96 : decode cX9_give 96 = .ok (.iload_n 3, 1) := by decide +kernel
theorem dX9_give_97 : decode cX9_give 97 = .ok (.iadd, 1) := by decide +kernel
theorem dX9_give_98 : decode cX9_give 98 = .ok (.iastore, 1) := by decide +kernel
theorem dX9_give_99 : decode cX9_give 99 = .ok (.aload 5, 2) := by decide +kernel
theorem dX9_give_101 : decode cX9_give 101 = .ok (.getfield 119, 3) := by decide +kernel
theorem dX9_give_104 : decode cX9_give 104 = .ok (.iload_n 1, 1) := by decide +kernel
theorem dX9_give_105 : decode cX9_give 105 = .ok (.iaload, 1) := by decide +kernel
theorem dX9_give_106 : decode cX9_give 106 = .ok (.ireturn, 1) := by decide +kernel
theorem dX9_bid_0 : decode cX9_bid 0 = .ok (.aload_n 0, 1) := by decide +kernel
theorem dX9_bid_1 : decode cX9_bid 1 = .ok (.iload_n 1, 1) := by decide +kernel
theorem dX9_bid_2 : decode cX9_bid 2 = .ok (.invokevirtual 122, 3) := by decide +kernel
theorem dX9_bid_5 : decode cX9_bid 5 = .ok (.astore 4, 2) := by decide +kernel
theorem dX9_bid_7 : decode cX9_bid 7 = .ok (.aload_n 0, 1) := by decide +kernel
theorem dX9_bid_8 : decode cX9_bid 8 = .ok (.iload_n 2, 1) := by decide +kernel
theorem dX9_bid_9 : decode cX9_bid 9 = .ok (.invokevirtual 90, 3) := by decide +kernel
theorem dX9_bid_12 : decode cX9_bid 12 = .ok (.astore 5, 2) := by decide +kernel
theorem dX9_bid_14 : decode cX9_bid 14 = .ok (.aload 4, 2) := by decide +kernel
theorem dX9_bid_16 : decode cX9_bid 16 = .ok (.ifnull 19, 3) := by decide +kernel
theorem dX9_bid_19 : decode cX9_bid 19 = .ok (.aload 5, 2) := by decide +kernel
theorem dX9_bid_21 : decode cX9_bid 21 = .ok (.ifnull 14, 3) := by decide +kernel
theorem dX9_bid_24 : decode cX9_bid 24 = .ok (.iload_n 3, 1) := by decide +kernel
theorem dX9_bid_25 : decode cX9_bid 25 = .ok (.iconst 0, 1) := by decide +kernel
theorem dX9_bid_26 : decode cX9_bid 26 = .ok (.sipush 1000, 3) := by decide +kernel
theorem dX9_bid_29 : decode cX9_bid 29 = .ok (.invokestatic 77, 3) := by decide +kernel
theorem dX9_bid_32 : decode cX9_bid 32 = .ok (.ifCond .ne 5, 3) := by decide +kernel
theorem dX9_bid_35 : decode cX9_bid 35 = .ok (.iconst (-1), 1) := by decide +kernel
theorem dX9_bid_36 : decode cX9_bid 36 = .ok (.ireturn, 1) := by decide +kernel
theorem dX9_bid_37 : decode cX9_bid 37 = .ok (.aload_n 0, 1) := by decide +kernel
theorem dX9_bid_38 : decode cX9_bid 38 = .ok (.iload_n 1, 1) := by decide +kernel
theorem dX9_bid_39 : decode cX9_bid 39 = .ok (.invokevirtual 111, 3) := by decide +kernel
theorem dX9_bid_42 : decode cX9_bid 42 = .ok (.iload_n 3, 1) := by decide +kernel
theorem dX9_bid_43 : decode cX9_bid 43 = .ok (.aload 5, 2) := by decide +kernel
theorem dX9_bid_45 : decode cX9_bid 45 = .ok (.getfield 126, 3) := by decide +kernel
theorem dX9_bid_48 : decode cX9_bid 48 = .ok (.iload_n 1, 1) := by decide +kernel
theorem dX9_bid_49 : decode cX9_bid 49 = .ok (.iaload, 1) := by decide +kernel
theorem dX9_bid_50 : decode cX9_bid 50 = .ok (.isub, 1) := by decide +kernel
theorem dX9_bid_51 : decode cX9_bid 51 = .ok (.aload 5, 2) := by decide +kernel
theorem dX9_bid_53 : decode cX9_bid 53 = .ok (.getfield 129, 3) := by decide +kernel
theorem dX9_bid_56 : decode cX9_bid 56 = .ok (.imul, 1) := by decide +kernel
theorem dX9_bid_57 : decode cX9_bid 57 = .ok (.iadd, 1) := by decide +kernel
theorem dX9_bid_58 : decode cX9_bid 58 = .ok (.istore 6, 2) := by decide +kernel
theorem dX9_bid_60 : decode cX9_bid 60 = .ok (.iload 6, 2) := by decide +kernel
theorem dX9_bid_62 : decode cX9_bid 62 = .ok (.aload 4, 2) := by decide +kernel
theorem dX9_bid_64 : decode cX9_bid 64 = .ok (.getfield 132, 3) := by decide +kernel
theorem dX9_bid_67 : decode cX9_bid 67 = .ok (.if_icmp .le 5, 3) := by decide +kernel
theorem dX9_bid_70 : decode cX9_bid 70 = .ok (.iconst (-1), 1) := by decide +kernel
theorem dX9_bid_71 : decode cX9_bid 71 = .ok (.ireturn, 1) := by decide +kernel
theorem dX9_bid_72 : decode cX9_bid 72 = .ok (.aload 5, 2) := by decide +kernel
theorem dX9_bid_74 : decode cX9_bid 74 = .ok (.getfield 126, 3) := by decide +kernel
theorem dX9_bid_77 : decode cX9_bid 77 = .ok (.iload_n 1, 1) := by decide +kernel
theorem dX9_bid_78 : decode cX9_bid 78 = .ok (.iload_n 3, 1) := by decide +kernel
theorem dX9_bid_79 : decode cX9_bid 79 = .ok (.iastore, 1) := by decide +kernel
theorem dX9_bid_80 : decode cX9_bid 80 = .ok (.iload 6, 2) := by decide +kernel
theorem dX9_bid_82 : decode cX9_bid 82 = .ok (.ireturn, 1) := by decide +kernel
theorem dX9_close_0 : decode cX9_close 0 = .ok (.aload_n 0, 1) := by decide +kernel
theorem dX9_close_1 : decode cX9_close 1 = .ok (.getfield 81, 3) := by decide +kernel
theorem dX9_close_4 : decode cX9_close 4 = .ok (.bipush 49, 2) := by decide +kernel
theorem dX9_close_6 : decode cX9_close 6 = .ok (.if_icmp .lt 5, 3) := by decide +kernel
theorem dX9_close_9 : decode cX9_close 9 = .ok (.iconst (-1), 1) := by decide +kernel
theorem dX9_close_10 : decode cX9_close 10 = .ok (.ireturn, 1) := by decide +kernel
theorem dX9_close_11 : decode cX9_close 11 = .ok (.iconst 0, 1) := by decide +kernel
theorem dX9_close_12 : decode cX9_close 12 = .ok (.istore_n 1, 1) := by decide +kernel
theorem dX9_close_13 : decode cX9_close 13 = .ok (.iconst 0, 1) := by decide +kernel
theorem dX9_close_14 : decode cX9_close 14 = .ok (.istore_n 2, 1) := by decide +kernel
theorem dX9_close_15 : decode cX9_close 15 = .ok (.iload_n 2, 1) := by decide +kernel
theorem dX9_close_16 : decode cX9_close 16 = .ok (.aload_n 0, 1) := by decide +kernel
theorem dX9_close_17 : decode cX9_close 17 = .ok (.getfield 74, 3) := by decide +kernel
theorem dX9_close_20 : decode cX9_close 20 = .ok (.if_icmp .ge 17, 3) := by decide +kernel
theorem dX9_close_23 : decode cX9_close 23 = .ok (.iload_n 1, 1) := by decide +kernel
theorem dX9_close_24 : decode cX9_close 24 = .ok (.aload_n 0, 1) := by decide +kernel
end
section
theorem dX9_close_25 : decode cX9_close 25 = .ok (.iload_n 2, 1) := by decide +kernel
theorem dX9_close_26 : decode cX9_close 26 = .ok (.invokevirtual 135, 3) := by decide +kernel
theorem dX9_close_29 : decode cX9_close 29 = .ok (.iadd, 1) := by decide +kernel
theorem dX9_close_30 : decode cX9_close 30 = .ok (.istore_n 1, 1) := by decide +kernel
theorem dX9_close_31 : decode cX9_close 31 = .ok (.iinc 2 1, 3) := by decide +kernel
theorem dX9_close_34 : decode cX9_close 34 = .ok (.goto (-19), 3) := by decide +kernel
theorem dX9_close_37 : decode cX9_close 37 = .ok (.aload_n 0, 1) := by decide +kernel
theorem dX9_close_38 : decode cX9_close 38 = .ok (.dup, 1) := by decide +kernel
theorem dX9_close_39 : decode cX9_close 39 = .ok (.getfield 81, 3) := by decide +kernel
theorem dX9_close_42 : decode cX9_close 42 = .ok (.iconst 1, 1) := by decide +kernel
theorem dX9_close_43 : decode cX9_close 43 = .ok (.iadd, 1) := by decide +kernel
theorem dX9_close_44 : decode cX9_close 44 = .ok (.putfield 81, 3) := by decide +kernel
theorem dX9_close_47 : decode cX9_close 47 = .ok (.aload_n 0, 1) := by decide +kernel
theorem dX9_close_48 : decode cX9_close 48 = .ok (.dup, 1) := by decide +kernel
theorem dX9_close_49 : decode cX9_close 49 = .ok (.getfield 138, 3) := by decide +kernel
theorem dX9_close_52 : decode cX9_close 52 = .ok (.iload_n 1, 1) := by decide +kernel
theorem dX9_close_53 : decode cX9_close 53 = .ok (.iadd, 1) := by decide +kernel
theorem dX9_close_54 : decode cX9_close 54 = .ok (.putfield 138, 3) := by decide +kernel
theorem dX9_close_57 : decode cX9_close 57 = .ok (.iload_n 1, 1) := by decide +kernel
theorem dX9_close_58 : decode cX9_close 58 = .ok (.ireturn, 1) := by decide +kernel
theorem dX9_about_0 : decode cX9_about 0 = .ok (.aload_n 0, 1) := by decide +kernel
theorem dX9_about_1 : decode cX9_about 1 = .ok (.iload_n 1, 1) := by decide +kernel
theorem dX9_about_2 : decode cX9_about 2 = .ok (.invokevirtual 90, 3) := by decide +kernel
theorem dX9_about_5 : decode cX9_about 5 = .ok (.astore_n 3, 1) := by decide +kernel
theorem dX9_about_6 : decode cX9_about 6 = .ok (.aload_n 3, 1) := by decide +kernel
theorem dX9_about_7 : decode cX9_about 7 = .ok (.ifnonnull 5, 3) := by decide +kernel
theorem dX9_about_10 : decode cX9_about 10 = .ok (.iconst (-1), 1) := by decide +kernel
theorem dX9_about_11 : decode cX9_about 11 = .ok (.ireturn, 1) := by decide +kernel
theorem dX9_about_12 : decode cX9_about 12 = .ok (.iload_n 2, 1) := by decide +kernel
theorem dX9_about_13 : decode cX9_about 13 = .ok (.tableswitch 54 0 3 #[31, 36, 41, 46], 31) := by decide +kernel
theorem dX9_about_44 : decode cX9_about 44 = .ok (.aload_n 3, 1) := by decide +kernel
theorem dX9_about_45 : decode cX9_about 45 = .ok (.getfield 141, 3) := by decide +kernel
theorem dX9_about_48 : decode cX9_about 48 = .ok (.ireturn, 1) := by decide +kernel
theorem dX9_about_49 : decode cX9_about 49 = .ok (.aload_n 3, 1) := by decide +kernel
theorem dX9_about_50 : decode cX9_about 50 = .ok (.getfield 144, 3) := by decide +kernel
theorem dX9_about_53 : decode cX9_about 53 = .ok (.ireturn, 1) := by decide +kernel
theorem dX9_about_54 : decode cX9_about 54 = .ok (.aload_n 3, 1) := by decide +kernel
theorem dX9_about_55 : decode cX9_about 55 = .ok (.getfield 129, 3) := by decide +kernel
theorem dX9_about_58 : decode cX9_about 58 = .ok (.ireturn, 1) := by decide +kernel
theorem dX9_about_59 : decode cX9_about 59 = .ok (.aload_n 3, 1) := by decide +kernel
theorem dX9_about_60 : decode cX9_about 60 = .ok (.getfield 126, 3) := by decide +kernel
theorem dX9_about_63 : decode cX9_about 63 = .ok (.invokestatic 147, 3) := by decide +kernel
theorem dX9_about_66 : decode cX9_about 66 = .ok (.ireturn, 1) := by decide +kernel
theorem dX9_about_67 : decode cX9_about 67 = .ok (.iconst (-1), 1) := by decide +kernel
theorem dX9_about_68 : decode cX9_about 68 = .ok (.ireturn, 1) := by decide +kernel
theorem dX9_price_0 : decode cX9_price 0 = .ok (.aload_n 0, 1) := by decide +kernel
theorem dX9_price_1 : decode cX9_price 1 = .ok (.iload_n 1, 1) := by decide +kernel
theorem dX9_price_2 : decode cX9_price 2 = .ok (.invokevirtual 90, 3) := by decide +kernel
theorem dX9_price_5 : decode cX9_price 5 = .ok (.astore_n 3, 1) := by decide +kernel
theorem dX9_price_6 : decode cX9_price 6 = .ok (.aload_n 3, 1) := by decide +kernel
theorem dX9_price_7 : decode cX9_price 7 = .ok (.ifnull 18, 3) := by decide +kernel
theorem dX9_price_10 : decode cX9_price 10 = .ok (.iload_n 2, 1) := by decide +kernel
theorem dX9_price_11 : decode cX9_price 11 = .ok (.aload_n 3, 1) := by decide +kernel
theorem dX9_price_12 : decode cX9_price 12 = .ok (.getfield 151, 3) := by decide +kernel
theorem dX9_price_15 : decode cX9_price 15 = .ok (.aload_n 0, 1) := by decide +kernel
theorem dX9_price_16 : decode cX9_price 16 = .ok (.getfield 81, 3) := by decide +kernel
theorem dX9_price_19 : decode cX9_price 19 = .ok (.invokestatic 77, 3) := by decide +kernel
theorem dX9_price_22 : decode cX9_price 22 = .ok (.ifCond .ne 5, 3) := by decide +kernel
theorem dX9_price_25 : decode cX9_price 25 = .ok (.iconst (-1), 1) := by decide +kernel
theorem dX9_price_26 : decode cX9_price 26 = .ok (.ireturn, 1) := by decide +kernel
theorem dX9_price_27 : decode cX9_price 27 = .ok (.aload_n 3, 1) := by decide +kernel
theorem dX9_price_28 : decode cX9_price 28 = .ok (.getfield 154, 3) := by decide +kernel
theorem dX9_price_31 : decode cX9_price 31 = .ok (.iload_n 2, 1) := by decide +kernel
theorem dX9_price_32 : decode cX9_price 32 = .ok (.iaload, 1) := by decide +kernel
theorem dX9_price_33 : decode cX9_price 33 = .ok (.ireturn, 1) := by decide +kernel
theorem dX9_purse_0 : decode cX9_purse 0 = .ok (.aload_n 0, 1) := by decide +kernel
theorem dX9_purse_1 : decode cX9_purse 1 = .ok (.iload_n 1, 1) := by decide +kernel
theorem dX9_purse_2 : decode cX9_purse 2 = .ok (.invokevirtual 122, 3) := by decide +kernel
theorem dX9_purse_5 : decode cX9_purse 5 = .ok (.astore_n 3, 1) := by decide +kernel
theorem dX9_purse_6 : decode cX9_purse 6 = .ok (.aload_n 3, 1) := by decide +kernel
theorem dX9_purse_7 : decode cX9_purse 7 = .ok (.ifnull 12, 3) := by decide +kernel
theorem dX9_purse_10 : decode cX9_purse 10 = .ok (.iload_n 2, 1) := by decide +kernel
theorem dX9_purse_11 : decode cX9_purse 11 = .ok (.iconst 0, 1) := by decide +kernel
theorem dX9_purse_12 : decode cX9_purse 12 = .ok (.iconst 4, 1) := by decide +kernel
theorem dX9_purse_13 : decode cX9_purse 13 = .ok (.invokestatic 77, 3) := by decide +kernel
theorem dX9_purse_16 : decode cX9_purse 16 = .ok (.ifCond .ne 11, 3) := by decide +kernel
theorem dX9_purse_19 : decode cX9_purse 19 = .ok (.new 157, 3) := by decide +kernel
theorem dX9_purse_22 : decode cX9_purse 22 = .ok (.dup, 1) := by decide +kernel
theorem dX9_purse_23 : decode cX9_purse 23 = .ok (.invokespecial 159, 3) := by decide +kernel
theorem dX9_purse_26 : decode cX9_purse 26 = .ok (.athrow, 1) := by decide +kernel
theorem dX9_purse_27 : decode cX9_purse 27 = .ok (.aload_n 0, 1) := by decide +kernel
theorem dX9_purse_28 : decode cX9_purse 28 = .ok (.iload_n 1, 1) := by decide +kernel
theorem dX9_purse_29 : decode cX9_purse 29 = .ok (.invokevirtual 104, 3) := by decide +kernel
theorem dX9_purse_32 : decode cX9_purse 32 = .ok (.astore 4, 2) := by decide +kernel
theorem dX9_purse_34 : decode cX9_purse 34 = .ok (.iload_n 2, 1) := by decide +kernel
theorem dX9_purse_35 : decode cX9_purse 35 = .ok (.tableswitch 80 0 3 #[29, 34, 40, 55], 29) := by decide +kernel
theorem dX9_purse_64 : decode cX9_purse 64 = .ok (.aload_n 3, 1) := by decide +kernel
theorem dX9_purse_65 : decode cX9_purse 65 = .ok (.getfield 132, 3) := by decide +kernel
theorem dX9_purse_68 : decode cX9_purse 68 = .ok (.ireturn, 1) := by decide +kernel
theorem dX9_purse_69 : decode cX9_purse 69 = .ok (.aload_n 0, 1) := by decide +kernel
theorem dX9_purse_70 : decode cX9_purse 70 = .ok (.iload_n 1, 1) := by decide +kernel
theorem dX9_purse_71 : decode cX9_purse 71 = .ok (.invokevirtual 111, 3) := by decide +kernel
theorem dX9_purse_74 : decode cX9_purse 74 = .ok (.ireturn, 1) := by decide +kernel
theorem dX9_purse_75 : decode cX9_purse 75 = .ok (.aload 4, 2) := by decide +kernel
theorem dX9_purse_77 : decode cX9_purse 77 = .ok (.ifnonnull 7, 3) := by decide +kernel
theorem dX9_purse_80 : decode cX9_purse 80 = .ok (.iconst (-1), 1) := by decide +kernel
theorem dX9_purse_81 : decode cX9_purse 81 = .ok (.goto 8, 3) := by decide +kernel
theorem dX9_purse_84 : decode cX9_purse 84 = .ok (.aload 4, 2) := by decide +kernel
theorem dX9_purse_86 : decode cX9_purse 86 = .ok (.getfield 116, 3) := by decide +kernel
theorem dX9_purse_89 : decode cX9_purse 89 = .ok (.ireturn, 1) := by decide +kernel
theorem dX9_purse_90 : decode cX9_purse 90 = .ok (.aload 4, 2) := by decide +kernel
theorem dX9_purse_92 : decode cX9_purse 92 = .ok (.ifnonnull 7, 3) := by decide +kernel
theorem dX9_purse_95 : decode cX9_purse 95 = .ok (.iconst (-1), 1) := by decide +kernel
theorem dX9_purse_96 : decode cX9_purse 96 = .ok (.goto 18, 3) := by decide +kernel
theorem dX9_purse_99 : decode cX9_purse 99 = .ok (.aload_n 0, 1) := by decide +kernel
theorem dX9_purse_100 : decode cX9_purse 100 = .ok (.aload 4, 2) := by decide +kernel
theorem dX9_purse_102 : decode cX9_purse 102 = .ok (.iload_n 1, 1) := by decide +kernel
theorem dX9_purse_103 : decode cX9_purse 103 = .ok (.invokevirtual 160, 3) := by decide +kernel
theorem dX9_purse_106 : decode cX9_purse 106 = .ok (.ifCond .eq 7, 3) := by decide +kernel
theorem dX9_purse_109 : decode cX9_purse 109 = .ok (.iconst 1, 1) := by decide +kernel
theorem dX9_purse_110 : decode cX9_purse 110 = .ok (.goto 4, 3) := by decide +kernel
theorem dX9_purse_113 : decode cX9_purse 113 = .ok (.iconst 0, 1) := by decide +kernel
theorem dX9_purse_114 : decode cX9_purse 114 = .ok (.ireturn, 1) := by decide +kernel
theorem dX9_purse_115 : decode cX9_purse 115 = .ok (.aload_n 0, 1) := by decide +kernel
theorem dX9_purse_116 : decode cX9_purse 116 = .ok (.iload_n 1, 1) := by decide +kernel
theorem dX9_purse_117 : decode cX9_purse 117 = .ok (.invokevirtual 164, 3) := by decide +kernel
theorem dX9_purse_120 : decode cX9_purse 120 = .ok (.ireturn, 1) := by decide +kernel
theorem dX9_holds_0 : decode cX9_holds 0 = .ok (.aload_n 0, 1) := by decide +kernel
theorem dX9_holds_1 : decode cX9_holds 1 = .ok (.iload_n 2, 1) := by decide +kernel
theorem dX9_holds_2 : decode cX9_holds 2 = .ok (.invokevirtual 90, 3) := by decide +kernel
theorem dX9_holds_5 : decode cX9_holds 5 = .ok (.astore 4, 2) := by decide +kernel
theorem dX9_holds_7 : decode cX9_holds 7 = .ok (.aload_n 0, 1) := by decide +kernel
theorem dX9_holds_8 : decode cX9_holds 8 = .ok (.iload_n 1, 1) := by decide +kernel
theorem dX9_holds_9 : decode cX9_holds 9 = .ok (.invokevirtual 122, 3) := by decide +kernel
theorem dX9_holds_12 : decode cX9_holds 12 = .ok (.ifnull 20, 3) := by decide +kernel
theorem dX9_holds_15 : decode cX9_holds 15 = .ok (.aload 4, 2) := by decide +kernel
theorem dX9_holds_17 : decode cX9_holds 17 = .ok (.ifnull 15, 3) := by decide +kernel
theorem dX9_holds_20 : decode cX9_holds 20 = .ok (.iload_n 3, 1) := by decide +kernel
theorem dX9_holds_21 : decode cX9_holds 21 = .ok (.iconst 0, 1) := by decide +kernel
theorem dX9_holds_22 : decode cX9_holds 22 = .ok (.aload_n 0, 1) := by decide +kernel
theorem dX9_holds_23 : decode cX9_holds 23 = .ok (.getfield 81, 3) := by decide +kernel
theorem dX9_holds_26 : decode cX9_holds 26 = .ok (.invokestatic 77, 3) := by decide +kernel
theorem dX9_holds_29 : decode cX9_holds 29 = .ok (.ifCond .ne 5, 3) := by decide +kernel
theorem dX9_holds_32 : decode cX9_holds 32 = .ok (.iconst (-1), 1) := by decide +kernel
theorem dX9_holds_33 : decode cX9_holds 33 = .ok (.ireturn, 1) := by decide +kernel
theorem dX9_holds_34 : decode cX9_holds 34 = .ok (.aload 4, 2) := by decide +kernel
theorem dX9_holds_36 : decode cX9_holds 36 = .ok (.iload_n 3, 1) := by decide +kernel
theorem dX9_holds_37 : decode cX9_holds 37 = .ok (.iload_n 1, 1) := by decide +kernel
theorem dX9_holds_38 : decode cX9_holds 38 = .ok (.invokevirtual 167, 3) := by decide +kernel
theorem dX9_holds_41 : decode cX9_holds 41 = .ok (.ireturn, 1) := by decide +kernel
theorem dX9_asks_0 : decode cX9_asks 0 = .ok (.aload_n 0, 1) := by decide +kernel
theorem dX9_asks_1 : decode cX9_asks 1 = .ok (.iload_n 2, 1) := by decide +kernel
theorem dX9_asks_2 : decode cX9_asks 2 = .ok (.invokevirtual 90, 3) := by decide +kernel
theorem dX9_asks_5 : decode cX9_asks 5 = .ok (.astore_n 3, 1) := by decide +kernel
theorem dX9_asks_6 : decode cX9_asks 6 = .ok (.aload_n 0, 1) := by decide +kernel
theorem dX9_asks_7 : decode cX9_asks 7 = .ok (.iload_n 1, 1) := by decide +kernel
theorem dX9_asks_8 : decode cX9_asks 8 = .ok (.invokevirtual 122, 3) := by decide +kernel
theorem dX9_asks_11 : decode cX9_asks 11 = .ok (.ifnull 7, 3) := by decide +kernel
theorem dX9_asks_14 : decode cX9_asks 14 = .ok (.aload_n 3, 1) := by decide +kernel
theorem dX9_asks_15 : decode cX9_asks 15 = .ok (.ifnonnull 5, 3) := by decide +kernel
theorem dX9_asks_18 : decode cX9_asks 18 = .ok (.iconst (-1), 1) := by decide +kernel
theorem dX9_asks_19 : decode cX9_asks 19 = .ok (.ireturn, 1) := by decide +kernel
theorem dX9_asks_20 : decode cX9_asks 20 = .ok (.aload_n 3, 1) := by decide +kernel
theorem dX9_asks_21 : decode cX9_asks 21 = .ok (.getfield 126, 3) := by decide +kernel
theorem dX9_asks_24 : decode cX9_asks 24 = .ok (.iload_n 1, 1) := by decide +kernel
theorem dX9_asks_25 : decode cX9_asks 25 = .ok (.iaload, 1) := by decide +kernel
theorem dX9_asks_26 : decode cX9_asks 26 = .ok (.ireturn, 1) := by decide +kernel
theorem dX9_owned_0 : decode cX9_owned 0 = .ok (.aload_n 0, 1) := by decide +kernel
theorem dX9_owned_1 : decode cX9_owned 1 = .ok (.iload_n 2, 1) := by decide +kernel
theorem dX9_owned_2 : decode cX9_owned 2 = .ok (.invokevirtual 90, 3) := by decide +kernel
theorem dX9_owned_5 : decode cX9_owned 5 = .ok (.astore 5, 2) := by decide +kernel
theorem dX9_owned_7 : decode cX9_owned 7 = .ok (.aload_n 0, 1) := by decide +kernel
theorem dX9_owned_8 : decode cX9_owned 8 = .ok (.iload_n 1, 1) := by decide +kernel
theorem dX9_owned_9 : decode cX9_owned 9 = .ok (.invokevirtual 100, 3) := by decide +kernel
theorem dX9_owned_12 : decode cX9_owned 12 = .ok (.ifnull 30, 3) := by decide +kernel
theorem dX9_owned_15 : decode cX9_owned 15 = .ok (.aload 5, 2) := by decide +kernel
theorem dX9_owned_17 : decode cX9_owned 17 = .ok (.ifnull 25, 3) := by decide +kernel
theorem dX9_owned_20 : decode cX9_owned 20 = .ok (.iload_n 3, 1) := by decide +kernel
theorem dX9_owned_21 : decode cX9_owned 21 = .ok (.iconst 0, 1) := by decide +kernel
theorem dX9_owned_22 : decode cX9_owned 22 = .ok (.aload_n 0, 1) := by decide +kernel
theorem dX9_owned_23 : decode cX9_owned 23 = .ok (.getfield 81, 3) := by decide +kernel
theorem dX9_owned_26 : decode cX9_owned 26 = .ok (.invokestatic 77, 3) := by decide +kernel
theorem dX9_owned_29 : decode cX9_owned 29 = .ok (.ifCond .eq 13, 3) := by decide +kernel
theorem dX9_owned_32 : decode cX9_owned 32 = .ok (.iload 4, 2) := by decide +kernel
theorem dX9_owned_34 : decode cX9_owned 34 = .ok (.iconst 0, 1) := by decide +kernel
theorem dX9_owned_35 : decode cX9_owned 35 = .ok (.iconst 1, 1) := by decide +kernel
theorem dX9_owned_36 : decode cX9_owned 36 = .ok (.invokestatic 77, 3) := by decide +kernel
theorem dX9_owned_39 : decode cX9_owned 39 = .ok (.ifCond .ne 11, 3) := by decide +kernel
theorem dX9_owned_42 : decode cX9_owned 42 = .ok (.new 157, 3) := by decide +kernel
theorem dX9_owned_45 : decode cX9_owned 45 = .ok (.dup, 1) := by decide +kernel
theorem dX9_owned_46 : decode cX9_owned 46 = .ok (.invokespecial 159, 3) := by decide +kernel
theorem dX9_owned_49 : decode cX9_owned 49 = .ok (.athrow, 1) := by decide +kernel
theorem dX9_owned_50 : decode cX9_owned 50 = .ok (.aload_n 0, 1) := by decide +kernel
theorem dX9_owned_51 : decode cX9_owned 51 = .ok (.iload_n 1, 1) := by decide +kernel
theorem dX9_owned_52 : decode cX9_owned 52 = .ok (.aload 5, 2) := by decide +kernel
theorem dX9_owned_54 : decode cX9_owned 54 = .ok (.iload_n 3, 1) := by decide +kernel
theorem dX9_owned_55 : decode cX9_owned 55 = .ok (.invokevirtual 171, 3) := by decide +kernel
theorem dX9_owned_58 : decode cX9_owned 58 = .ok (.astore 6, 2) := by decide +kernel
theorem dX9_owned_60 : decode cX9_owned 60 = .ok (.iload 4, 2) := by decide +kernel
theorem dX9_owned_62 : decode cX9_owned 62 = .ok (.ifCond .ne 11, 3) := by decide +kernel
theorem dX9_owned_65 : decode cX9_owned 65 = .ok (.aload 6, 2) := by decide +kernel
theorem dX9_owned_67 : decode cX9_owned 67 = .ok (.getfield 175, 3) := by decide +kernel
theorem dX9_owned_70 : decode cX9_owned 70 = .ok (.goto 8, 3) := by decide +kernel
theorem dX9_owned_73 : decode cX9_owned 73 = .ok (.aload 6, 2) := by decide +kernel
theorem dX9_owned_75 : decode cX9_owned 75 = .ok (.getfield 181, 3) := by decide +kernel
theorem dX9_owned_78 : decode cX9_owned 78 = .ok (.lreturn, 1) := by decide +kernel
theorem dX9_count_0 : decode cX9_count 0 = .ok (.iload_n 1, 1) := by decide +kernel
theorem dX9_count_1 : decode cX9_count 1 = .ok (.tableswitch 72 0 5 #[39, 44, 49, 54, 59, 64], 39) := by decide +kernel
theorem dX9_count_40 : decode cX9_count 40 = .ok (.aload_n 0, 1) := by decide +kernel
theorem dX9_count_41 : decode cX9_count 41 = .ok (.getfield 81, 3) := by decide +kernel
theorem dX9_count_44 : decode cX9_count 44 = .ok (.ireturn, 1) := by decide +kernel
theorem dX9_count_45 : decode cX9_count 45 = .ok (.aload_n 0, 1) := by decide +kernel
theorem dX9_count_46 : decode cX9_count 46 = .ok (.getfield 74, 3) := by decide +kernel
theorem dX9_count_49 : decode cX9_count 49 = .ok (.ireturn, 1) := by decide +kernel
theorem dX9_count_50 : decode cX9_count 50 = .ok (.aload_n 0, 1) := by decide +kernel
theorem dX9_count_51 : decode cX9_count 51 = .ok (.getfield 87, 3) := by decide +kernel
theorem dX9_count_54 : decode cX9_count 54 = .ok (.ireturn, 1) := by decide +kernel
theorem dX9_count_55 : decode cX9_count 55 = .ok (.aload_n 0, 1) := by decide +kernel
theorem dX9_count_56 : decode cX9_count 56 = .ok (.getfield 96, 3) := by decide +kernel
theorem dX9_count_59 : decode cX9_count 59 = .ok (.ireturn, 1) := by decide +kernel
theorem dX9_count_60 : decode cX9_count 60 = .ok (.aload_n 0, 1) := by decide +kernel
theorem dX9_count_61 : decode cX9_count 61 = .ok (.getfield 138, 3) := by decide +kernel
theorem dX9_count_64 : decode cX9_count 64 = .ok (.ireturn, 1) := by decide +kernel
theorem dX9_count_65 : decode cX9_count 65 = .ok (.aload_n 0, 1) := by decide +kernel
theorem dX9_count_66 : decode cX9_count 66 = .ok (.getfield 12, 3) := by decide +kernel
theorem dX9_count_69 : decode cX9_count 69 = .ok (.getfield 56, 3) := by decide +kernel
theorem dX9_count_72 : decode cX9_count 72 = .ok (.ireturn, 1) := by decide +kernel
theorem dX9_count_73 : decode cX9_count 73 = .ok (.iconst (-1), 1) := by decide +kernel
theorem dX9_count_74 : decode cX9_count 74 = .ok (.ireturn, 1) := by decide +kernel
theorem dX9_workAt_0 : decode cX9_workAt 0 = .ok (.iload_n 1, 1) := by decide +kernel
theorem dX9_workAt_1 : decode cX9_workAt 1 = .ok (.ifCond .lt 29, 3) := by decide +kernel
theorem dX9_workAt_4 : decode cX9_workAt 4 = .ok (.iload_n 1, 1) := by decide +kernel
theorem dX9_workAt_5 : decode cX9_workAt 5 = .ok (.aload_n 0, 1) := by decide +kernel
theorem dX9_workAt_6 : decode cX9_workAt 6 = .ok (.getfield 74, 3) := by decide +kernel
theorem dX9_workAt_9 : decode cX9_workAt 9 = .ok (.if_icmp .ge 21, 3) := by decide +kernel
theorem dX9_workAt_12 : decode cX9_workAt 12 = .ok (.iload_n 1, 1) := by decide +kernel
theorem dX9_workAt_13 : decode cX9_workAt 13 = .ok (.aload_n 0, 1) := by decide +kernel
theorem dX9_workAt_14 : decode cX9_workAt 14 = .ok (.getfield 25, 3) := by decide +kernel
theorem dX9_workAt_17 : decode cX9_workAt 17 = .ok (.arraylength, 1) := by decide +kernel
theorem dX9_workAt_18 : decode cX9_workAt 18 = .ok (.if_icmp .ge 12, 3) := by decide +kernel
theorem dX9_workAt_21 : decode cX9_workAt 21 = .ok (.aload_n 0, 1) := by decide +kernel
theorem dX9_workAt_22 : decode cX9_workAt 22 = .ok (.getfield 25, 3) := by decide +kernel
theorem dX9_workAt_25 : decode cX9_workAt 25 = .ok (.iload_n 1, 1) := by decide +kernel
theorem dX9_workAt_26 : decode cX9_workAt 26 = .ok (.aaload, 1) := by decide +kernel
theorem dX9_workAt_27 : decode cX9_workAt 27 = .ok (.goto 4, 3) := by decide +kernel
theorem dX9_workAt_30 : decode cX9_workAt 30 = .ok (.aconst_null, 1) := by decide +kernel
theorem dX9_workAt_31 : decode cX9_workAt 31 = .ok (.areturn, 1) := by decide +kernel
theorem dX9_personAt_0 : decode cX9_personAt 0 = .ok (.iload_n 1, 1) := by decide +kernel
theorem dX9_personAt_1 : decode cX9_personAt 1 = .ok (.ifCond .lt 29, 3) := by decide +kernel
theorem dX9_personAt_4 : decode cX9_personAt 4 = .ok (.iload_n 1, 1) := by decide +kernel
theorem dX9_personAt_5 : decode cX9_personAt 5 = .ok (.aload_n 0, 1) := by decide +kernel
theorem dX9_personAt_6 : decode cX9_personAt 6 = .ok (.getfield 87, 3) := by decide +kernel
theorem dX9_personAt_9 : decode cX9_personAt 9 = .ok (.if_icmp .ge 21, 3) := by decide +kernel
theorem dX9_personAt_12 : decode cX9_personAt 12 = .ok (.iload_n 1, 1) := by decide +kernel
theorem dX9_personAt_13 : decode cX9_personAt 13 = .ok (.aload_n 0, 1) := by decide +kernel
theorem dX9_personAt_14 : decode cX9_personAt 14 = .ok (.getfield 31, 3) := by decide +kernel
theorem dX9_personAt_17 : decode cX9_personAt 17 = .ok (.arraylength, 1) := by decide +kernel
theorem dX9_personAt_18 : decode cX9_personAt 18 = .ok (.if_icmp .ge 12, 3) := by decide +kernel
theorem dX9_personAt_21 : decode cX9_personAt 21 = .ok (.aload_n 0, 1) := by decide +kernel
theorem dX9_personAt_22 : decode cX9_personAt 22 = .ok (.getfield 31, 3) := by decide +kernel
theorem dX9_personAt_25 : decode cX9_personAt 25 = .ok (.iload_n 1, 1) := by decide +kernel
theorem dX9_personAt_26 : decode cX9_personAt 26 = .ok (.aaload, 1) := by decide +kernel
theorem dX9_personAt_27 : decode cX9_personAt 27 = .ok (.goto 4, 3) := by decide +kernel
theorem dX9_personAt_30 : decode cX9_personAt 30 = .ok (.aconst_null, 1) := by decide +kernel
theorem dX9_personAt_31 : decode cX9_personAt 31 = .ok (.areturn, 1) := by decide +kernel
theorem dX9_fundAt_0 : decode cX9_fundAt 0 = .ok (.iload_n 1, 1) := by decide +kernel
theorem dX9_fundAt_1 : decode cX9_fundAt 1 = .ok (.bipush 24, 2) := by decide +kernel
theorem dX9_fundAt_3 : decode cX9_fundAt 3 = .ok (.bipush 27, 2) := by decide +kernel
theorem dX9_fundAt_5 : decode cX9_fundAt 5 = .ok (.invokestatic 77, 3) := by decide +kernel
theorem dX9_fundAt_8 : decode cX9_fundAt 8 = .ok (.ifCond .ne 5, 3) := by decide +kernel
theorem dX9_fundAt_11 : decode cX9_fundAt 11 = .ok (.aconst_null, 1) := by decide +kernel
theorem dX9_fundAt_12 : decode cX9_fundAt 12 = .ok (.areturn, 1) := by decide +kernel
theorem dX9_fundAt_13 : decode cX9_fundAt 13 = .ok (.iload_n 1, 1) := by decide +kernel
theorem dX9_fundAt_14 : decode cX9_fundAt 14 = .ok (.bipush 24, 2) := by decide +kernel
theorem dX9_fundAt_16 : decode cX9_fundAt 16 = .ok (.isub, 1) := by decide +kernel
theorem dX9_fundAt_17 : decode cX9_fundAt 17 = .ok (.istore_n 2, 1) := by decide +kernel
theorem dX9_fundAt_18 : decode cX9_fundAt 18 = .ok (.iload_n 2, 1) := by decide +kernel
theorem dX9_fundAt_19 : decode cX9_fundAt 19 = .ok (.aload_n 0, 1) := by decide +kernel
theorem dX9_fundAt_20 : decode cX9_fundAt 20 = .ok (.getfield 96, 3) := by decide +kernel
theorem dX9_fundAt_23 : decode cX9_fundAt 23 = .ok (.if_icmp .ge 21, 3) := by decide +kernel
theorem dX9_fundAt_26 : decode cX9_fundAt 26 = .ok (.iload_n 2, 1) := by decide +kernel
theorem dX9_fundAt_27 : decode cX9_fundAt 27 = .ok (.aload_n 0, 1) := by decide +kernel
theorem dX9_fundAt_28 : decode cX9_fundAt 28 = .ok (.getfield 37, 3) := by decide +kernel
theorem dX9_fundAt_31 : decode cX9_fundAt 31 = .ok (.arraylength, 1) := by decide +kernel
theorem dX9_fundAt_32 : decode cX9_fundAt 32 = .ok (.if_icmp .ge 12, 3) := by decide +kernel
theorem dX9_fundAt_35 : decode cX9_fundAt 35 = .ok (.aload_n 0, 1) := by decide +kernel
theorem dX9_fundAt_36 : decode cX9_fundAt 36 = .ok (.getfield 37, 3) := by decide +kernel
theorem dX9_fundAt_39 : decode cX9_fundAt 39 = .ok (.iload_n 2, 1) := by decide +kernel
theorem dX9_fundAt_40 : decode cX9_fundAt 40 = .ok (.aaload, 1) := by decide +kernel
theorem dX9_fundAt_41 : decode cX9_fundAt 41 = .ok (.goto 4, 3) := by decide +kernel
theorem dX9_fundAt_44 : decode cX9_fundAt 44 = .ok (.aconst_null, 1) := by decide +kernel
theorem dX9_fundAt_45 : decode cX9_fundAt 45 = .ok (.areturn, 1) := by decide +kernel
theorem dX9_bidderAt_0 : decode cX9_bidderAt 0 = .ok (.aload_n 0, 1) := by decide +kernel
theorem dX9_bidderAt_1 : decode cX9_bidderAt 1 = .ok (.iload_n 1, 1) := by decide +kernel
theorem dX9_bidderAt_2 : decode cX9_bidderAt 2 = .ok (.invokevirtual 100, 3) := by decide +kernel
theorem dX9_bidderAt_5 : decode cX9_bidderAt 5 = .ok (.astore_n 2, 1) := by decide +kernel
theorem dX9_bidderAt_6 : decode cX9_bidderAt 6 = .ok (.aload_n 2, 1) := by decide +kernel
theorem dX9_bidderAt_7 : decode cX9_bidderAt 7 = .ok (.ifnull 5, 3) := by decide +kernel
theorem dX9_bidderAt_10 : decode cX9_bidderAt 10 = .ok (.aload_n 2, 1) := by decide +kernel
theorem dX9_bidderAt_11 : decode cX9_bidderAt 11 = .ok (.areturn, 1) := by decide +kernel
theorem dX9_bidderAt_12 : decode cX9_bidderAt 12 = .ok (.aload_n 0, 1) := by decide +kernel
theorem dX9_bidderAt_13 : decode cX9_bidderAt 13 = .ok (.iload_n 1, 1) := by decide +kernel
theorem dX9_bidderAt_14 : decode cX9_bidderAt 14 = .ok (.invokevirtual 104, 3) := by decide +kernel
theorem dX9_bidderAt_17 : decode cX9_bidderAt 17 = .ok (.areturn, 1) := by decide +kernel
theorem dX9_costOfBids_0 : decode cX9_costOfBids 0 = .ok (.iconst 0, 1) := by decide +kernel
theorem dX9_costOfBids_1 : decode cX9_costOfBids 1 = .ok (.istore_n 2, 1) := by decide +kernel
theorem dX9_costOfBids_2 : decode cX9_costOfBids 2 = .ok (.iconst 0, 1) := by decide +kernel
theorem dX9_costOfBids_3 : decode cX9_costOfBids 3 = .ok (.istore_n 3, 1) := by decide +kernel
theorem dX9_costOfBids_4 : decode cX9_costOfBids 4 = .ok (.iload_n 3, 1) := by decide +kernel
theorem dX9_costOfBids_5 : decode cX9_costOfBids 5 = .ok (.aload_n 0, 1) := by decide +kernel
theorem dX9_costOfBids_6 : decode cX9_costOfBids 6 = .ok (.getfield 74, 3) := by decide +kernel
theorem dX9_costOfBids_9 : decode cX9_costOfBids 9 = .ok (.if_icmp .ge 41, 3) := by decide +kernel
theorem dX9_costOfBids_12 : decode cX9_costOfBids 12 = .ok (.aload_n 0, 1) := by decide +kernel
theorem dX9_costOfBids_13 : decode cX9_costOfBids 13 = .ok (.iload_n 3, 1) := by decide +kernel
theorem dX9_costOfBids_14 : decode cX9_costOfBids 14 = .ok (.invokevirtual 90, 3) := by decide +kernel
theorem dX9_costOfBids_17 : decode cX9_costOfBids 17 = .ok (.astore 4, 2) := by decide +kernel
theorem dX9_costOfBids_19 : decode cX9_costOfBids 19 = .ok (.iload_n 2, 1) := by decide +kernel
theorem dX9_costOfBids_20 : decode cX9_costOfBids 20 = .ok (.aload 4, 2) := by decide +kernel
theorem dX9_costOfBids_22 : decode cX9_costOfBids 22 = .ok (.ifnonnull 7, 3) := by decide +kernel
theorem dX9_costOfBids_25 : decode cX9_costOfBids 25 = .ok (.iconst 0, 1) := by decide +kernel
theorem dX9_costOfBids_26 : decode cX9_costOfBids 26 = .ok (.goto 16, 3) := by decide +kernel
theorem dX9_costOfBids_29 : decode cX9_costOfBids 29 = .ok (.aload 4, 2) := by decide +kernel
theorem dX9_costOfBids_31 : decode cX9_costOfBids 31 = .ok (.getfield 126, 3) := by decide +kernel
theorem dX9_costOfBids_34 : decode cX9_costOfBids 34 = .ok (.iload_n 1, 1) := by decide +kernel
theorem dX9_costOfBids_35 : decode cX9_costOfBids 35 = .ok (.iaload, 1) := by decide +kernel
theorem dX9_costOfBids_36 : decode cX9_costOfBids 36 = .ok (.aload 4, 2) := by decide +kernel
theorem dX9_costOfBids_38 : decode cX9_costOfBids 38 = .ok (.getfield 129, 3) := by decide +kernel
theorem dX9_costOfBids_41 : decode cX9_costOfBids 41 = .ok (.imul, 1) := by decide +kernel
theorem dX9_costOfBids_42 : decode cX9_costOfBids 42 = .ok (.iadd, 1) := by decide +kernel
theorem dX9_costOfBids_43 : decode cX9_costOfBids 43 = .ok (.istore_n 2, 1) := by decide +kernel
theorem dX9_costOfBids_44 : decode cX9_costOfBids 44 = .ok (.iinc 3 1, 3) := by decide +kernel
theorem dX9_costOfBids_47 : decode cX9_costOfBids 47 = .ok (.goto (-43), 3) := by decide +kernel
theorem dX9_costOfBids_50 : decode cX9_costOfBids 50 = .ok (.iload_n 2, 1) := by decide +kernel
theorem dX9_costOfBids_51 : decode cX9_costOfBids 51 = .ok (.ireturn, 1) := by decide +kernel
theorem dX9_sharesHeldBy_0 : decode cX9_sharesHeldBy 0 = .ok (.iconst 0, 1) := by decide +kernel
theorem dX9_sharesHeldBy_1 : decode cX9_sharesHeldBy 1 = .ok (.istore_n 2, 1) := by decide +kernel
theorem dX9_sharesHeldBy_2 : decode cX9_sharesHeldBy 2 = .ok (.iconst 0, 1) := by decide +kernel
theorem dX9_sharesHeldBy_3 : decode cX9_sharesHeldBy 3 = .ok (.istore_n 3, 1) := by decide +kernel
theorem dX9_sharesHeldBy_4 : decode cX9_sharesHeldBy 4 = .ok (.iload_n 3, 1) := by decide +kernel
theorem dX9_sharesHeldBy_5 : decode cX9_sharesHeldBy 5 = .ok (.aload_n 0, 1) := by decide +kernel
theorem dX9_sharesHeldBy_6 : decode cX9_sharesHeldBy 6 = .ok (.getfield 74, 3) := by decide +kernel
theorem dX9_sharesHeldBy_9 : decode cX9_sharesHeldBy 9 = .ok (.if_icmp .ge 35, 3) := by decide +kernel
theorem dX9_sharesHeldBy_12 : decode cX9_sharesHeldBy 12 = .ok (.aload_n 0, 1) := by decide +kernel
theorem dX9_sharesHeldBy_13 : decode cX9_sharesHeldBy 13 = .ok (.iload_n 3, 1) := by decide +kernel
theorem dX9_sharesHeldBy_14 : decode cX9_sharesHeldBy 14 = .ok (.invokevirtual 90, 3) := by decide +kernel
theorem dX9_sharesHeldBy_17 : decode cX9_sharesHeldBy 17 = .ok (.astore 4, 2) := by decide +kernel
theorem dX9_sharesHeldBy_19 : decode cX9_sharesHeldBy 19 = .ok (.iload_n 2, 1) := by decide +kernel
theorem dX9_sharesHeldBy_20 : decode cX9_sharesHeldBy 20 = .ok (.aload 4, 2) := by decide +kernel
theorem dX9_sharesHeldBy_22 : decode cX9_sharesHeldBy 22 = .ok (.ifnonnull 7, 3) := by decide +kernel
theorem dX9_sharesHeldBy_25 : decode cX9_sharesHeldBy 25 = .ok (.iconst 0, 1) := by decide +kernel
theorem dX9_sharesHeldBy_26 : decode cX9_sharesHeldBy 26 = .ok (.goto 10, 3) := by decide +kernel
theorem dX9_sharesHeldBy_29 : decode cX9_sharesHeldBy 29 = .ok (.aload 4, 2) := by decide +kernel
theorem dX9_sharesHeldBy_31 : decode cX9_sharesHeldBy 31 = .ok (.getfield 184, 3) := by decide +kernel
theorem dX9_sharesHeldBy_34 : decode cX9_sharesHeldBy 34 = .ok (.iload_n 1, 1) := by decide +kernel
theorem dX9_sharesHeldBy_35 : decode cX9_sharesHeldBy 35 = .ok (.iaload, 1) := by decide +kernel
theorem dX9_sharesHeldBy_36 : decode cX9_sharesHeldBy 36 = .ok (.iadd, 1) := by decide +kernel
theorem dX9_sharesHeldBy_37 : decode cX9_sharesHeldBy 37 = .ok (.istore_n 2, 1) := by decide +kernel
theorem dX9_sharesHeldBy_38 : decode cX9_sharesHeldBy 38 = .ok (.iinc 3 1, 3) := by decide +kernel
theorem dX9_sharesHeldBy_41 : decode cX9_sharesHeldBy 41 = .ok (.goto (-37), 3) := by decide +kernel
theorem dX9_sharesHeldBy_44 : decode cX9_sharesHeldBy 44 = .ok (.iload_n 2, 1) := by decide +kernel
theorem dX9_sharesHeldBy_45 : decode cX9_sharesHeldBy 45 = .ok (.ireturn, 1) := by decide +kernel
theorem dX9_worthHeldBy_0 : decode cX9_worthHeldBy 0 = .ok (.iconst 0, 1) := by decide +kernel
theorem dX9_worthHeldBy_1 : decode cX9_worthHeldBy 1 = .ok (.istore_n 2, 1) := by decide +kernel
theorem dX9_worthHeldBy_2 : decode cX9_worthHeldBy 2 = .ok (.iconst 0, 1) := by decide +kernel
theorem dX9_worthHeldBy_3 : decode cX9_worthHeldBy 3 = .ok (.istore_n 3, 1) := by decide +kernel
theorem dX9_worthHeldBy_4 : decode cX9_worthHeldBy 4 = .ok (.iload_n 3, 1) := by decide +kernel
theorem dX9_worthHeldBy_5 : decode cX9_worthHeldBy 5 = .ok (.aload_n 0, 1) := by decide +kernel
theorem dX9_worthHeldBy_6 : decode cX9_worthHeldBy 6 = .ok (.getfield 74, 3) := by decide +kernel
theorem dX9_worthHeldBy_9 : decode cX9_worthHeldBy 9 = .ok (.if_icmp .ge 41, 3) := by decide +kernel
theorem dX9_worthHeldBy_12 : decode cX9_worthHeldBy 12 = .ok (.aload_n 0, 1) := by decide +kernel
theorem dX9_worthHeldBy_13 : decode cX9_worthHeldBy 13 = .ok (.iload_n 3, 1) := by decide +kernel
theorem dX9_worthHeldBy_14 : decode cX9_worthHeldBy 14 = .ok (.invokevirtual 90, 3) := by decide +kernel
theorem dX9_worthHeldBy_17 : decode cX9_worthHeldBy 17 = .ok (.astore 4, 2) := by decide +kernel
theorem dX9_worthHeldBy_19 : decode cX9_worthHeldBy 19 = .ok (.iload_n 2, 1) := by decide +kernel
theorem dX9_worthHeldBy_20 : decode cX9_worthHeldBy 20 = .ok (.aload 4, 2) := by decide +kernel
theorem dX9_worthHeldBy_22 : decode cX9_worthHeldBy 22 = .ok (.ifnonnull 7, 3) := by decide +kernel
theorem dX9_worthHeldBy_25 : decode cX9_worthHeldBy 25 = .ok (.iconst 0, 1) := by decide +kernel
theorem dX9_worthHeldBy_26 : decode cX9_worthHeldBy 26 = .ok (.goto 16, 3) := by decide +kernel
theorem dX9_worthHeldBy_29 : decode cX9_worthHeldBy 29 = .ok (.aload 4, 2) := by decide +kernel
theorem dX9_worthHeldBy_31 : decode cX9_worthHeldBy 31 = .ok (.getfield 184, 3) := by decide +kernel
theorem dX9_worthHeldBy_34 : decode cX9_worthHeldBy 34 = .ok (.iload_n 1, 1) := by decide +kernel
theorem dX9_worthHeldBy_35 : decode cX9_worthHeldBy 35 = .ok (.iaload, 1) := by decide +kernel
theorem dX9_worthHeldBy_36 : decode cX9_worthHeldBy 36 = .ok (.aload 4, 2) := by decide +kernel
theorem dX9_worthHeldBy_38 : decode cX9_worthHeldBy 38 = .ok (.getfield 129, 3) := by decide +kernel
theorem dX9_worthHeldBy_41 : decode cX9_worthHeldBy 41 = .ok (.imul, 1) := by decide +kernel
theorem dX9_worthHeldBy_42 : decode cX9_worthHeldBy 42 = .ok (.iadd, 1) := by decide +kernel
theorem dX9_worthHeldBy_43 : decode cX9_worthHeldBy 43 = .ok (.istore_n 2, 1) := by decide +kernel
theorem dX9_worthHeldBy_44 : decode cX9_worthHeldBy 44 = .ok (.iinc 3 1, 3) := by decide +kernel
theorem dX9_worthHeldBy_47 : decode cX9_worthHeldBy 47 = .ok (.goto (-43), 3) := by decide +kernel
theorem dX9_worthHeldBy_50 : decode cX9_worthHeldBy 50 = .ok (.iload_n 2, 1) := by decide +kernel
theorem dX9_worthHeldBy_51 : decode cX9_worthHeldBy 51 = .ok (.ireturn, 1) := by decide +kernel
theorem dX9_isKept_0 : decode cX9_isKept 0 = .ok (.ldc2_w 187, 3) := by decide +kernel
theorem dX9_isKept_3 : decode cX9_isKept 3 = .ok (.aload_n 0, 1) := by decide +kernel
theorem dX9_isKept_4 : decode cX9_isKept 4 = .ok (.iload_n 2, 1) := by decide +kernel
theorem dX9_isKept_5 : decode cX9_isKept 5 = .ok (.invokevirtual 189, 3) := by decide +kernel
theorem dX9_isKept_8 : decode cX9_isKept 8 = .ok (.aload_n 1, 1) := by decide +kernel
theorem dX9_isKept_9 : decode cX9_isKept 9 = .ok (.getfield 115, 3) := by decide +kernel
theorem dX9_isKept_12 : decode cX9_isKept 12 = .ok (.iadd, 1) := by decide +kernel
theorem dX9_isKept_13 : decode cX9_isKept 13 = .ok (.i2l, 1) := by decide +kernel
theorem dX9_isKept_14 : decode cX9_isKept 14 = .ok (.lmul, 1) := by decide +kernel
theorem dX9_isKept_15 : decode cX9_isKept 15 = .ok (.lstore_n 3, 1) := by decide +kernel
theorem dX9_isKept_16 : decode cX9_isKept 16 = .ok (.lload_n 3, 1) := by decide +kernel
theorem dX9_isKept_17 : decode cX9_isKept 17 = .ok (.aload_n 1, 1) := by decide +kernel
theorem dX9_isKept_18 : decode cX9_isKept 18 = .ok (.getfield 192, 3) := by decide +kernel
theorem dX9_isKept_21 : decode cX9_isKept 21 = .ok (.i2l, 1) := by decide +kernel
theorem dX9_isKept_22 : decode cX9_isKept 22 = .ok (.aload_n 1, 1) := by decide +kernel
theorem dX9_isKept_23 : decode cX9_isKept 23 = .ok (.getfield 116, 3) := by decide +kernel
theorem dX9_isKept_26 : decode cX9_isKept 26 = .ok (.i2l, 1) := by decide +kernel
theorem dX9_isKept_27 : decode cX9_isKept 27 = .ok (.lmul, 1) := by decide +kernel
theorem dX9_isKept_28 : decode cX9_isKept 28 = .ok (.lcmp, 1) := by decide +kernel
theorem dX9_isKept_29 : decode cX9_isKept 29 = .ok (.ifCond .lt 7, 3) := by decide +kernel
theorem dX9_isKept_32 : decode cX9_isKept 32 = .ok (.iconst 1, 1) := by decide +kernel
theorem dX9_isKept_33 : decode cX9_isKept 33 = .ok (.goto 4, 3) := by decide +kernel
theorem dX9_isKept_36 : decode cX9_isKept 36 = .ok (.iconst 0, 1) := by decide +kernel
theorem dX9_isKept_37 : decode cX9_isKept 37 = .ok (.ireturn, 1) := by decide +kernel
theorem dX9_partOwned_0 : decode cX9_partOwned 0 = .ok (.new 176, 3) := by decide +kernel
theorem dX9_partOwned_3 : decode cX9_partOwned 3 = .ok (.dup, 1) := by decide +kernel
theorem dX9_partOwned_4 : decode cX9_partOwned 4 = .ok (.aload_n 2, 1) := by decide +kernel
theorem dX9_partOwned_5 : decode cX9_partOwned 5 = .ok (.iload_n 3, 1) := by decide +kernel
theorem dX9_partOwned_6 : decode cX9_partOwned 6 = .ok (.iload_n 1, 1) := by decide +kernel
theorem dX9_partOwned_7 : decode cX9_partOwned 7 = .ok (.invokevirtual 167, 3) := by decide +kernel
theorem dX9_partOwned_10 : decode cX9_partOwned 10 = .ok (.i2l, 1) := by decide +kernel
theorem dX9_partOwned_11 : decode cX9_partOwned 11 = .ok (.invokespecial 195, 3) := by decide +kernel
theorem dX9_partOwned_14 : decode cX9_partOwned 14 = .ok (.astore 4, 2) := by decide +kernel
theorem dX9_partOwned_16 : decode cX9_partOwned 16 = .ok (.iconst 0, 1) := by decide +kernel
theorem dX9_partOwned_17 : decode cX9_partOwned 17 = .ok (.istore 5, 2) := by decide +kernel
theorem dX9_partOwned_19 : decode cX9_partOwned 19 = .ok (.iload 5, 2) := by decide +kernel
theorem dX9_partOwned_21 : decode cX9_partOwned 21 = .ok (.aload_n 0, 1) := by decide +kernel
theorem dX9_partOwned_22 : decode cX9_partOwned 22 = .ok (.getfield 96, 3) := by decide +kernel
theorem dX9_partOwned_25 : decode cX9_partOwned 25 = .ok (.if_icmp .ge 65, 3) := by decide +kernel
theorem dX9_partOwned_28 : decode cX9_partOwned 28 = .ok (.bipush 24, 2) := by decide +kernel
theorem dX9_partOwned_30 : decode cX9_partOwned 30 = .ok (.iload 5, 2) := by decide +kernel
theorem dX9_partOwned_32 : decode cX9_partOwned 32 = .ok (.iadd, 1) := by decide +kernel
theorem dX9_partOwned_33 : decode cX9_partOwned 33 = .ok (.istore 6, 2) := by decide +kernel
theorem dX9_partOwned_35 : decode cX9_partOwned 35 = .ok (.aload_n 0, 1) := by decide +kernel
theorem dX9_partOwned_36 : decode cX9_partOwned 36 = .ok (.iload 6, 2) := by decide +kernel
theorem dX9_partOwned_38 : decode cX9_partOwned 38 = .ok (.invokevirtual 104, 3) := by decide +kernel
theorem dX9_partOwned_41 : decode cX9_partOwned 41 = .ok (.astore 7, 2) := by decide +kernel
theorem dX9_partOwned_43 : decode cX9_partOwned 43 = .ok (.aload 7, 2) := by decide +kernel
theorem dX9_partOwned_45 : decode cX9_partOwned 45 = .ok (.ifnull 39, 3) := by decide +kernel
theorem dX9_partOwned_48 : decode cX9_partOwned 48 = .ok (.aload 7, 2) := by decide +kernel
theorem dX9_partOwned_50 : decode cX9_partOwned 50 = .ok (.getfield 116, 3) := by decide +kernel
theorem dX9_partOwned_53 : decode cX9_partOwned 53 = .ok (.ifCond .le 31, 3) := by decide +kernel
theorem dX9_partOwned_56 : decode cX9_partOwned 56 = .ok (.aload 4, 2) := by decide +kernel
theorem dX9_partOwned_58 : decode cX9_partOwned 58 = .ok (.aload_n 2, 1) := by decide +kernel
theorem dX9_partOwned_59 : decode cX9_partOwned 59 = .ok (.iload_n 3, 1) := by decide +kernel
theorem dX9_partOwned_60 : decode cX9_partOwned 60 = .ok (.iload 6, 2) := by decide +kernel
theorem dX9_partOwned_62 : decode cX9_partOwned 62 = .ok (.invokevirtual 167, 3) := by decide +kernel
theorem dX9_partOwned_65 : decode cX9_partOwned 65 = .ok (.i2l, 1) := by decide +kernel
theorem dX9_partOwned_66 : decode cX9_partOwned 66 = .ok (.aload 7, 2) := by decide +kernel
theorem dX9_partOwned_68 : decode cX9_partOwned 68 = .ok (.getfield 119, 3) := by decide +kernel
theorem dX9_partOwned_71 : decode cX9_partOwned 71 = .ok (.iload_n 1, 1) := by decide +kernel
theorem dX9_partOwned_72 : decode cX9_partOwned 72 = .ok (.iaload, 1) := by decide +kernel
theorem dX9_partOwned_73 : decode cX9_partOwned 73 = .ok (.i2l, 1) := by decide +kernel
theorem dX9_partOwned_74 : decode cX9_partOwned 74 = .ok (.lmul, 1) := by decide +kernel
theorem dX9_partOwned_75 : decode cX9_partOwned 75 = .ok (.aload 7, 2) := by decide +kernel
theorem dX9_partOwned_77 : decode cX9_partOwned 77 = .ok (.getfield 116, 3) := by decide +kernel
theorem dX9_partOwned_80 : decode cX9_partOwned 80 = .ok (.i2l, 1) := by decide +kernel
theorem dX9_partOwned_81 : decode cX9_partOwned 81 = .ok (.invokevirtual 198, 3) := by decide +kernel
theorem dX9_partOwned_84 : decode cX9_partOwned 84 = .ok (.iinc 5 1, 3) := by decide +kernel
theorem dX9_partOwned_87 : decode cX9_partOwned 87 = .ok (.goto (-68), 3) := by decide +kernel
theorem dX9_partOwned_90 : decode cX9_partOwned 90 = .ok (.aload 4, 2) := by decide +kernel
theorem dX9_partOwned_92 : decode cX9_partOwned 92 = .ok (.aload_n 2, 1) := by decide +kernel
theorem dX9_partOwned_93 : decode cX9_partOwned 93 = .ok (.getfield 141, 3) := by decide +kernel
theorem dX9_partOwned_96 : decode cX9_partOwned 96 = .ok (.i2l, 1) := by decide +kernel
theorem dX9_partOwned_97 : decode cX9_partOwned 97 = .ok (.invokevirtual 202, 3) := by decide +kernel
theorem dX9_partOwned_100 : decode cX9_partOwned 100 = .ok (.aload 4, 2) := by decide +kernel
theorem dX9_partOwned_102 : decode cX9_partOwned 102 = .ok (.areturn, 1) := by decide +kernel
theorem dX9_endRoundOf_0 : decode cX9_endRoundOf 0 = .ok (.aload_n 0, 1) := by decide +kernel
theorem dX9_endRoundOf_1 : decode cX9_endRoundOf 1 = .ok (.iload_n 1, 1) := by decide +kernel
theorem dX9_endRoundOf_2 : decode cX9_endRoundOf 2 = .ok (.invokevirtual 90, 3) := by decide +kernel
theorem dX9_endRoundOf_5 : decode cX9_endRoundOf 5 = .ok (.astore_n 2, 1) := by decide +kernel
theorem dX9_endRoundOf_6 : decode cX9_endRoundOf 6 = .ok (.aload_n 2, 1) := by decide +kernel
theorem dX9_endRoundOf_7 : decode cX9_endRoundOf 7 = .ok (.ifnonnull 5, 3) := by decide +kernel
theorem dX9_endRoundOf_10 : decode cX9_endRoundOf 10 = .ok (.iconst 0, 1) := by decide +kernel
theorem dX9_endRoundOf_11 : decode cX9_endRoundOf 11 = .ok (.ireturn, 1) := by decide +kernel
theorem dX9_endRoundOf_12 : decode cX9_endRoundOf 12 = .ok (.aload_n 2, 1) := by decide +kernel
theorem dX9_endRoundOf_13 : decode cX9_endRoundOf 13 = .ok (.getfield 144, 3) := by decide +kernel
theorem dX9_endRoundOf_16 : decode cX9_endRoundOf 16 = .ok (.istore_n 3, 1) := by decide +kernel
theorem dX9_endRoundOf_17 : decode cX9_endRoundOf 17 = .ok (.iload_n 3, 1) := by decide +kernel
theorem dX9_endRoundOf_18 : decode cX9_endRoundOf 18 = .ok (.ifCond .le 21, 3) := by decide +kernel
theorem dX9_endRoundOf_21 : decode cX9_endRoundOf 21 = .ok (.aload_n 0, 1) := by decide +kernel
theorem dX9_endRoundOf_22 : decode cX9_endRoundOf 22 = .ok (.getfield 81, 3) := by decide +kernel
theorem dX9_endRoundOf_25 : decode cX9_endRoundOf 25 = .ok (.ifCond .ne 9, 3) := by decide +kernel
theorem dX9_endRoundOf_28 : decode cX9_endRoundOf 28 = .ok (.aload_n 0, 1) := by decide +kernel
theorem dX9_endRoundOf_29 : decode cX9_endRoundOf 29 = .ok (.aload_n 2, 1) := by decide +kernel
theorem dX9_endRoundOf_30 : decode cX9_endRoundOf 30 = .ok (.iload_n 1, 1) := by decide +kernel
theorem dX9_endRoundOf_31 : decode cX9_endRoundOf 31 = .ok (.invokevirtual 205, 3) := by decide +kernel
theorem dX9_endRoundOf_34 : decode cX9_endRoundOf 34 = .ok (.aload_n 0, 1) := by decide +kernel
theorem dX9_endRoundOf_35 : decode cX9_endRoundOf 35 = .ok (.aload_n 2, 1) := by decide +kernel
theorem dX9_endRoundOf_36 : decode cX9_endRoundOf 36 = .ok (.invokevirtual 209, 3) := by decide +kernel
theorem dX9_endRoundOf_39 : decode cX9_endRoundOf 39 = .ok (.aload_n 2, 1) := by decide +kernel
theorem dX9_endRoundOf_40 : decode cX9_endRoundOf 40 = .ok (.aload_n 0, 1) := by decide +kernel
theorem dX9_endRoundOf_41 : decode cX9_endRoundOf 41 = .ok (.getfield 81, 3) := by decide +kernel
theorem dX9_endRoundOf_44 : decode cX9_endRoundOf 44 = .ok (.iconst 1, 1) := by decide +kernel
theorem dX9_endRoundOf_45 : decode cX9_endRoundOf 45 = .ok (.iadd, 1) := by decide +kernel
theorem dX9_endRoundOf_46 : decode cX9_endRoundOf 46 = .ok (.invokevirtual 213, 3) := by decide +kernel
theorem dX9_endRoundOf_49 : decode cX9_endRoundOf 49 = .ok (.iload_n 3, 1) := by decide +kernel
theorem dX9_endRoundOf_50 : decode cX9_endRoundOf 50 = .ok (.aload_n 2, 1) := by decide +kernel
theorem dX9_endRoundOf_51 : decode cX9_endRoundOf 51 = .ok (.getfield 144, 3) := by decide +kernel
theorem dX9_endRoundOf_54 : decode cX9_endRoundOf 54 = .ok (.isub, 1) := by decide +kernel
theorem dX9_endRoundOf_55 : decode cX9_endRoundOf 55 = .ok (.ireturn, 1) := by decide +kernel
theorem dX9_sellToWorkers_0 : decode cX9_sellToWorkers 0 = .ok (.iconst 0, 1) := by decide +kernel
theorem dX9_sellToWorkers_1 : decode cX9_sellToWorkers 1 = .ok (.istore_n 3, 1) := by decide +kernel
theorem dX9_sellToWorkers_2 : decode cX9_sellToWorkers 2 = .ok (.iload_n 3, 1) := by decide +kernel
theorem dX9_sellToWorkers_3 : decode cX9_sellToWorkers 3 = .ok (.bipush 28, 2) := by decide +kernel
theorem dX9_sellToWorkers_5 : decode cX9_sellToWorkers 5 = .ok (.if_icmp .ge 49, 3) := by decide +kernel
theorem dX9_sellToWorkers_8 : decode cX9_sellToWorkers 8 = .ok (.aload_n 0, 1) := by decide +kernel
theorem dX9_sellToWorkers_9 : decode cX9_sellToWorkers 9 = .ok (.iload_n 3, 1) := by decide +kernel
theorem dX9_sellToWorkers_10 : decode cX9_sellToWorkers 10 = .ok (.invokevirtual 100, 3) := by decide +kernel
theorem dX9_sellToWorkers_13 : decode cX9_sellToWorkers 13 = .ok (.astore 4, 2) := by decide +kernel
theorem dX9_sellToWorkers_15 : decode cX9_sellToWorkers 15 = .ok (.aload_n 0, 1) := by decide +kernel
theorem dX9_sellToWorkers_16 : decode cX9_sellToWorkers 16 = .ok (.getfield 44, 3) := by decide +kernel
theorem dX9_sellToWorkers_19 : decode cX9_sellToWorkers 19 = .ok (.getfield 216, 3) := by decide +kernel
theorem dX9_sellToWorkers_22 : decode cX9_sellToWorkers 22 = .ok (.iload_n 3, 1) := by decide +kernel
theorem dX9_sellToWorkers_23 : decode cX9_sellToWorkers 23 = .ok (.aload 4, 2) := by decide +kernel
theorem dX9_sellToWorkers_25 : decode cX9_sellToWorkers 25 = .ok (.ifnull 21, 3) := by decide +kernel
theorem dX9_sellToWorkers_28 : decode cX9_sellToWorkers 28 = .ok (.aload 4, 2) := by decide +kernel
theorem dX9_sellToWorkers_30 : decode cX9_sellToWorkers 30 = .ok (.getfield 219, 3) := by decide +kernel
theorem dX9_sellToWorkers_33 : decode cX9_sellToWorkers 33 = .ok (.iload_n 2, 1) := by decide +kernel
theorem dX9_sellToWorkers_34 : decode cX9_sellToWorkers 34 = .ok (.if_icmp .ne 12, 3) := by decide +kernel
theorem dX9_sellToWorkers_37 : decode cX9_sellToWorkers 37 = .ok (.aload_n 1, 1) := by decide +kernel
theorem dX9_sellToWorkers_38 : decode cX9_sellToWorkers 38 = .ok (.getfield 126, 3) := by decide +kernel
theorem dX9_sellToWorkers_41 : decode cX9_sellToWorkers 41 = .ok (.iload_n 3, 1) := by decide +kernel
theorem dX9_sellToWorkers_42 : decode cX9_sellToWorkers 42 = .ok (.iaload, 1) := by decide +kernel
theorem dX9_sellToWorkers_43 : decode cX9_sellToWorkers 43 = .ok (.goto 4, 3) := by decide +kernel
theorem dX9_sellToWorkers_46 : decode cX9_sellToWorkers 46 = .ok (.iconst 0, 1) := by decide +kernel
theorem dX9_sellToWorkers_47 : decode cX9_sellToWorkers 47 = .ok (.iastore, 1) := by decide +kernel
theorem dX9_sellToWorkers_48 : decode cX9_sellToWorkers 48 = .ok (.iinc 3 1, 3) := by decide +kernel
theorem dX9_sellToWorkers_51 : decode cX9_sellToWorkers 51 = .ok (.goto (-49), 3) := by decide +kernel
theorem dX9_sellToWorkers_54 : decode cX9_sellToWorkers 54 = .ok (.aload_n 1, 1) := by decide +kernel
theorem dX9_sellToWorkers_55 : decode cX9_sellToWorkers 55 = .ok (.getfield 141, 3) := by decide +kernel
theorem dX9_sellToWorkers_58 : decode cX9_sellToWorkers 58 = .ok (.aload_n 0, 1) := by decide +kernel
theorem dX9_sellToWorkers_59 : decode cX9_sellToWorkers 59 = .ok (.getfield 19, 3) := by decide +kernel
theorem dX9_sellToWorkers_62 : decode cX9_sellToWorkers 62 = .ok (.getstatic 222, 3) := by decide +kernel
theorem dX9_sellToWorkers_65 : decode cX9_sellToWorkers 65 = .ok (.invokevirtual 228, 3) := by decide +kernel
theorem dX9_sellToWorkers_68 : decode cX9_sellToWorkers 68 = .ok (.imul, 1) := by decide +kernel
theorem dX9_sellToWorkers_69 : decode cX9_sellToWorkers 69 = .ok (.bipush 100, 2) := by decide +kernel
theorem dX9_sellToWorkers_71 : decode cX9_sellToWorkers 71 = .ok (.idiv, 1) := by decide +kernel
theorem dX9_sellToWorkers_72 : decode cX9_sellToWorkers 72 = .ok (.istore_n 3, 1) := by decide +kernel
theorem dX9_sellToWorkers_73 : decode cX9_sellToWorkers 73 = .ok (.aload_n 0, 1) := by decide +kernel
theorem dX9_sellToWorkers_74 : decode cX9_sellToWorkers 74 = .ok (.getfield 44, 3) := by decide +kernel
theorem dX9_sellToWorkers_77 : decode cX9_sellToWorkers 77 = .ok (.iload_n 3, 1) := by decide +kernel
theorem dX9_sellToWorkers_78 : decode cX9_sellToWorkers 78 = .ok (.aload_n 1, 1) := by decide +kernel
theorem dX9_sellToWorkers_79 : decode cX9_sellToWorkers 79 = .ok (.getfield 144, 3) := by decide +kernel
theorem dX9_sellToWorkers_82 : decode cX9_sellToWorkers 82 = .ok (.invokestatic 232, 3) := by decide +kernel
theorem dX9_sellToWorkers_85 : decode cX9_sellToWorkers 85 = .ok (.invokevirtual 237, 3) := by decide +kernel
theorem dX9_sellToWorkers_88 : decode cX9_sellToWorkers 88 = .ok (.aload_n 0, 1) := by decide +kernel
theorem dX9_sellToWorkers_89 : decode cX9_sellToWorkers 89 = .ok (.aload_n 1, 1) := by decide +kernel
theorem dX9_sellToWorkers_90 : decode cX9_sellToWorkers 90 = .ok (.aload_n 1, 1) := by decide +kernel
theorem dX9_sellToWorkers_91 : decode cX9_sellToWorkers 91 = .ok (.getfield 129, 3) := by decide +kernel
theorem dX9_sellToWorkers_94 : decode cX9_sellToWorkers 94 = .ok (.aload_n 0, 1) := by decide +kernel
theorem dX9_sellToWorkers_95 : decode cX9_sellToWorkers 95 = .ok (.getfield 19, 3) := by decide +kernel
theorem dX9_sellToWorkers_98 : decode cX9_sellToWorkers 98 = .ok (.getstatic 240, 3) := by decide +kernel
theorem dX9_sellToWorkers_101 : decode cX9_sellToWorkers 101 = .ok (.invokevirtual 228, 3) := by decide +kernel
theorem dX9_sellToWorkers_104 : decode cX9_sellToWorkers 104 = .ok (.imul, 1) := by decide +kernel
theorem dX9_sellToWorkers_105 : decode cX9_sellToWorkers 105 = .ok (.bipush 100, 2) := by decide +kernel
theorem dX9_sellToWorkers_107 : decode cX9_sellToWorkers 107 = .ok (.invokestatic 243, 3) := by decide +kernel
theorem dX9_sellToWorkers_110 : decode cX9_sellToWorkers 110 = .ok (.invokevirtual 246, 3) := by decide +kernel
theorem dX9_sellToWorkers_113 : decode cX9_sellToWorkers 113 = .ok (.return_, 1) := by decide +kernel
theorem dX9_sellToAll_0 : decode cX9_sellToAll 0 = .ok (.aload_n 1, 1) := by decide +kernel
theorem dX9_sellToAll_1 : decode cX9_sellToAll 1 = .ok (.getfield 144, 3) := by decide +kernel
theorem dX9_sellToAll_4 : decode cX9_sellToAll 4 = .ok (.istore_n 2, 1) := by decide +kernel
theorem dX9_sellToAll_5 : decode cX9_sellToAll 5 = .ok (.aload_n 1, 1) := by decide +kernel
theorem dX9_sellToAll_6 : decode cX9_sellToAll 6 = .ok (.getfield 126, 3) := by decide +kernel
theorem dX9_sellToAll_9 : decode cX9_sellToAll 9 = .ok (.invokestatic 147, 3) := by decide +kernel
theorem dX9_sellToAll_12 : decode cX9_sellToAll 12 = .ok (.istore_n 3, 1) := by decide +kernel
theorem dX9_sellToAll_13 : decode cX9_sellToAll 13 = .ok (.aload_n 1, 1) := by decide +kernel
theorem dX9_sellToAll_14 : decode cX9_sellToAll 14 = .ok (.getfield 126, 3) := by decide +kernel
theorem dX9_sellToAll_17 : decode cX9_sellToAll 17 = .ok (.iconst 0, 1) := by decide +kernel
theorem dX9_sellToAll_18 : decode cX9_sellToAll 18 = .ok (.aload_n 0, 1) := by decide +kernel
theorem dX9_sellToAll_19 : decode cX9_sellToAll 19 = .ok (.getfield 44, 3) := by decide +kernel
theorem dX9_sellToAll_22 : decode cX9_sellToAll 22 = .ok (.getfield 216, 3) := by decide +kernel
theorem dX9_sellToAll_25 : decode cX9_sellToAll 25 = .ok (.iconst 0, 1) := by decide +kernel
theorem dX9_sellToAll_26 : decode cX9_sellToAll 26 = .ok (.bipush 28, 2) := by decide +kernel
theorem dX9_sellToAll_28 : decode cX9_sellToAll 28 = .ok (.invokestatic 249, 3) := by decide +kernel
theorem dX9_sellToAll_31 : decode cX9_sellToAll 31 = .ok (.iload_n 3, 1) := by decide +kernel
theorem dX9_sellToAll_32 : decode cX9_sellToAll 32 = .ok (.iload_n 2, 1) := by decide +kernel
theorem dX9_sellToAll_33 : decode cX9_sellToAll 33 = .ok (.isub, 1) := by decide +kernel
theorem dX9_sellToAll_34 : decode cX9_sellToAll 34 = .ok (.iload_n 2, 1) := by decide +kernel
theorem dX9_sellToAll_35 : decode cX9_sellToAll 35 = .ok (.aload_n 0, 1) := by decide +kernel
theorem dX9_sellToAll_36 : decode cX9_sellToAll 36 = .ok (.getfield 19, 3) := by decide +kernel
theorem dX9_sellToAll_39 : decode cX9_sellToAll 39 = .ok (.getstatic 255, 3) := by decide +kernel
theorem dX9_sellToAll_42 : decode cX9_sellToAll 42 = .ok (.invokevirtual 228, 3) := by decide +kernel
theorem dX9_sellToAll_45 : decode cX9_sellToAll 45 = .ok (.imul, 1) := by decide +kernel
theorem dX9_sellToAll_46 : decode cX9_sellToAll 46 = .ok (.bipush 100, 2) := by decide +kernel
theorem dX9_sellToAll_48 : decode cX9_sellToAll 48 = .ok (.idiv, 1) := by decide +kernel
theorem dX9_sellToAll_49 : decode cX9_sellToAll 49 = .ok (.if_icmp .le 7, 3) := by decide +kernel
theorem dX9_sellToAll_52 : decode cX9_sellToAll 52 = .ok (.iconst 1, 1) := by decide +kernel
theorem dX9_sellToAll_53 : decode cX9_sellToAll 53 = .ok (.goto 4, 3) := by decide +kernel
theorem dX9_sellToAll_56 : decode cX9_sellToAll 56 = .ok (.iconst 0, 1) := by decide +kernel
theorem dX9_sellToAll_57 : decode cX9_sellToAll 57 = .ok (.istore 4, 2) := by decide +kernel
theorem dX9_sellToAll_59 : decode cX9_sellToAll 59 = .ok (.aload_n 0, 1) := by decide +kernel
theorem dX9_sellToAll_60 : decode cX9_sellToAll 60 = .ok (.getfield 44, 3) := by decide +kernel
theorem dX9_sellToAll_63 : decode cX9_sellToAll 63 = .ok (.iload 4, 2) := by decide +kernel
theorem dX9_sellToAll_65 : decode cX9_sellToAll 65 = .ok (.ifCond .eq 7, 3) := by decide +kernel
theorem dX9_sellToAll_68 : decode cX9_sellToAll 68 = .ok (.iconst 0, 1) := by decide +kernel
theorem dX9_sellToAll_69 : decode cX9_sellToAll 69 = .ok (.goto 4, 3) := by decide +kernel
theorem dX9_sellToAll_72 : decode cX9_sellToAll 72 = .ok (.iload_n 2, 1) := by decide +kernel
theorem dX9_sellToAll_73 : decode cX9_sellToAll 73 = .ok (.invokevirtual 237, 3) := by decide +kernel
theorem dX9_sellToAll_76 : decode cX9_sellToAll 76 = .ok (.aload_n 0, 1) := by decide +kernel
theorem dX9_sellToAll_77 : decode cX9_sellToAll 77 = .ok (.aload_n 1, 1) := by decide +kernel
theorem dX9_sellToAll_78 : decode cX9_sellToAll 78 = .ok (.aload_n 1, 1) := by decide +kernel
theorem dX9_sellToAll_79 : decode cX9_sellToAll 79 = .ok (.getfield 129, 3) := by decide +kernel
theorem dX9_sellToAll_82 : decode cX9_sellToAll 82 = .ok (.invokevirtual 246, 3) := by decide +kernel
theorem dX9_sellToAll_85 : decode cX9_sellToAll 85 = .ok (.iload_n 2, 1) := by decide +kernel
theorem dX9_sellToAll_86 : decode cX9_sellToAll 86 = .ok (.ifCond .le 17, 3) := by decide +kernel
theorem dX9_sellToAll_89 : decode cX9_sellToAll 89 = .ok (.aload_n 1, 1) := by decide +kernel
theorem dX9_sellToAll_90 : decode cX9_sellToAll 90 = .ok (.aload_n 0, 1) := by decide +kernel
theorem dX9_sellToAll_91 : decode cX9_sellToAll 91 = .ok (.aload_n 1, 1) := by decide +kernel
theorem dX9_sellToAll_92 : decode cX9_sellToAll 92 = .ok (.getfield 129, 3) := by decide +kernel
theorem dX9_sellToAll_95 : decode cX9_sellToAll 95 = .ok (.iload_n 3, 1) := by decide +kernel
theorem dX9_sellToAll_96 : decode cX9_sellToAll 96 = .ok (.iload_n 2, 1) := by decide +kernel
theorem dX9_sellToAll_97 : decode cX9_sellToAll 97 = .ok (.invokevirtual 258, 3) := by decide +kernel
theorem dX9_sellToAll_100 : decode cX9_sellToAll 100 = .ok (.putfield 129, 3) := by decide +kernel
theorem dX9_sellToAll_103 : decode cX9_sellToAll 103 = .ok (.return_, 1) := by decide +kernel
theorem dX9_handOver_0 : decode cX9_handOver 0 = .ok (.iconst 0, 1) := by decide +kernel
theorem dX9_handOver_1 : decode cX9_handOver 1 = .ok (.istore_n 3, 1) := by decide +kernel
theorem dX9_handOver_2 : decode cX9_handOver 2 = .ok (.iload_n 3, 1) := by decide +kernel
theorem dX9_handOver_3 : decode cX9_handOver 3 = .ok (.bipush 28, 2) := by decide +kernel
theorem dX9_handOver_5 : decode cX9_handOver 5 = .ok (.if_icmp .ge 79, 3) := by decide +kernel
theorem dX9_handOver_8 : decode cX9_handOver 8 = .ok (.aload_n 0, 1) := by decide +kernel
theorem dX9_handOver_9 : decode cX9_handOver 9 = .ok (.iload_n 3, 1) := by decide +kernel
theorem dX9_handOver_10 : decode cX9_handOver 10 = .ok (.invokevirtual 122, 3) := by decide +kernel
theorem dX9_handOver_13 : decode cX9_handOver 13 = .ok (.astore 4, 2) := by decide +kernel
theorem dX9_handOver_15 : decode cX9_handOver 15 = .ok (.aload 4, 2) := by decide +kernel
theorem dX9_handOver_17 : decode cX9_handOver 17 = .ok (.ifnull 61, 3) := by decide +kernel
theorem dX9_handOver_20 : decode cX9_handOver 20 = .ok (.aload_n 0, 1) := by decide +kernel
theorem dX9_handOver_21 : decode cX9_handOver 21 = .ok (.getfield 44, 3) := by decide +kernel
theorem dX9_handOver_24 : decode cX9_handOver 24 = .ok (.getfield 262, 3) := by decide +kernel
theorem dX9_handOver_27 : decode cX9_handOver 27 = .ok (.iload_n 3, 1) := by decide +kernel
theorem dX9_handOver_28 : decode cX9_handOver 28 = .ok (.iaload, 1) := by decide +kernel
theorem dX9_handOver_29 : decode cX9_handOver 29 = .ok (.istore 5, 2) := by decide +kernel
theorem dX9_handOver_31 : decode cX9_handOver 31 = .ok (.aload 4, 2) := by decide +kernel
theorem dX9_handOver_33 : decode cX9_handOver 33 = .ok (.dup, 1) := by decide +kernel
theorem dX9_handOver_34 : decode cX9_handOver 34 = .ok (.getfield 132, 3) := by decide +kernel
theorem dX9_handOver_37 : decode cX9_handOver 37 = .ok (.iload 5, 2) := by decide +kernel
theorem dX9_handOver_39 : decode cX9_handOver 39 = .ok (.iload_n 2, 1) := by decide +kernel
theorem dX9_handOver_40 : decode cX9_handOver 40 = .ok (.imul, 1) := by decide +kernel
theorem dX9_handOver_41 : decode cX9_handOver 41 = .ok (.isub, 1) := by decide +kernel
theorem dX9_handOver_42 : decode cX9_handOver 42 = .ok (.putfield 132, 3) := by decide +kernel
theorem dX9_handOver_45 : decode cX9_handOver 45 = .ok (.aload_n 1, 1) := by decide +kernel
theorem dX9_handOver_46 : decode cX9_handOver 46 = .ok (.getfield 184, 3) := by decide +kernel
theorem dX9_handOver_49 : decode cX9_handOver 49 = .ok (.iload_n 3, 1) := by decide +kernel
theorem dX9_handOver_50 : decode cX9_handOver 50 = .ok (.dup2, 1) := by decide +kernel
theorem dX9_handOver_51 : decode cX9_handOver 51 = .ok (.iaload, 1) := by decide +kernel
theorem dX9_handOver_52 : decode cX9_handOver 52 = .ok (.iload 5, 2) := by decide +kernel
theorem dX9_handOver_54 : decode cX9_handOver 54 = .ok (.iadd, 1) := by decide +kernel
theorem dX9_handOver_55 : decode cX9_handOver 55 = .ok (.iastore, 1) := by decide +kernel
theorem dX9_handOver_56 : decode cX9_handOver 56 = .ok (.aload_n 1, 1) := by decide +kernel
theorem dX9_handOver_57 : decode cX9_handOver 57 = .ok (.getfield 126, 3) := by decide +kernel
theorem dX9_handOver_60 : decode cX9_handOver 60 = .ok (.iload_n 3, 1) := by decide +kernel
theorem dX9_handOver_61 : decode cX9_handOver 61 = .ok (.dup2, 1) := by decide +kernel
theorem dX9_handOver_62 : decode cX9_handOver 62 = .ok (.iaload, 1) := by decide +kernel
theorem dX9_handOver_63 : decode cX9_handOver 63 = .ok (.iload 5, 2) := by decide +kernel
theorem dX9_handOver_65 : decode cX9_handOver 65 = .ok (.isub, 1) := by decide +kernel
theorem dX9_handOver_66 : decode cX9_handOver 66 = .ok (.iastore, 1) := by decide +kernel
theorem dX9_handOver_67 : decode cX9_handOver 67 = .ok (.aload_n 1, 1) := by decide +kernel
theorem dX9_handOver_68 : decode cX9_handOver 68 = .ok (.dup, 1) := by decide +kernel
theorem dX9_handOver_69 : decode cX9_handOver 69 = .ok (.getfield 144, 3) := by decide +kernel
theorem dX9_handOver_72 : decode cX9_handOver 72 = .ok (.iload 5, 2) := by decide +kernel
theorem dX9_handOver_74 : decode cX9_handOver 74 = .ok (.isub, 1) := by decide +kernel
theorem dX9_handOver_75 : decode cX9_handOver 75 = .ok (.putfield 144, 3) := by decide +kernel
theorem dX9_handOver_78 : decode cX9_handOver 78 = .ok (.iinc 3 1, 3) := by decide +kernel
theorem dX9_handOver_81 : decode cX9_handOver 81 = .ok (.goto (-79), 3) := by decide +kernel
theorem dX9_handOver_84 : decode cX9_handOver 84 = .ok (.return_, 1) := by decide +kernel
theorem dX9_movedPrice_0 : decode cX9_movedPrice 0 = .ok (.iload_n 1, 1) := by decide +kernel
theorem dX9_movedPrice_1 : decode cX9_movedPrice 1 = .ok (.iload_n 2, 1) := by decide +kernel
theorem dX9_movedPrice_2 : decode cX9_movedPrice 2 = .ok (.imul, 1) := by decide +kernel
theorem dX9_movedPrice_3 : decode cX9_movedPrice 3 = .ok (.iload_n 3, 1) := by decide +kernel
theorem dX9_movedPrice_4 : decode cX9_movedPrice 4 = .ok (.invokestatic 243, 3) := by decide +kernel
theorem dX9_movedPrice_7 : decode cX9_movedPrice 7 = .ok (.istore 4, 2) := by decide +kernel
theorem dX9_movedPrice_9 : decode cX9_movedPrice 9 = .ok (.iload 4, 2) := by decide +kernel
theorem dX9_movedPrice_11 : decode cX9_movedPrice 11 = .ok (.iload_n 1, 1) := by decide +kernel
theorem dX9_movedPrice_12 : decode cX9_movedPrice 12 = .ok (.aload_n 0, 1) := by decide +kernel
theorem dX9_movedPrice_13 : decode cX9_movedPrice 13 = .ok (.getfield 19, 3) := by decide +kernel
theorem dX9_movedPrice_16 : decode cX9_movedPrice 16 = .ok (.getstatic 265, 3) := by decide +kernel
theorem dX9_movedPrice_19 : decode cX9_movedPrice 19 = .ok (.invokevirtual 228, 3) := by decide +kernel
theorem dX9_movedPrice_22 : decode cX9_movedPrice 22 = .ok (.imul, 1) := by decide +kernel
theorem dX9_movedPrice_23 : decode cX9_movedPrice 23 = .ok (.bipush 100, 2) := by decide +kernel
theorem dX9_movedPrice_25 : decode cX9_movedPrice 25 = .ok (.idiv, 1) := by decide +kernel
theorem dX9_movedPrice_26 : decode cX9_movedPrice 26 = .ok (.invokestatic 232, 3) := by decide +kernel
theorem dX9_movedPrice_29 : decode cX9_movedPrice 29 = .ok (.istore 4, 2) := by decide +kernel
theorem dX9_movedPrice_31 : decode cX9_movedPrice 31 = .ok (.iload 4, 2) := by decide +kernel
theorem dX9_movedPrice_33 : decode cX9_movedPrice 33 = .ok (.iload_n 1, 1) := by decide +kernel
theorem dX9_movedPrice_34 : decode cX9_movedPrice 34 = .ok (.aload_n 0, 1) := by decide +kernel
theorem dX9_movedPrice_35 : decode cX9_movedPrice 35 = .ok (.getfield 19, 3) := by decide +kernel
theorem dX9_movedPrice_38 : decode cX9_movedPrice 38 = .ok (.getstatic 268, 3) := by decide +kernel
theorem dX9_movedPrice_41 : decode cX9_movedPrice 41 = .ok (.invokevirtual 228, 3) := by decide +kernel
theorem dX9_movedPrice_44 : decode cX9_movedPrice 44 = .ok (.imul, 1) := by decide +kernel
theorem dX9_movedPrice_45 : decode cX9_movedPrice 45 = .ok (.bipush 100, 2) := by decide +kernel
theorem dX9_movedPrice_47 : decode cX9_movedPrice 47 = .ok (.invokestatic 243, 3) := by decide +kernel
theorem dX9_movedPrice_50 : decode cX9_movedPrice 50 = .ok (.invokestatic 271, 3) := by decide +kernel
theorem dX9_movedPrice_53 : decode cX9_movedPrice 53 = .ok (.istore 4, 2) := by decide +kernel
theorem dX9_movedPrice_55 : decode cX9_movedPrice 55 = .ok (.iload 4, 2) := by decide +kernel
theorem dX9_movedPrice_57 : decode cX9_movedPrice 57 = .ok (.aload_n 0, 1) := by decide +kernel
theorem dX9_movedPrice_58 : decode cX9_movedPrice 58 = .ok (.getfield 19, 3) := by decide +kernel
theorem dX9_movedPrice_61 : decode cX9_movedPrice 61 = .ok (.getstatic 274, 3) := by decide +kernel
theorem dX9_movedPrice_64 : decode cX9_movedPrice 64 = .ok (.invokevirtual 228, 3) := by decide +kernel
theorem dX9_movedPrice_67 : decode cX9_movedPrice 67 = .ok (.invokestatic 271, 3) := by decide +kernel
theorem dX9_movedPrice_70 : decode cX9_movedPrice 70 = .ok (.istore 4, 2) := by decide +kernel
theorem dX9_movedPrice_72 : decode cX9_movedPrice 72 = .ok (.iload 4, 2) := by decide +kernel
theorem dX9_movedPrice_74 : decode cX9_movedPrice 74 = .ok (.sipush 9999, 3) := by decide +kernel
theorem dX9_movedPrice_77 : decode cX9_movedPrice 77 = .ok (.invokestatic 232, 3) := by decide +kernel
theorem dX9_movedPrice_80 : decode cX9_movedPrice 80 = .ok (.ireturn, 1) := by decide +kernel
theorem dX9_isWithin_0 : decode cX9_isWithin 0 = .ok (.iload_n 0, 1) := by decide +kernel
theorem dX9_isWithin_1 : decode cX9_isWithin 1 = .ok (.iload_n 1, 1) := by decide +kernel
theorem dX9_isWithin_2 : decode cX9_isWithin 2 = .ok (.if_icmp .lt 12, 3) := by decide +kernel
theorem dX9_isWithin_5 : decode cX9_isWithin 5 = .ok (.iload_n 0, 1) := by decide +kernel
theorem dX9_isWithin_6 : decode cX9_isWithin 6 = .ok (.iload_n 2, 1) := by decide +kernel
theorem dX9_isWithin_7 : decode cX9_isWithin 7 = .ok (.if_icmp .gt 7, 3) := by decide +kernel
theorem dX9_isWithin_10 : decode cX9_isWithin 10 = .ok (.iconst 1, 1) := by decide +kernel
theorem dX9_isWithin_11 : decode cX9_isWithin 11 = .ok (.goto 4, 3) := by decide +kernel
theorem dX9_isWithin_14 : decode cX9_isWithin 14 = .ok (.iconst 0, 1) := by decide +kernel
theorem dX9_isWithin_15 : decode cX9_isWithin 15 = .ok (.ireturn, 1) := by decide +kernel
theorem dX9_sumOf_0 : decode cX9_sumOf 0 = .ok (.iconst 0, 1) := by decide +kernel
theorem dX9_sumOf_1 : decode cX9_sumOf 1 = .ok (.istore_n 1, 1) := by decide +kernel
theorem dX9_sumOf_2 : decode cX9_sumOf 2 = .ok (.aload_n 0, 1) := by decide +kernel
theorem dX9_sumOf_3 : decode cX9_sumOf 3 = .ok (.astore_n 2, 1) := by decide +kernel
theorem dX9_sumOf_4 : decode cX9_sumOf 4 = .ok (.aload_n 2, 1) := by decide +kernel
theorem dX9_sumOf_5 : decode cX9_sumOf 5 = .ok (.arraylength, 1) := by decide +kernel
theorem dX9_sumOf_6 : decode cX9_sumOf 6 = .ok (.istore_n 3, 1) := by decide +kernel
theorem dX9_sumOf_7 : decode cX9_sumOf 7 = .ok (.iconst 0, 1) := by decide +kernel
theorem dX9_sumOf_8 : decode cX9_sumOf 8 = .ok (.istore 4, 2) := by decide +kernel
theorem dX9_sumOf_10 : decode cX9_sumOf 10 = .ok (.iload 4, 2) := by decide +kernel
theorem dX9_sumOf_12 : decode cX9_sumOf 12 = .ok (.iload_n 3, 1) := by decide +kernel
theorem dX9_sumOf_13 : decode cX9_sumOf 13 = .ok (.if_icmp .ge 20, 3) := by decide +kernel
theorem dX9_sumOf_16 : decode cX9_sumOf 16 = .ok (.aload_n 2, 1) := by decide +kernel
theorem dX9_sumOf_17 : decode cX9_sumOf 17 = .ok (.iload 4, 2) := by decide +kernel
theorem dX9_sumOf_19 : decode cX9_sumOf 19 = .ok (.iaload, 1) := by decide +kernel
theorem dX9_sumOf_20 : decode cX9_sumOf 20 = .ok (.istore 5, 2) := by decide +kernel
theorem dX9_sumOf_22 : decode cX9_sumOf 22 = .ok (.iload_n 1, 1) := by decide +kernel
theorem dX9_sumOf_23 : decode cX9_sumOf 23 = .ok (.iload 5, 2) := by decide +kernel
theorem dX9_sumOf_25 : decode cX9_sumOf 25 = .ok (.iadd, 1) := by decide +kernel
theorem dX9_sumOf_26 : decode cX9_sumOf 26 = .ok (.istore_n 1, 1) := by decide +kernel
theorem dX9_sumOf_27 : decode cX9_sumOf 27 = .ok (.iinc 4 1, 3) := by decide +kernel
theorem dX9_sumOf_30 : decode cX9_sumOf 30 = .ok (.goto (-20), 3) := by decide +kernel
theorem dX9_sumOf_33 : decode cX9_sumOf 33 = .ok (.iload_n 1, 1) := by decide +kernel
theorem dX9_sumOf_34 : decode cX9_sumOf 34 = .ok (.ireturn, 1) := by decide +kernel
theorem dX9_dividedUp_0 : decode cX9_dividedUp 0 = .ok (.iload_n 1, 1) := by decide +kernel
theorem dX9_dividedUp_1 : decode cX9_dividedUp 1 = .ok (.ifCond .le 13, 3) := by decide +kernel
theorem dX9_dividedUp_4 : decode cX9_dividedUp 4 = .ok (.iload_n 0, 1) := by decide +kernel
theorem dX9_dividedUp_5 : decode cX9_dividedUp 5 = .ok (.iload_n 1, 1) := by decide +kernel
theorem dX9_dividedUp_6 : decode cX9_dividedUp 6 = .ok (.iadd, 1) := by decide +kernel
theorem dX9_dividedUp_7 : decode cX9_dividedUp 7 = .ok (.iconst 1, 1) := by decide +kernel
theorem dX9_dividedUp_8 : decode cX9_dividedUp 8 = .ok (.isub, 1) := by decide +kernel
theorem dX9_dividedUp_9 : decode cX9_dividedUp 9 = .ok (.iload_n 1, 1) := by decide +kernel
theorem dX9_dividedUp_10 : decode cX9_dividedUp 10 = .ok (.idiv, 1) := by decide +kernel
theorem dX9_dividedUp_11 : decode cX9_dividedUp 11 = .ok (.goto 4, 3) := by decide +kernel
theorem dX9_dividedUp_14 : decode cX9_dividedUp 14 = .ok (.iconst 0, 1) := by decide +kernel
theorem dX9_dividedUp_15 : decode cX9_dividedUp 15 = .ok (.ireturn, 1) := by decide +kernel
theorem dX10_init_0 : decode cX10_init 0 = .ok (.aload_n 0, 1) := by decide +kernel
theorem dX10_init_1 : decode cX10_init 1 = .ok (.invokespecial 1, 3) := by decide +kernel
theorem dX10_init_4 : decode cX10_init 4 = .ok (.aload_n 0, 1) := by decide +kernel
theorem dX10_init_5 : decode cX10_init 5 = .ok (.sipush 140, 3) := by decide +kernel
theorem dX10_init_8 : decode cX10_init 8 = .ok (.newarray .int, 2) := by decide +kernel
theorem dX10_init_10 : decode cX10_init 10 = .ok (.putfield 7, 3) := by decide +kernel
theorem dX10_init_13 : decode cX10_init 13 = .ok (.aload_n 0, 1) := by decide +kernel
theorem dX10_init_14 : decode cX10_init 14 = .ok (.bipush 6, 2) := by decide +kernel
theorem dX10_init_16 : decode cX10_init 16 = .ok (.newarray .int, 2) := by decide +kernel
theorem dX10_init_18 : decode cX10_init 18 = .ok (.dup, 1) := by decide +kernel
theorem dX10_init_19 : decode cX10_init 19 = .ok (.iconst 0, 1) := by decide +kernel
theorem dX10_init_20 : decode cX10_init 20 = .ok (.bipush 10, 2) := by decide +kernel
theorem dX10_init_22 : decode cX10_init 22 = .ok (.iastore, 1) := by decide +kernel
theorem dX10_init_23 : decode cX10_init 23 = .ok (.dup, 1) := by decide +kernel
theorem dX10_init_24 : decode cX10_init 24 = .ok (.iconst 1, 1) := by decide +kernel
theorem dX10_init_25 : decode cX10_init 25 = .ok (.bipush 50, 2) := by decide +kernel
theorem dX10_init_27 : decode cX10_init 27 = .ok (.iastore, 1) := by decide +kernel
theorem dX10_init_28 : decode cX10_init 28 = .ok (.dup, 1) := by decide +kernel
theorem dX10_init_29 : decode cX10_init 29 = .ok (.iconst 2, 1) := by decide +kernel
theorem dX10_init_30 : decode cX10_init 30 = .ok (.bipush 25, 2) := by decide +kernel
theorem dX10_init_32 : decode cX10_init 32 = .ok (.iastore, 1) := by decide +kernel
theorem dX10_init_33 : decode cX10_init 33 = .ok (.dup, 1) := by decide +kernel
theorem dX10_init_34 : decode cX10_init 34 = .ok (.iconst 3, 1) := by decide +kernel
theorem dX10_init_35 : decode cX10_init 35 = .ok (.sipush 200, 3) := by decide +kernel
theorem dX10_init_38 : decode cX10_init 38 = .ok (.iastore, 1) := by decide +kernel
theorem dX10_init_39 : decode cX10_init 39 = .ok (.dup, 1) := by decide +kernel
theorem dX10_init_40 : decode cX10_init 40 = .ok (.iconst 4, 1) := by decide +kernel
theorem dX10_init_41 : decode cX10_init 41 = .ok (.bipush 50, 2) := by decide +kernel
theorem dX10_init_43 : decode cX10_init 43 = .ok (.iastore, 1) := by decide +kernel
theorem dX10_init_44 : decode cX10_init 44 = .ok (.dup, 1) := by decide +kernel
theorem dX10_init_45 : decode cX10_init 45 = .ok (.iconst 5, 1) := by decide +kernel
theorem dX10_init_46 : decode cX10_init 46 = .ok (.iconst 1, 1) := by decide +kernel
theorem dX10_init_47 : decode cX10_init 47 = .ok (.iastore, 1) := by decide +kernel
theorem dX10_init_48 : decode cX10_init 48 = .ok (.putfield 13, 3) := by decide +kernel
theorem dX10_init_51 : decode cX10_init 51 = .ok (.aload_n 0, 1) := by decide +kernel
theorem dX10_init_52 : decode cX10_init 52 = .ok (.bipush 6, 2) := by decide +kernel
theorem dX10_init_54 : decode cX10_init 54 = .ok (.newarray .int, 2) := by decide +kernel
theorem dX10_init_56 : decode cX10_init 56 = .ok (.dup, 1) := by decide +kernel
theorem dX10_init_57 : decode cX10_init 57 = .ok (.iconst 0, 1) := by decide +kernel
theorem dX10_init_58 : decode cX10_init 58 = .ok (.bipush 10, 2) := by decide +kernel
theorem dX10_init_60 : decode cX10_init 60 = .ok (.iastore, 1) := by decide +kernel
theorem dX10_init_61 : decode cX10_init 61 = .ok (.dup, 1) := by decide +kernel
theorem dX10_init_62 : decode cX10_init 62 = .ok (.iconst 1, 1) := by decide +kernel
theorem dX10_init_63 : decode cX10_init 63 = .ok (.bipush 50, 2) := by decide +kernel
theorem dX10_init_65 : decode cX10_init 65 = .ok (.iastore, 1) := by decide +kernel
theorem dX10_init_66 : decode cX10_init 66 = .ok (.dup, 1) := by decide +kernel
theorem dX10_init_67 : decode cX10_init 67 = .ok (.iconst 2, 1) := by decide +kernel
theorem dX10_init_68 : decode cX10_init 68 = .ok (.bipush 25, 2) := by decide +kernel
theorem dX10_init_70 : decode cX10_init 70 = .ok (.iastore, 1) := by decide +kernel
theorem dX10_init_71 : decode cX10_init 71 = .ok (.dup, 1) := by decide +kernel
theorem dX10_init_72 : decode cX10_init 72 = .ok (.iconst 3, 1) := by decide +kernel
theorem dX10_init_73 : decode cX10_init 73 = .ok (.sipush 200, 3) := by decide +kernel
theorem dX10_init_76 : decode cX10_init 76 = .ok (.iastore, 1) := by decide +kernel
theorem dX10_init_77 : decode cX10_init 77 = .ok (.dup, 1) := by decide +kernel
theorem dX10_init_78 : decode cX10_init 78 = .ok (.iconst 4, 1) := by decide +kernel
theorem dX10_init_79 : decode cX10_init 79 = .ok (.bipush 50, 2) := by decide +kernel
theorem dX10_init_81 : decode cX10_init 81 = .ok (.iastore, 1) := by decide +kernel
theorem dX10_init_82 : decode cX10_init 82 = .ok (.dup, 1) := by decide +kernel
theorem dX10_init_83 : decode cX10_init 83 = .ok (.iconst 5, 1) := by decide +kernel
theorem dX10_init_84 : decode cX10_init 84 = .ok (.iconst 1, 1) := by decide +kernel
theorem dX10_init_85 : decode cX10_init 85 = .ok (.iastore, 1) := by decide +kernel
theorem dX10_init_86 : decode cX10_init 86 = .ok (.putfield 16, 3) := by decide +kernel
theorem dX10_init_89 : decode cX10_init 89 = .ok (.aload_n 0, 1) := by decide +kernel
theorem dX10_init_90 : decode cX10_init 90 = .ok (.bipush 6, 2) := by decide +kernel
theorem dX10_init_92 : decode cX10_init 92 = .ok (.newarray .int, 2) := by decide +kernel
theorem dX10_init_94 : decode cX10_init 94 = .ok (.dup, 1) := by decide +kernel
theorem dX10_init_95 : decode cX10_init 95 = .ok (.iconst 0, 1) := by decide +kernel
theorem dX10_init_96 : decode cX10_init 96 = .ok (.iconst 0, 1) := by decide +kernel
theorem dX10_init_97 : decode cX10_init 97 = .ok (.iastore, 1) := by decide +kernel
theorem dX10_init_98 : decode cX10_init 98 = .ok (.dup, 1) := by decide +kernel
theorem dX10_init_99 : decode cX10_init 99 = .ok (.iconst 1, 1) := by decide +kernel
theorem dX10_init_100 : decode cX10_init 100 = .ok (.iconst 1, 1) := by decide +kernel
theorem dX10_init_101 : decode cX10_init 101 = .ok (.iastore, 1) := by decide +kernel
theorem dX10_init_102 : decode cX10_init 102 = .ok (.dup, 1) := by decide +kernel
theorem dX10_init_103 : decode cX10_init 103 = .ok (.iconst 2, 1) := by decide +kernel
theorem dX10_init_104 : decode cX10_init 104 = .ok (.iconst 0, 1) := by decide +kernel
theorem dX10_init_105 : decode cX10_init 105 = .ok (.iastore, 1) := by decide +kernel
theorem dX10_init_106 : decode cX10_init 106 = .ok (.dup, 1) := by decide +kernel
theorem dX10_init_107 : decode cX10_init 107 = .ok (.iconst 3, 1) := by decide +kernel
theorem dX10_init_108 : decode cX10_init 108 = .ok (.bipush 100, 2) := by decide +kernel
theorem dX10_init_110 : decode cX10_init 110 = .ok (.iastore, 1) := by decide +kernel
theorem dX10_init_111 : decode cX10_init 111 = .ok (.dup, 1) := by decide +kernel
theorem dX10_init_112 : decode cX10_init 112 = .ok (.iconst 4, 1) := by decide +kernel
theorem dX10_init_113 : decode cX10_init 113 = .ok (.iconst 1, 1) := by decide +kernel
theorem dX10_init_114 : decode cX10_init 114 = .ok (.iastore, 1) := by decide +kernel
theorem dX10_init_115 : decode cX10_init 115 = .ok (.dup, 1) := by decide +kernel
theorem dX10_init_116 : decode cX10_init 116 = .ok (.iconst 5, 1) := by decide +kernel
theorem dX10_init_117 : decode cX10_init 117 = .ok (.iconst 1, 1) := by decide +kernel
theorem dX10_init_118 : decode cX10_init 118 = .ok (.iastore, 1) := by decide +kernel
theorem dX10_init_119 : decode cX10_init 119 = .ok (.putfield 19, 3) := by decide +kernel
theorem dX10_init_122 : decode cX10_init 122 = .ok (.aload_n 0, 1) := by decide +kernel
theorem dX10_init_123 : decode cX10_init 123 = .ok (.bipush 6, 2) := by decide +kernel
theorem dX10_init_125 : decode cX10_init 125 = .ok (.newarray .int, 2) := by decide +kernel
theorem dX10_init_127 : decode cX10_init 127 = .ok (.dup, 1) := by decide +kernel
theorem dX10_init_128 : decode cX10_init 128 = .ok (.iconst 0, 1) := by decide +kernel
theorem dX10_init_129 : decode cX10_init 129 = .ok (.bipush 50, 2) := by decide +kernel
theorem dX10_init_131 : decode cX10_init 131 = .ok (.iastore, 1) := by decide +kernel
theorem dX10_init_132 : decode cX10_init 132 = .ok (.dup, 1) := by decide +kernel
theorem dX10_init_133 : decode cX10_init 133 = .ok (.iconst 1, 1) := by decide +kernel
theorem dX10_init_134 : decode cX10_init 134 = .ok (.bipush 100, 2) := by decide +kernel
theorem dX10_init_136 : decode cX10_init 136 = .ok (.iastore, 1) := by decide +kernel
theorem dX10_init_137 : decode cX10_init 137 = .ok (.dup, 1) := by decide +kernel
theorem dX10_init_138 : decode cX10_init 138 = .ok (.iconst 2, 1) := by decide +kernel
theorem dX10_init_139 : decode cX10_init 139 = .ok (.sipush 300, 3) := by decide +kernel
theorem dX10_init_142 : decode cX10_init 142 = .ok (.iastore, 1) := by decide +kernel
theorem dX10_init_143 : decode cX10_init 143 = .ok (.dup, 1) := by decide +kernel
theorem dX10_init_144 : decode cX10_init 144 = .ok (.iconst 3, 1) := by decide +kernel
theorem dX10_init_145 : decode cX10_init 145 = .ok (.sipush 999, 3) := by decide +kernel
theorem dX10_init_148 : decode cX10_init 148 = .ok (.iastore, 1) := by decide +kernel
theorem dX10_init_149 : decode cX10_init 149 = .ok (.dup, 1) := by decide +kernel
theorem dX10_init_150 : decode cX10_init 150 = .ok (.iconst 4, 1) := by decide +kernel
theorem dX10_init_151 : decode cX10_init 151 = .ok (.bipush 100, 2) := by decide +kernel
theorem dX10_init_153 : decode cX10_init 153 = .ok (.iastore, 1) := by decide +kernel
theorem dX10_init_154 : decode cX10_init 154 = .ok (.dup, 1) := by decide +kernel
theorem dX10_init_155 : decode cX10_init 155 = .ok (.iconst 5, 1) := by decide +kernel
theorem dX10_init_156 : decode cX10_init 156 = .ok (.sipush 9999, 3) := by decide +kernel
theorem dX10_init_159 : decode cX10_init 159 = .ok (.iastore, 1) := by decide +kernel
theorem dX10_init_160 : decode cX10_init 160 = .ok (.putfield 22, 3) := by decide +kernel
theorem dX10_init_163 : decode cX10_init 163 = .ok (.aload_n 0, 1) := by decide +kernel
theorem dX10_init_164 : decode cX10_init 164 = .ok (.bipush 6, 2) := by decide +kernel
theorem dX10_init_166 : decode cX10_init 166 = .ok (.newarray .int, 2) := by decide +kernel
theorem dX10_init_168 : decode cX10_init 168 = .ok (.dup, 1) := by decide +kernel
theorem dX10_init_169 : decode cX10_init 169 = .ok (.iconst 0, 1) := by decide +kernel
theorem dX10_init_170 : decode cX10_init 170 = .ok (.bipush 10, 2) := by decide +kernel
theorem dX10_init_172 : decode cX10_init 172 = .ok (.iastore, 1) := by decide +kernel
theorem dX10_init_173 : decode cX10_init 173 = .ok (.dup, 1) := by decide +kernel
theorem dX10_init_174 : decode cX10_init 174 = .ok (.iconst 1, 1) := by decide +kernel
theorem dX10_init_175 : decode cX10_init 175 = .ok (.bipush 50, 2) := by decide +kernel
theorem dX10_init_177 : decode cX10_init 177 = .ok (.iastore, 1) := by decide +kernel
theorem dX10_init_178 : decode cX10_init 178 = .ok (.dup, 1) := by decide +kernel
theorem dX10_init_179 : decode cX10_init 179 = .ok (.iconst 2, 1) := by decide +kernel
theorem dX10_init_180 : decode cX10_init 180 = .ok (.bipush 25, 2) := by decide +kernel
theorem dX10_init_182 : decode cX10_init 182 = .ok (.iastore, 1) := by decide +kernel
theorem dX10_init_183 : decode cX10_init 183 = .ok (.dup, 1) := by decide +kernel
theorem dX10_init_184 : decode cX10_init 184 = .ok (.iconst 3, 1) := by decide +kernel
theorem dX10_init_185 : decode cX10_init 185 = .ok (.sipush 200, 3) := by decide +kernel
theorem dX10_init_188 : decode cX10_init 188 = .ok (.iastore, 1) := by decide +kernel
theorem dX10_init_189 : decode cX10_init 189 = .ok (.dup, 1) := by decide +kernel
theorem dX10_init_190 : decode cX10_init 190 = .ok (.iconst 4, 1) := by decide +kernel
theorem dX10_init_191 : decode cX10_init 191 = .ok (.bipush 50, 2) := by decide +kernel
theorem dX10_init_193 : decode cX10_init 193 = .ok (.iastore, 1) := by decide +kernel
theorem dX10_init_194 : decode cX10_init 194 = .ok (.dup, 1) := by decide +kernel
theorem dX10_init_195 : decode cX10_init 195 = .ok (.iconst 5, 1) := by decide +kernel
theorem dX10_init_196 : decode cX10_init 196 = .ok (.iconst 1, 1) := by decide +kernel
theorem dX10_init_197 : decode cX10_init 197 = .ok (.iastore, 1) := by decide +kernel
theorem dX10_init_198 : decode cX10_init 198 = .ok (.putfield 25, 3) := by decide +kernel
theorem dX10_init_201 : decode cX10_init 201 = .ok (.aload_n 0, 1) := by decide +kernel
theorem dX10_init_202 : decode cX10_init 202 = .ok (.bipush 10, 2) := by decide +kernel
theorem dX10_init_204 : decode cX10_init 204 = .ok (.newarray .int, 2) := by decide +kernel
theorem dX10_init_206 : decode cX10_init 206 = .ok (.putfield 28, 3) := by decide +kernel
theorem dX10_init_209 : decode cX10_init 209 = .ok (.aload_n 0, 1) := by decide +kernel
theorem dX10_init_210 : decode cX10_init 210 = .ok (.bipush 10, 2) := by decide +kernel
theorem dX10_init_212 : decode cX10_init 212 = .ok (.newarray .int, 2) := by decide +kernel
theorem dX10_init_214 : decode cX10_init 214 = .ok (.putfield 31, 3) := by decide +kernel
theorem dX10_init_217 : decode cX10_init 217 = .ok (.aload_n 0, 1) := by decide +kernel
theorem dX10_init_218 : decode cX10_init 218 = .ok (.bipush 10, 2) := by decide +kernel
theorem dX10_init_220 : decode cX10_init 220 = .ok (.newarray .int, 2) := by decide +kernel
theorem dX10_init_222 : decode cX10_init 222 = .ok (.putfield 34, 3) := by decide +kernel
theorem dX10_init_225 : decode cX10_init 225 = .ok (.aload_n 0, 1) := by decide +kernel
theorem dX10_init_226 : decode cX10_init 226 = .ok (.sipush 500, 3) := by decide +kernel
theorem dX10_init_229 : decode cX10_init 229 = .ok (.newarray .int, 2) := by decide +kernel
theorem dX10_init_231 : decode cX10_init 231 = .ok (.putfield 37, 3) := by decide +kernel
theorem dX10_init_234 : decode cX10_init 234 = .ok (.aload_n 0, 1) := by decide +kernel
theorem dX10_init_235 : decode cX10_init 235 = .ok (.bipush 10, 2) := by decide +kernel
theorem dX10_init_237 : decode cX10_init 237 = .ok (.newarray .int, 2) := by decide +kernel
theorem dX10_init_239 : decode cX10_init 239 = .ok (.putfield 40, 3) := by decide +kernel
theorem dX10_init_242 : decode cX10_init 242 = .ok (.aload_n 0, 1) := by decide +kernel
theorem dX10_init_243 : decode cX10_init 243 = .ok (.bipush 28, 2) := by decide +kernel
theorem dX10_init_245 : decode cX10_init 245 = .ok (.newarray .int, 2) := by decide +kernel
theorem dX10_init_247 : decode cX10_init 247 = .ok (.putfield 43, 3) := by decide +kernel
theorem dX10_init_250 : decode cX10_init 250 = .ok (.aload_n 0, 1) := by decide +kernel
theorem dX10_init_251 : decode cX10_init 251 = .ok (.bipush 24, 2) := by decide +kernel
theorem dX10_init_253 : decode cX10_init 253 = .ok (.newarray .int, 2) := by decide +kernel
theorem dX10_init_255 : decode cX10_init 255 = .ok (.putfield 46, 3) := by decide +kernel
theorem dX10_init_258 : decode cX10_init 258 = .ok (.aload_n 0, 1) := by decide +kernel
theorem dX10_init_259 : decode cX10_init 259 = .ok (.iconst 4, 1) := by decide +kernel
theorem dX10_init_260 : decode cX10_init 260 = .ok (.newarray .int, 2) := by decide +kernel
theorem dX10_init_262 : decode cX10_init 262 = .ok (.putfield 49, 3) := by decide +kernel
theorem dX10_init_265 : decode cX10_init 265 = .ok (.aload_n 0, 1) := by decide +kernel
theorem dX10_init_266 : decode cX10_init 266 = .ok (.iconst 4, 1) := by decide +kernel
theorem dX10_init_267 : decode cX10_init 267 = .ok (.newarray .int, 2) := by decide +kernel
theorem dX10_init_269 : decode cX10_init 269 = .ok (.putfield 52, 3) := by decide +kernel
theorem dX10_init_272 : decode cX10_init 272 = .ok (.aload_n 0, 1) := by decide +kernel
theorem dX10_init_273 : decode cX10_init 273 = .ok (.bipush 96, 2) := by decide +kernel
theorem dX10_init_275 : decode cX10_init 275 = .ok (.newarray .int, 2) := by decide +kernel
theorem dX10_init_277 : decode cX10_init 277 = .ok (.putfield 55, 3) := by decide +kernel
theorem dX10_init_280 : decode cX10_init 280 = .ok (.aload_n 0, 1) := by decide +kernel
theorem dX10_init_281 : decode cX10_init 281 = .ok (.sipush 280, 3) := by decide +kernel
theorem dX10_init_284 : decode cX10_init 284 = .ok (.newarray .int, 2) := by decide +kernel
theorem dX10_init_286 : decode cX10_init 286 = .ok (.putfield 58, 3) := by decide +kernel
theorem dX10_init_289 : decode cX10_init 289 = .ok (.aload_n 0, 1) := by decide +kernel
theorem dX10_init_290 : decode cX10_init 290 = .ok (.sipush 280, 3) := by decide +kernel
theorem dX10_init_293 : decode cX10_init 293 = .ok (.newarray .int, 2) := by decide +kernel
theorem dX10_init_295 : decode cX10_init 295 = .ok (.putfield 61, 3) := by decide +kernel
theorem dX10_init_298 : decode cX10_init 298 = .ok (.aload_n 0, 1) := by decide +kernel
theorem dX10_init_299 : decode cX10_init 299 = .ok (.sipush 14000, 3) := by decide +kernel
theorem dX10_init_302 : decode cX10_init 302 = .ok (.newarray .int, 2) := by decide +kernel
theorem dX10_init_304 : decode cX10_init 304 = .ok (.putfield 64, 3) := by decide +kernel
theorem dX10_init_307 : decode cX10_init 307 = .ok (.aload_n 0, 1) := by decide +kernel
theorem dX10_init_308 : decode cX10_init 308 = .ok (.bipush 28, 2) := by decide +kernel
theorem dX10_init_310 : decode cX10_init 310 = .ok (.newarray .int, 2) := by decide +kernel
theorem dX10_init_312 : decode cX10_init 312 = .ok (.putfield 67, 3) := by decide +kernel
theorem dX10_init_315 : decode cX10_init 315 = .ok (.aload_n 0, 1) := by decide +kernel
theorem dX10_init_316 : decode cX10_init 316 = .ok (.bipush 28, 2) := by decide +kernel
theorem dX10_init_318 : decode cX10_init 318 = .ok (.newarray .int, 2) := by decide +kernel
theorem dX10_init_320 : decode cX10_init 320 = .ok (.putfield 70, 3) := by decide +kernel
theorem dX10_init_323 : decode cX10_init 323 = .ok (.return_, 1) := by decide +kernel
theorem dX10_thrown_0 : decode cX10_thrown 0 = .ok (.aload_n 0, 1) := by decide +kernel
theorem dX10_thrown_1 : decode cX10_thrown 1 = .ok (.getfield 73, 3) := by decide +kernel
theorem dX10_thrown_4 : decode cX10_thrown 4 = .ok (.ireturn, 1) := by decide +kernel
theorem dX10_refuse_0 : decode cX10_refuse 0 = .ok (.aload_n 0, 1) := by decide +kernel
theorem dX10_refuse_1 : decode cX10_refuse 1 = .ok (.iconst 1, 1) := by decide +kernel
theorem dX10_refuse_2 : decode cX10_refuse 2 = .ok (.putfield 73, 3) := by decide +kernel
theorem dX10_refuse_5 : decode cX10_refuse 5 = .ok (.iconst 0, 1) := by decide +kernel
theorem dX10_refuse_6 : decode cX10_refuse 6 = .ok (.ireturn, 1) := by decide +kernel
theorem dX10_come_0 : decode cX10_come 0 = .ok (.bipush 24, 2) := by decide +kernel
theorem dX10_come_2 : decode cX10_come 2 = .ok (.istore_n 2, 1) := by decide +kernel
theorem dX10_come_3 : decode cX10_come 3 = .ok (.iload_n 2, 1) := by decide +kernel
theorem dX10_come_4 : decode cX10_come 4 = .ok (.ifCond .lt 35, 3) := by decide +kernel
theorem dX10_come_7 : decode cX10_come 7 = .ok (.aload_n 0, 1) := by decide +kernel
theorem dX10_come_8 : decode cX10_come 8 = .ok (.getfield 7, 3) := by decide +kernel
theorem dX10_come_11 : decode cX10_come 11 = .ok (.aload_n 0, 1) := by decide +kernel
theorem dX10_come_12 : decode cX10_come 12 = .ok (.getfield 77, 3) := by decide +kernel
theorem dX10_come_15 : decode cX10_come 15 = .ok (.iload_n 1, 1) := by decide +kernel
theorem dX10_come_16 : decode cX10_come 16 = .ok (.iload_n 2, 1) := by decide +kernel
theorem dX10_come_17 : decode cX10_come 17 = .ok (.iushr, 1) := by decide +kernel
theorem dX10_come_18 : decode cX10_come 18 = .ok (.sipush 255, 3) := by decide +kernel
theorem dX10_come_21 : decode cX10_come 21 = .ok (.iand, 1) := by decide +kernel
theorem dX10_come_22 : decode cX10_come 22 = .ok (.iastore, 1) := by decide +kernel
theorem dX10_come_23 : decode cX10_come 23 = .ok (.aload_n 0, 1) := by decide +kernel
theorem dX10_come_24 : decode cX10_come 24 = .ok (.dup, 1) := by decide +kernel
theorem dX10_come_25 : decode cX10_come 25 = .ok (.getfield 77, 3) := by decide +kernel
theorem dX10_come_28 : decode cX10_come 28 = .ok (.iconst 1, 1) := by decide +kernel
theorem dX10_come_29 : decode cX10_come 29 = .ok (.iadd, 1) := by decide +kernel
theorem dX10_come_30 : decode cX10_come 30 = .ok (.putfield 77, 3) := by decide +kernel
theorem dX10_come_33 : decode cX10_come 33 = .ok (.iinc 2 (-8), 3) := by decide +kernel
theorem dX10_come_36 : decode cX10_come 36 = .ok (.goto (-33), 3) := by decide +kernel
theorem dX10_come_39 : decode cX10_come 39 = .ok (.return_, 1) := by decide +kernel
theorem dX10_feed_0 : decode cX10_feed 0 = .ok (.aload_n 0, 1) := by decide +kernel
theorem dX10_feed_1 : decode cX10_feed 1 = .ok (.iconst 0, 1) := by decide +kernel
theorem dX10_feed_2 : decode cX10_feed 2 = .ok (.putfield 73, 3) := by decide +kernel
theorem dX10_feed_5 : decode cX10_feed 5 = .ok (.aload_n 0, 1) := by decide +kernel
theorem dX10_feed_6 : decode cX10_feed 6 = .ok (.getfield 77, 3) := by decide +kernel
theorem dX10_feed_9 : decode cX10_feed 9 = .ok (.bipush 20, 2) := by decide +kernel
theorem dX10_feed_11 : decode cX10_feed 11 = .ok (.iadd, 1) := by decide +kernel
theorem dX10_feed_12 : decode cX10_feed 12 = .ok (.sipush 140, 3) := by decide +kernel
theorem dX10_feed_15 : decode cX10_feed 15 = .ok (.if_icmp .le 5, 3) := by decide +kernel
theorem dX10_feed_18 : decode cX10_feed 18 = .ok (.iconst (-1), 1) := by decide +kernel
theorem dX10_feed_19 : decode cX10_feed 19 = .ok (.ireturn, 1) := by decide +kernel
theorem dX10_feed_20 : decode cX10_feed 20 = .ok (.aload_n 0, 1) := by decide +kernel
theorem dX10_feed_21 : decode cX10_feed 21 = .ok (.iload_n 1, 1) := by decide +kernel
theorem dX10_feed_22 : decode cX10_feed 22 = .ok (.invokevirtual 80, 3) := by decide +kernel
theorem dX10_feed_25 : decode cX10_feed 25 = .ok (.aload_n 0, 1) := by decide +kernel
theorem dX10_feed_26 : decode cX10_feed 26 = .ok (.iload_n 2, 1) := by decide +kernel
theorem dX10_feed_27 : decode cX10_feed 27 = .ok (.invokevirtual 80, 3) := by decide +kernel
theorem dX10_feed_30 : decode cX10_feed 30 = .ok (.aload_n 0, 1) := by decide +kernel
theorem dX10_feed_31 : decode cX10_feed 31 = .ok (.iload_n 3, 1) := by decide +kernel
theorem dX10_feed_32 : decode cX10_feed 32 = .ok (.invokevirtual 80, 3) := by decide +kernel
theorem dX10_feed_35 : decode cX10_feed 35 = .ok (.aload_n 0, 1) := by decide +kernel
theorem dX10_feed_36 : decode cX10_feed 36 = .ok (.iload 4, 2) := by decide +kernel
theorem dX10_feed_38 : decode cX10_feed 38 = .ok (.invokevirtual 80, 3) := by decide +kernel
theorem dX10_feed_41 : decode cX10_feed 41 = .ok (.aload_n 0, 1) := by decide +kernel
theorem dX10_feed_42 : decode cX10_feed 42 = .ok (.iload 5, 2) := by decide +kernel
theorem dX10_feed_44 : decode cX10_feed 44 = .ok (.invokevirtual 80, 3) := by decide +kernel
theorem dX10_feed_47 : decode cX10_feed 47 = .ok (.aload_n 0, 1) := by decide +kernel
theorem dX10_feed_48 : decode cX10_feed 48 = .ok (.getfield 77, 3) := by decide +kernel
theorem dX10_feed_51 : decode cX10_feed 51 = .ok (.ireturn, 1) := by decide +kernel
theorem dX10_end_0 : decode cX10_end 0 = .ok (.aload_n 0, 1) := by decide +kernel
theorem dX10_end_1 : decode cX10_end 1 = .ok (.iconst 0, 1) := by decide +kernel
theorem dX10_end_2 : decode cX10_end 2 = .ok (.putfield 73, 3) := by decide +kernel
theorem dX10_end_5 : decode cX10_end 5 = .ok (.iload_n 1, 1) := by decide +kernel
theorem dX10_end_6 : decode cX10_end 6 = .ok (.ifCond .lt 11, 3) := by decide +kernel
theorem dX10_end_9 : decode cX10_end 9 = .ok (.iload_n 1, 1) := by decide +kernel
theorem dX10_end_10 : decode cX10_end 10 = .ok (.aload_n 0, 1) := by decide +kernel
theorem dX10_end_11 : decode cX10_end 11 = .ok (.getfield 77, 3) := by decide +kernel
theorem dX10_end_14 : decode cX10_end 14 = .ok (.if_icmp .le 5, 3) := by decide +kernel
theorem dX10_end_17 : decode cX10_end 17 = .ok (.iconst 0, 1) := by decide +kernel
theorem dX10_end_18 : decode cX10_end 18 = .ok (.ireturn, 1) := by decide +kernel
theorem dX10_end_19 : decode cX10_end 19 = .ok (.aload_n 0, 1) := by decide +kernel
theorem dX10_end_20 : decode cX10_end 20 = .ok (.iload_n 1, 1) := by decide +kernel
theorem dX10_end_21 : decode cX10_end 21 = .ok (.putfield 77, 3) := by decide +kernel
theorem dX10_end_24 : decode cX10_end 24 = .ok (.iconst 1, 1) := by decide +kernel
theorem dX10_end_25 : decode cX10_end 25 = .ok (.ireturn, 1) := by decide +kernel
theorem dX10_byteAt_0 : decode cX10_byteAt 0 = .ok (.iload_n 1, 1) := by decide +kernel
theorem dX10_byteAt_1 : decode cX10_byteAt 1 = .ok (.aload_n 0, 1) := by decide +kernel
theorem dX10_byteAt_2 : decode cX10_byteAt 2 = .ok (.getfield 84, 3) := by decide +kernel
theorem dX10_byteAt_5 : decode cX10_byteAt 5 = .ok (.if_icmp .ge 12, 3) := by decide +kernel
theorem dX10_byteAt_8 : decode cX10_byteAt 8 = .ok (.aload_n 0, 1) := by decide +kernel
theorem dX10_byteAt_9 : decode cX10_byteAt 9 = .ok (.getfield 7, 3) := by decide +kernel
theorem dX10_byteAt_12 : decode cX10_byteAt 12 = .ok (.iload_n 1, 1) := by decide +kernel
theorem dX10_byteAt_13 : decode cX10_byteAt 13 = .ok (.iaload, 1) := by decide +kernel
theorem dX10_byteAt_14 : decode cX10_byteAt 14 = .ok (.goto 4, 3) := by decide +kernel
theorem dX10_byteAt_17 : decode cX10_byteAt 17 = .ok (.iconst 0, 1) := by decide +kernel
theorem dX10_byteAt_18 : decode cX10_byteAt 18 = .ok (.ireturn, 1) := by decide +kernel
theorem dX10_isDigit_0 : decode cX10_isDigit 0 = .ok (.iload_n 0, 1) := by decide +kernel
theorem dX10_isDigit_1 : decode cX10_isDigit 1 = .ok (.bipush 48, 2) := by decide +kernel
theorem dX10_isDigit_3 : decode cX10_isDigit 3 = .ok (.if_icmp .lt 13, 3) := by decide +kernel
theorem dX10_isDigit_6 : decode cX10_isDigit 6 = .ok (.iload_n 0, 1) := by decide +kernel
theorem dX10_isDigit_7 : decode cX10_isDigit 7 = .ok (.bipush 57, 2) := by decide +kernel
theorem dX10_isDigit_9 : decode cX10_isDigit 9 = .ok (.if_icmp .gt 7, 3) := by decide +kernel
theorem dX10_isDigit_12 : decode cX10_isDigit 12 = .ok (.iconst 1, 1) := by decide +kernel
theorem dX10_isDigit_13 : decode cX10_isDigit 13 = .ok (.goto 4, 3) := by decide +kernel
theorem dX10_isDigit_16 : decode cX10_isDigit 16 = .ok (.iconst 0, 1) := by decide +kernel
theorem dX10_isDigit_17 : decode cX10_isDigit 17 = .ok (.ireturn, 1) := by decide +kernel
theorem dX10_isLetter_0 : decode cX10_isLetter 0 = .ok (.iload_n 0, 1) := by decide +kernel
theorem dX10_isLetter_1 : decode cX10_isLetter 1 = .ok (.bipush 97, 2) := by decide +kernel
theorem dX10_isLetter_3 : decode cX10_isLetter 3 = .ok (.if_icmp .lt 13, 3) := by decide +kernel
theorem dX10_isLetter_6 : decode cX10_isLetter 6 = .ok (.iload_n 0, 1) := by decide +kernel
theorem dX10_isLetter_7 : decode cX10_isLetter 7 = .ok (.bipush 122, 2) := by decide +kernel
theorem dX10_isLetter_9 : decode cX10_isLetter 9 = .ok (.if_icmp .gt 7, 3) := by decide +kernel
theorem dX10_isLetter_12 : decode cX10_isLetter 12 = .ok (.iconst 1, 1) := by decide +kernel
theorem dX10_isLetter_13 : decode cX10_isLetter 13 = .ok (.goto 4, 3) := by decide +kernel
theorem dX10_isLetter_16 : decode cX10_isLetter 16 = .ok (.iconst 0, 1) := by decide +kernel
theorem dX10_isLetter_17 : decode cX10_isLetter 17 = .ok (.ireturn, 1) := by decide +kernel
theorem dX10_go_0 : decode cX10_go 0 = .ok (.aload_n 0, 1) := by decide +kernel
theorem dX10_go_1 : decode cX10_go 1 = .ok (.getfield 87, 3) := by decide +kernel
theorem dX10_go_4 : decode cX10_go 4 = .ok (.aload_n 0, 1) := by decide +kernel
theorem dX10_go_5 : decode cX10_go 5 = .ok (.getfield 84, 3) := by decide +kernel
theorem dX10_go_8 : decode cX10_go 8 = .ok (.if_icmp .ge 44, 3) := by decide +kernel
theorem dX10_go_11 : decode cX10_go 11 = .ok (.aload_n 0, 1) := by decide +kernel
theorem dX10_go_12 : decode cX10_go 12 = .ok (.getfield 7, 3) := by decide +kernel
theorem dX10_go_15 : decode cX10_go 15 = .ok (.aload_n 0, 1) := by decide +kernel
theorem dX10_go_16 : decode cX10_go 16 = .ok (.getfield 87, 3) := by decide +kernel
theorem dX10_go_19 : decode cX10_go 19 = .ok (.iaload, 1) := by decide +kernel
theorem dX10_go_20 : decode cX10_go 20 = .ok (.bipush 32, 2) := by decide +kernel
theorem dX10_go_22 : decode cX10_go 22 = .ok (.if_icmp .eq 17, 3) := by decide +kernel
theorem dX10_go_25 : decode cX10_go 25 = .ok (.aload_n 0, 1) := by decide +kernel
theorem dX10_go_26 : decode cX10_go 26 = .ok (.getfield 7, 3) := by decide +kernel
theorem dX10_go_29 : decode cX10_go 29 = .ok (.aload_n 0, 1) := by decide +kernel
theorem dX10_go_30 : decode cX10_go 30 = .ok (.getfield 87, 3) := by decide +kernel
theorem dX10_go_33 : decode cX10_go 33 = .ok (.iaload, 1) := by decide +kernel
theorem dX10_go_34 : decode cX10_go 34 = .ok (.bipush 10, 2) := by decide +kernel
theorem dX10_go_36 : decode cX10_go 36 = .ok (.if_icmp .ne 16, 3) := by decide +kernel
theorem dX10_go_39 : decode cX10_go 39 = .ok (.aload_n 0, 1) := by decide +kernel
theorem dX10_go_40 : decode cX10_go 40 = .ok (.dup, 1) := by decide +kernel
theorem dX10_go_41 : decode cX10_go 41 = .ok (.getfield 87, 3) := by decide +kernel
theorem dX10_go_44 : decode cX10_go 44 = .ok (.iconst 1, 1) := by decide +kernel
theorem dX10_go_45 : decode cX10_go 45 = .ok (.iadd, 1) := by decide +kernel
theorem dX10_go_46 : decode cX10_go 46 = .ok (.putfield 87, 3) := by decide +kernel
theorem dX10_go_49 : decode cX10_go 49 = .ok (.goto (-49), 3) := by decide +kernel
theorem dX10_go_52 : decode cX10_go 52 = .ok (.aload_n 0, 1) := by decide +kernel
theorem dX10_go_53 : decode cX10_go 53 = .ok (.aload_n 0, 1) := by decide +kernel
theorem dX10_go_54 : decode cX10_go 54 = .ok (.getfield 87, 3) := by decide +kernel
theorem dX10_go_57 : decode cX10_go 57 = .ok (.putfield 90, 3) := by decide +kernel
theorem dX10_go_60 : decode cX10_go 60 = .ok (.aload_n 0, 1) := by decide +kernel
theorem dX10_go_61 : decode cX10_go 61 = .ok (.getfield 84, 3) := by decide +kernel
theorem dX10_go_64 : decode cX10_go 64 = .ok (.bipush 120, 2) := by decide +kernel
theorem dX10_go_66 : decode cX10_go 66 = .ok (.if_icmp .le 24, 3) := by decide +kernel
theorem dX10_go_69 : decode cX10_go 69 = .ok (.aload_n 0, 1) := by decide +kernel
theorem dX10_go_70 : decode cX10_go 70 = .ok (.getfield 90, 3) := by decide +kernel
theorem dX10_go_73 : decode cX10_go 73 = .ok (.bipush 120, 2) := by decide +kernel
theorem dX10_go_75 : decode cX10_go 75 = .ok (.if_icmp .lt 15, 3) := by decide +kernel
theorem dX10_go_78 : decode cX10_go 78 = .ok (.aload_n 0, 1) := by decide +kernel
theorem dX10_go_79 : decode cX10_go 79 = .ok (.bipush 120, 2) := by decide +kernel
theorem dX10_go_81 : decode cX10_go 81 = .ok (.putfield 90, 3) := by decide +kernel
theorem dX10_go_84 : decode cX10_go 84 = .ok (.aload_n 0, 1) := by decide +kernel
theorem dX10_go_85 : decode cX10_go 85 = .ok (.iconst 1, 1) := by decide +kernel
theorem dX10_go_86 : decode cX10_go 86 = .ok (.putfield 93, 3) := by decide +kernel
theorem dX10_go_89 : decode cX10_go 89 = .ok (.return_, 1) := by decide +kernel
theorem dX10_go_90 : decode cX10_go 90 = .ok (.aload_n 0, 1) := by decide +kernel
theorem dX10_go_91 : decode cX10_go 91 = .ok (.getfield 87, 3) := by decide +kernel
theorem dX10_go_94 : decode cX10_go 94 = .ok (.aload_n 0, 1) := by decide +kernel
theorem dX10_go_95 : decode cX10_go 95 = .ok (.getfield 84, 3) := by decide +kernel
theorem dX10_go_98 : decode cX10_go 98 = .ok (.if_icmp .lt 9, 3) := by decide +kernel
theorem dX10_go_101 : decode cX10_go 101 = .ok (.aload_n 0, 1) := by decide +kernel
theorem dX10_go_102 : decode cX10_go 102 = .ok (.iconst 0, 1) := by decide +kernel
theorem dX10_go_103 : decode cX10_go 103 = .ok (.putfield 93, 3) := by decide +kernel
theorem dX10_go_106 : decode cX10_go 106 = .ok (.return_, 1) := by decide +kernel
theorem dX10_go_107 : decode cX10_go 107 = .ok (.aload_n 0, 1) := by decide +kernel
theorem dX10_go_108 : decode cX10_go 108 = .ok (.getfield 7, 3) := by decide +kernel
theorem dX10_go_111 : decode cX10_go 111 = .ok (.aload_n 0, 1) := by decide +kernel
theorem dX10_go_112 : decode cX10_go 112 = .ok (.getfield 87, 3) := by decide +kernel
theorem dX10_go_115 : decode cX10_go 115 = .ok (.iaload, 1) := by decide +kernel
theorem dX10_go_116 : decode cX10_go 116 = .ok (.istore_n 1, 1) := by decide +kernel
theorem dX10_go_117 : decode cX10_go 117 = .ok (.iload_n 1, 1) := by decide +kernel
theorem dX10_go_118 : decode cX10_go 118 = .ok (.invokestatic 96, 3) := by decide +kernel
theorem dX10_go_121 : decode cX10_go 121 = .ok (.ifCond .ne 36, 3) := by decide +kernel
theorem dX10_go_124 : decode cX10_go 124 = .ok (.iload_n 1, 1) := by decide +kernel
theorem dX10_go_125 : decode cX10_go 125 = .ok (.invokestatic 100, 3) := by decide +kernel
theorem dX10_go_128 : decode cX10_go 128 = .ok (.ifCond .ne 29, 3) := by decide +kernel
theorem dX10_go_131 : decode cX10_go 131 = .ok (.aload_n 0, 1) := by decide +kernel
theorem dX10_go_132 : decode cX10_go 132 = .ok (.iload_n 1, 1) := by decide +kernel
theorem dX10_go_133 : decode cX10_go 133 = .ok (.bipush 59, 2) := by decide +kernel
theorem dX10_go_135 : decode cX10_go 135 = .ok (.if_icmp .ne 7, 3) := by decide +kernel
theorem dX10_go_138 : decode cX10_go 138 = .ok (.iconst 4, 1) := by decide +kernel
theorem dX10_go_139 : decode cX10_go 139 = .ok (.goto 4, 3) := by decide +kernel
theorem dX10_go_142 : decode cX10_go 142 = .ok (.iconst 1, 1) := by decide +kernel
theorem dX10_go_143 : decode cX10_go 143 = .ok (.putfield 93, 3) := by decide +kernel
theorem dX10_go_146 : decode cX10_go 146 = .ok (.aload_n 0, 1) := by decide +kernel
theorem dX10_go_147 : decode cX10_go 147 = .ok (.dup, 1) := by decide +kernel
theorem dX10_go_148 : decode cX10_go 148 = .ok (.getfield 87, 3) := by decide +kernel
theorem dX10_go_151 : decode cX10_go 151 = .ok (.iconst 1, 1) := by decide +kernel
theorem dX10_go_152 : decode cX10_go 152 = .ok (.iadd, 1) := by decide +kernel
theorem dX10_go_153 : decode cX10_go 153 = .ok (.putfield 87, 3) := by decide +kernel
theorem dX10_go_156 : decode cX10_go 156 = .ok (.return_, 1) := by decide +kernel
theorem dX10_go_157 : decode cX10_go 157 = .ok (.iload_n 1, 1) := by decide +kernel
theorem dX10_go_158 : decode cX10_go 158 = .ok (.invokestatic 96, 3) := by decide +kernel
theorem dX10_go_161 : decode cX10_go 161 = .ok (.istore_n 2, 1) := by decide +kernel
theorem dX10_go_162 : decode cX10_go 162 = .ok (.iconst 1, 1) := by decide +kernel
theorem dX10_go_163 : decode cX10_go 163 = .ok (.istore_n 3, 1) := by decide +kernel
theorem dX10_go_164 : decode cX10_go 164 = .ok (.aload_n 0, 1) := by decide +kernel
theorem dX10_go_165 : decode cX10_go 165 = .ok (.lconst 0, 1) := by decide +kernel
theorem dX10_go_166 : decode cX10_go 166 = .ok (.putfield 103, 3) := by decide +kernel
theorem dX10_go_169 : decode cX10_go 169 = .ok (.aload_n 0, 1) := by decide +kernel
theorem dX10_go_170 : decode cX10_go 170 = .ok (.iconst 0, 1) := by decide +kernel
theorem dX10_go_171 : decode cX10_go 171 = .ok (.putfield 107, 3) := by decide +kernel
theorem dX10_go_174 : decode cX10_go 174 = .ok (.aload_n 0, 1) := by decide +kernel
theorem dX10_go_175 : decode cX10_go 175 = .ok (.aload_n 0, 1) := by decide +kernel
theorem dX10_go_176 : decode cX10_go 176 = .ok (.getfield 87, 3) := by decide +kernel
theorem dX10_go_179 : decode cX10_go 179 = .ok (.invokevirtual 110, 3) := by decide +kernel
theorem dX10_go_182 : decode cX10_go 182 = .ok (.invokestatic 96, 3) := by decide +kernel
theorem dX10_go_185 : decode cX10_go 185 = .ok (.ifCond .ne 17, 3) := by decide +kernel
theorem dX10_go_188 : decode cX10_go 188 = .ok (.aload_n 0, 1) := by decide +kernel
theorem dX10_go_189 : decode cX10_go 189 = .ok (.aload_n 0, 1) := by decide +kernel
theorem dX10_go_190 : decode cX10_go 190 = .ok (.getfield 87, 3) := by decide +kernel
theorem dX10_go_193 : decode cX10_go 193 = .ok (.invokevirtual 110, 3) := by decide +kernel
theorem dX10_go_196 : decode cX10_go 196 = .ok (.invokestatic 100, 3) := by decide +kernel
theorem dX10_go_199 : decode cX10_go 199 = .ok (.ifCond .eq 116, 3) := by decide +kernel
theorem dX10_go_202 : decode cX10_go 202 = .ok (.aload_n 0, 1) := by decide +kernel
theorem dX10_go_203 : decode cX10_go 203 = .ok (.getfield 7, 3) := by decide +kernel
theorem dX10_go_206 : decode cX10_go 206 = .ok (.aload_n 0, 1) := by decide +kernel
theorem dX10_go_207 : decode cX10_go 207 = .ok (.getfield 87, 3) := by decide +kernel
theorem dX10_go_210 : decode cX10_go 210 = .ok (.iaload, 1) := by decide +kernel
theorem dX10_go_211 : decode cX10_go 211 = .ok (.istore 4, 2) := by decide +kernel
theorem dX10_go_213 : decode cX10_go 213 = .ok (.iload_n 3, 1) := by decide +kernel
theorem dX10_go_214 : decode cX10_go 214 = .ok (.ifCond .eq 16, 3) := by decide +kernel
theorem dX10_go_217 : decode cX10_go 217 = .ok (.iload 4, 2) := by decide +kernel
theorem dX10_go_219 : decode cX10_go 219 = .ok (.invokestatic 96, 3) := by decide +kernel
theorem dX10_go_222 : decode cX10_go 222 = .ok (.iload_n 2, 1) := by decide +kernel
theorem dX10_go_223 : decode cX10_go 223 = .ok (.if_icmp .ne 7, 3) := by decide +kernel
theorem dX10_go_226 : decode cX10_go 226 = .ok (.iconst 1, 1) := by decide +kernel
theorem dX10_go_227 : decode cX10_go 227 = .ok (.goto 4, 3) := by decide +kernel
theorem dX10_go_230 : decode cX10_go 230 = .ok (.iconst 0, 1) := by decide +kernel
theorem dX10_go_231 : decode cX10_go 231 = .ok (.istore_n 3, 1) := by decide +kernel
theorem dX10_go_232 : decode cX10_go 232 = .ok (.aload_n 0, 1) := by decide +kernel
theorem dX10_go_233 : decode cX10_go 233 = .ok (.aload_n 0, 1) := by decide +kernel
theorem dX10_go_234 : decode cX10_go 234 = .ok (.getfield 87, 3) := by decide +kernel
theorem dX10_go_237 : decode cX10_go 237 = .ok (.aload_n 0, 1) := by decide +kernel
theorem dX10_go_238 : decode cX10_go 238 = .ok (.getfield 90, 3) := by decide +kernel
theorem dX10_go_241 : decode cX10_go 241 = .ok (.isub, 1) := by decide +kernel
theorem dX10_go_242 : decode cX10_go 242 = .ok (.bipush 8, 2) := by decide +kernel
theorem dX10_go_244 : decode cX10_go 244 = .ok (.if_icmp .ge 22, 3) := by decide +kernel
theorem dX10_go_247 : decode cX10_go 247 = .ok (.ldc2_w 114, 3) := by decide +kernel
theorem dX10_go_250 : decode cX10_go 250 = .ok (.aload_n 0, 1) := by decide +kernel
theorem dX10_go_251 : decode cX10_go 251 = .ok (.getfield 103, 3) := by decide +kernel
theorem dX10_go_254 : decode cX10_go 254 = .ok (.lmul, 1) := by decide +kernel
theorem dX10_go_255 : decode cX10_go 255 = .ok (.iload 4, 2) := by decide +kernel
theorem dX10_go_257 : decode cX10_go 257 = .ok (.i2l, 1) := by decide +kernel
theorem dX10_go_258 : decode cX10_go 258 = .ok (.ladd, 1) := by decide +kernel
theorem dX10_go_259 : decode cX10_go 259 = .ok (.ldc2_w 116, 3) := by decide +kernel
theorem dX10_go_262 : decode cX10_go 262 = .ok (.lsub, 1) := by decide +kernel
theorem dX10_go_263 : decode cX10_go 263 = .ok (.goto 6, 3) := by decide +kernel
theorem dX10_go_266 : decode cX10_go 266 = .ok (.ldc2_w 118, 3) := by decide +kernel
theorem dX10_go_269 : decode cX10_go 269 = .ok (.putfield 103, 3) := by decide +kernel
theorem dX10_go_272 : decode cX10_go 272 = .ok (.aload_n 0, 1) := by decide +kernel
theorem dX10_go_273 : decode cX10_go 273 = .ok (.getfield 87, 3) := by decide +kernel
theorem dX10_go_276 : decode cX10_go 276 = .ok (.aload_n 0, 1) := by decide +kernel
theorem dX10_go_277 : decode cX10_go 277 = .ok (.getfield 90, 3) := by decide +kernel
theorem dX10_go_280 : decode cX10_go 280 = .ok (.isub, 1) := by decide +kernel
end
section
theorem dX10_go_281 : decode cX10_go 281 = .ok (.iconst 4, 1) := by decide +kernel
theorem dX10_go_282 : decode cX10_go 282 = .ok (.if_icmp .ge 20, 3) := by decide +kernel
theorem dX10_go_285 : decode cX10_go 285 = .ok (.aload_n 0, 1) := by decide +kernel
theorem dX10_go_286 : decode cX10_go 286 = .ok (.bipush 10, 2) := by decide +kernel
theorem dX10_go_288 : decode cX10_go 288 = .ok (.aload_n 0, 1) := by decide +kernel
theorem dX10_go_289 : decode cX10_go 289 = .ok (.getfield 107, 3) := by decide +kernel
theorem dX10_go_292 : decode cX10_go 292 = .ok (.imul, 1) := by decide +kernel
theorem dX10_go_293 : decode cX10_go 293 = .ok (.iload 4, 2) := by decide +kernel
theorem dX10_go_295 : decode cX10_go 295 = .ok (.iadd, 1) := by decide +kernel
theorem dX10_go_296 : decode cX10_go 296 = .ok (.bipush 48, 2) := by decide +kernel
theorem dX10_go_298 : decode cX10_go 298 = .ok (.isub, 1) := by decide +kernel
theorem dX10_go_299 : decode cX10_go 299 = .ok (.putfield 107, 3) := by decide +kernel
theorem dX10_go_302 : decode cX10_go 302 = .ok (.aload_n 0, 1) := by decide +kernel
theorem dX10_go_303 : decode cX10_go 303 = .ok (.dup, 1) := by decide +kernel
theorem dX10_go_304 : decode cX10_go 304 = .ok (.getfield 87, 3) := by decide +kernel
theorem dX10_go_307 : decode cX10_go 307 = .ok (.iconst 1, 1) := by decide +kernel
theorem dX10_go_308 : decode cX10_go 308 = .ok (.iadd, 1) := by decide +kernel
theorem dX10_go_309 : decode cX10_go 309 = .ok (.putfield 87, 3) := by decide +kernel
theorem dX10_go_312 : decode cX10_go 312 = .ok (.goto (-138), 3) := by decide +kernel
theorem dX10_go_315 : decode cX10_go 315 = .ok (.aload_n 0, 1) := by decide +kernel
theorem dX10_go_316 : decode cX10_go 316 = .ok (.iload_n 3, 1) := by decide +kernel
theorem dX10_go_317 : decode cX10_go 317 = .ok (.ifCond .eq 20, 3) := by decide +kernel
theorem dX10_go_320 : decode cX10_go 320 = .ok (.iload_n 2, 1) := by decide +kernel
theorem dX10_go_321 : decode cX10_go 321 = .ok (.ifCond .ne 20, 3) := by decide +kernel
theorem dX10_go_324 : decode cX10_go 324 = .ok (.aload_n 0, 1) := by decide +kernel
theorem dX10_go_325 : decode cX10_go 325 = .ok (.getfield 87, 3) := by decide +kernel
theorem dX10_go_328 : decode cX10_go 328 = .ok (.aload_n 0, 1) := by decide +kernel
theorem dX10_go_329 : decode cX10_go 329 = .ok (.getfield 90, 3) := by decide +kernel
theorem dX10_go_332 : decode cX10_go 332 = .ok (.isub, 1) := by decide +kernel
theorem dX10_go_333 : decode cX10_go 333 = .ok (.iconst 4, 1) := by decide +kernel
theorem dX10_go_334 : decode cX10_go 334 = .ok (.if_icmp .le 7, 3) := by decide +kernel
theorem dX10_go_337 : decode cX10_go 337 = .ok (.iconst 1, 1) := by decide +kernel
theorem dX10_go_338 : decode cX10_go 338 = .ok (.goto 12, 3) := by decide +kernel
theorem dX10_go_341 : decode cX10_go 341 = .ok (.iload_n 2, 1) := by decide +kernel
theorem dX10_go_342 : decode cX10_go 342 = .ok (.ifCond .eq 7, 3) := by decide +kernel
theorem dX10_go_345 : decode cX10_go 345 = .ok (.iconst 2, 1) := by decide +kernel
theorem dX10_go_346 : decode cX10_go 346 = .ok (.goto 4, 3) := by decide +kernel
theorem dX10_go_349 : decode cX10_go 349 = .ok (.iconst 3, 1) := by decide +kernel
theorem dX10_go_350 : decode cX10_go 350 = .ok (.putfield 93, 3) := by decide +kernel
theorem dX10_go_353 : decode cX10_go 353 = .ok (.return_, 1) := by decide +kernel
theorem dX10_spelt_0 : decode cX10_spelt 0 = .ok (.ldc2_w 114, 3) := by decide +kernel
theorem dX10_spelt_3 : decode cX10_spelt 3 = .ok (.ldc2_w 114, 3) := by decide +kernel
theorem dX10_spelt_6 : decode cX10_spelt 6 = .ok (.iload_n 0, 1) := by decide +kernel
theorem dX10_spelt_7 : decode cX10_spelt 7 = .ok (.i2l, 1) := by decide +kernel
theorem dX10_spelt_8 : decode cX10_spelt 8 = .ok (.ldc2_w 116, 3) := by decide +kernel
theorem dX10_spelt_11 : decode cX10_spelt 11 = .ok (.lsub, 1) := by decide +kernel
theorem dX10_spelt_12 : decode cX10_spelt 12 = .ok (.lmul, 1) := by decide +kernel
theorem dX10_spelt_13 : decode cX10_spelt 13 = .ok (.iload_n 1, 1) := by decide +kernel
theorem dX10_spelt_14 : decode cX10_spelt 14 = .ok (.i2l, 1) := by decide +kernel
theorem dX10_spelt_15 : decode cX10_spelt 15 = .ok (.ladd, 1) := by decide +kernel
theorem dX10_spelt_16 : decode cX10_spelt 16 = .ok (.ldc2_w 116, 3) := by decide +kernel
theorem dX10_spelt_19 : decode cX10_spelt 19 = .ok (.lsub, 1) := by decide +kernel
theorem dX10_spelt_20 : decode cX10_spelt 20 = .ok (.lmul, 1) := by decide +kernel
theorem dX10_spelt_21 : decode cX10_spelt 21 = .ok (.iload_n 2, 1) := by decide +kernel
theorem dX10_spelt_22 : decode cX10_spelt 22 = .ok (.i2l, 1) := by decide +kernel
theorem dX10_spelt_23 : decode cX10_spelt 23 = .ok (.ladd, 1) := by decide +kernel
theorem dX10_spelt_24 : decode cX10_spelt 24 = .ok (.ldc2_w 116, 3) := by decide +kernel
theorem dX10_spelt_27 : decode cX10_spelt 27 = .ok (.lsub, 1) := by decide +kernel
theorem dX10_spelt_28 : decode cX10_spelt 28 = .ok (.lreturn, 1) := by decide +kernel
theorem dX10_isKey_0 : decode cX10_isKey 0 = .ok (.aload_n 0, 1) := by decide +kernel
theorem dX10_isKey_1 : decode cX10_isKey 1 = .ok (.getfield 93, 3) := by decide +kernel
theorem dX10_isKey_4 : decode cX10_isKey 4 = .ok (.iconst 2, 1) := by decide +kernel
theorem dX10_isKey_5 : decode cX10_isKey 5 = .ok (.if_icmp .ne 16, 3) := by decide +kernel
theorem dX10_isKey_8 : decode cX10_isKey 8 = .ok (.aload_n 0, 1) := by decide +kernel
theorem dX10_isKey_9 : decode cX10_isKey 9 = .ok (.getfield 103, 3) := by decide +kernel
theorem dX10_isKey_12 : decode cX10_isKey 12 = .ok (.lload_n 1, 1) := by decide +kernel
theorem dX10_isKey_13 : decode cX10_isKey 13 = .ok (.lcmp, 1) := by decide +kernel
theorem dX10_isKey_14 : decode cX10_isKey 14 = .ok (.ifCond .ne 7, 3) := by decide +kernel
theorem dX10_isKey_17 : decode cX10_isKey 17 = .ok (.iconst 1, 1) := by decide +kernel
theorem dX10_isKey_18 : decode cX10_isKey 18 = .ok (.goto 4, 3) := by decide +kernel
theorem dX10_isKey_21 : decode cX10_isKey 21 = .ok (.iconst 0, 1) := by decide +kernel
theorem dX10_isKey_22 : decode cX10_isKey 22 = .ok (.ireturn, 1) := by decide +kernel
theorem dX10_ruleAtHand_0 : decode cX10_ruleAtHand 0 = .ok (.aload_n 0, 1) := by decide +kernel
theorem dX10_ruleAtHand_1 : decode cX10_ruleAtHand 1 = .ok (.ldc2_w 114, 3) := by decide +kernel
theorem dX10_ruleAtHand_4 : decode cX10_ruleAtHand 4 = .ok (.ldc2_w 120, 3) := by decide +kernel
theorem dX10_ruleAtHand_7 : decode cX10_ruleAtHand 7 = .ok (.bipush 119, 2) := by decide +kernel
theorem dX10_ruleAtHand_9 : decode cX10_ruleAtHand 9 = .ok (.bipush 111, 2) := by decide +kernel
theorem dX10_ruleAtHand_11 : decode cX10_ruleAtHand 11 = .ok (.bipush 114, 2) := by decide +kernel
theorem dX10_ruleAtHand_13 : decode cX10_ruleAtHand 13 = .ok (.invokestatic 122, 3) := by decide +kernel
theorem dX10_ruleAtHand_16 : decode cX10_ruleAtHand 16 = .ok (.lmul, 1) := by decide +kernel
theorem dX10_ruleAtHand_17 : decode cX10_ruleAtHand 17 = .ok (.bipush 107, 2) := by decide +kernel
theorem dX10_ruleAtHand_19 : decode cX10_ruleAtHand 19 = .ok (.bipush 101, 2) := by decide +kernel
theorem dX10_ruleAtHand_21 : decode cX10_ruleAtHand 21 = .ok (.bipush 114, 2) := by decide +kernel
theorem dX10_ruleAtHand_23 : decode cX10_ruleAtHand 23 = .ok (.invokestatic 122, 3) := by decide +kernel
theorem dX10_ruleAtHand_26 : decode cX10_ruleAtHand 26 = .ok (.ladd, 1) := by decide +kernel
theorem dX10_ruleAtHand_27 : decode cX10_ruleAtHand 27 = .ok (.lmul, 1) := by decide +kernel
theorem dX10_ruleAtHand_28 : decode cX10_ruleAtHand 28 = .ok (.ldc2_w 126, 3) := by decide +kernel
theorem dX10_ruleAtHand_31 : decode cX10_ruleAtHand 31 = .ok (.ladd, 1) := by decide +kernel
theorem dX10_ruleAtHand_32 : decode cX10_ruleAtHand 32 = .ok (.invokevirtual 128, 3) := by decide +kernel
theorem dX10_ruleAtHand_35 : decode cX10_ruleAtHand 35 = .ok (.ifCond .eq 5, 3) := by decide +kernel
theorem dX10_ruleAtHand_38 : decode cX10_ruleAtHand 38 = .ok (.iconst 0, 1) := by decide +kernel
theorem dX10_ruleAtHand_39 : decode cX10_ruleAtHand 39 = .ok (.ireturn, 1) := by decide +kernel
theorem dX10_ruleAtHand_40 : decode cX10_ruleAtHand 40 = .ok (.aload_n 0, 1) := by decide +kernel
theorem dX10_ruleAtHand_41 : decode cX10_ruleAtHand 41 = .ok (.ldc2_w 114, 3) := by decide +kernel
theorem dX10_ruleAtHand_44 : decode cX10_ruleAtHand 44 = .ok (.bipush 104, 2) := by decide +kernel
theorem dX10_ruleAtHand_46 : decode cX10_ruleAtHand 46 = .ok (.bipush 97, 2) := by decide +kernel
theorem dX10_ruleAtHand_48 : decode cX10_ruleAtHand 48 = .ok (.bipush 108, 2) := by decide +kernel
theorem dX10_ruleAtHand_50 : decode cX10_ruleAtHand 50 = .ok (.invokestatic 122, 3) := by decide +kernel
theorem dX10_ruleAtHand_53 : decode cX10_ruleAtHand 53 = .ok (.lmul, 1) := by decide +kernel
theorem dX10_ruleAtHand_54 : decode cX10_ruleAtHand 54 = .ok (.ldc2_w 132, 3) := by decide +kernel
theorem dX10_ruleAtHand_57 : decode cX10_ruleAtHand 57 = .ok (.ladd, 1) := by decide +kernel
theorem dX10_ruleAtHand_58 : decode cX10_ruleAtHand 58 = .ok (.invokevirtual 128, 3) := by decide +kernel
theorem dX10_ruleAtHand_61 : decode cX10_ruleAtHand 61 = .ok (.ifCond .eq 5, 3) := by decide +kernel
theorem dX10_ruleAtHand_64 : decode cX10_ruleAtHand 64 = .ok (.iconst 1, 1) := by decide +kernel
theorem dX10_ruleAtHand_65 : decode cX10_ruleAtHand 65 = .ok (.ireturn, 1) := by decide +kernel
theorem dX10_ruleAtHand_66 : decode cX10_ruleAtHand 66 = .ok (.aload_n 0, 1) := by decide +kernel
theorem dX10_ruleAtHand_67 : decode cX10_ruleAtHand 67 = .ok (.bipush 99, 2) := by decide +kernel
theorem dX10_ruleAtHand_69 : decode cX10_ruleAtHand 69 = .ok (.bipush 117, 2) := by decide +kernel
theorem dX10_ruleAtHand_71 : decode cX10_ruleAtHand 71 = .ok (.bipush 116, 2) := by decide +kernel
theorem dX10_ruleAtHand_73 : decode cX10_ruleAtHand 73 = .ok (.invokestatic 122, 3) := by decide +kernel
theorem dX10_ruleAtHand_76 : decode cX10_ruleAtHand 76 = .ok (.invokevirtual 128, 3) := by decide +kernel
theorem dX10_ruleAtHand_79 : decode cX10_ruleAtHand 79 = .ok (.ifCond .eq 5, 3) := by decide +kernel
theorem dX10_ruleAtHand_82 : decode cX10_ruleAtHand 82 = .ok (.iconst 2, 1) := by decide +kernel
theorem dX10_ruleAtHand_83 : decode cX10_ruleAtHand 83 = .ok (.ireturn, 1) := by decide +kernel
theorem dX10_ruleAtHand_84 : decode cX10_ruleAtHand 84 = .ok (.aload_n 0, 1) := by decide +kernel
theorem dX10_ruleAtHand_85 : decode cX10_ruleAtHand 85 = .ok (.ldc2_w 114, 3) := by decide +kernel
theorem dX10_ruleAtHand_88 : decode cX10_ruleAtHand 88 = .ok (.bipush 114, 2) := by decide +kernel
theorem dX10_ruleAtHand_90 : decode cX10_ruleAtHand 90 = .ok (.bipush 105, 2) := by decide +kernel
theorem dX10_ruleAtHand_92 : decode cX10_ruleAtHand 92 = .ok (.bipush 115, 2) := by decide +kernel
theorem dX10_ruleAtHand_94 : decode cX10_ruleAtHand 94 = .ok (.invokestatic 122, 3) := by decide +kernel
theorem dX10_ruleAtHand_97 : decode cX10_ruleAtHand 97 = .ok (.lmul, 1) := by decide +kernel
theorem dX10_ruleAtHand_98 : decode cX10_ruleAtHand 98 = .ok (.ldc2_w 134, 3) := by decide +kernel
theorem dX10_ruleAtHand_101 : decode cX10_ruleAtHand 101 = .ok (.ladd, 1) := by decide +kernel
theorem dX10_ruleAtHand_102 : decode cX10_ruleAtHand 102 = .ok (.invokevirtual 128, 3) := by decide +kernel
theorem dX10_ruleAtHand_105 : decode cX10_ruleAtHand 105 = .ok (.ifCond .eq 5, 3) := by decide +kernel
theorem dX10_ruleAtHand_108 : decode cX10_ruleAtHand 108 = .ok (.iconst 3, 1) := by decide +kernel
theorem dX10_ruleAtHand_109 : decode cX10_ruleAtHand 109 = .ok (.ireturn, 1) := by decide +kernel
theorem dX10_ruleAtHand_110 : decode cX10_ruleAtHand 110 = .ok (.aload_n 0, 1) := by decide +kernel
theorem dX10_ruleAtHand_111 : decode cX10_ruleAtHand 111 = .ok (.ldc2_w 114, 3) := by decide +kernel
theorem dX10_ruleAtHand_114 : decode cX10_ruleAtHand 114 = .ok (.bipush 102, 2) := by decide +kernel
theorem dX10_ruleAtHand_116 : decode cX10_ruleAtHand 116 = .ok (.bipush 97, 2) := by decide +kernel
theorem dX10_ruleAtHand_118 : decode cX10_ruleAtHand 118 = .ok (.bipush 108, 2) := by decide +kernel
theorem dX10_ruleAtHand_120 : decode cX10_ruleAtHand 120 = .ok (.invokestatic 122, 3) := by decide +kernel
theorem dX10_ruleAtHand_123 : decode cX10_ruleAtHand 123 = .ok (.lmul, 1) := by decide +kernel
theorem dX10_ruleAtHand_124 : decode cX10_ruleAtHand 124 = .ok (.ldc2_w 136, 3) := by decide +kernel
theorem dX10_ruleAtHand_127 : decode cX10_ruleAtHand 127 = .ok (.ladd, 1) := by decide +kernel
theorem dX10_ruleAtHand_128 : decode cX10_ruleAtHand 128 = .ok (.invokevirtual 128, 3) := by decide +kernel
theorem dX10_ruleAtHand_131 : decode cX10_ruleAtHand 131 = .ok (.ifCond .eq 5, 3) := by decide +kernel
theorem dX10_ruleAtHand_134 : decode cX10_ruleAtHand 134 = .ok (.iconst 4, 1) := by decide +kernel
theorem dX10_ruleAtHand_135 : decode cX10_ruleAtHand 135 = .ok (.ireturn, 1) := by decide +kernel
theorem dX10_ruleAtHand_136 : decode cX10_ruleAtHand 136 = .ok (.aload_n 0, 1) := by decide +kernel
theorem dX10_ruleAtHand_137 : decode cX10_ruleAtHand 137 = .ok (.ldc2_w 114, 3) := by decide +kernel
theorem dX10_ruleAtHand_140 : decode cX10_ruleAtHand 140 = .ok (.ldc2_w 114, 3) := by decide +kernel
theorem dX10_ruleAtHand_143 : decode cX10_ruleAtHand 143 = .ok (.bipush 108, 2) := by decide +kernel
theorem dX10_ruleAtHand_145 : decode cX10_ruleAtHand 145 = .ok (.bipush 101, 2) := by decide +kernel
theorem dX10_ruleAtHand_147 : decode cX10_ruleAtHand 147 = .ok (.bipush 97, 2) := by decide +kernel
theorem dX10_ruleAtHand_149 : decode cX10_ruleAtHand 149 = .ok (.invokestatic 122, 3) := by decide +kernel
theorem dX10_ruleAtHand_152 : decode cX10_ruleAtHand 152 = .ok (.lmul, 1) := by decide +kernel
theorem dX10_ruleAtHand_153 : decode cX10_ruleAtHand 153 = .ok (.ldc2_w 126, 3) := by decide +kernel
theorem dX10_ruleAtHand_156 : decode cX10_ruleAtHand 156 = .ok (.ladd, 1) := by decide +kernel
theorem dX10_ruleAtHand_157 : decode cX10_ruleAtHand 157 = .ok (.lmul, 1) := by decide +kernel
theorem dX10_ruleAtHand_158 : decode cX10_ruleAtHand 158 = .ok (.ldc2_w 138, 3) := by decide +kernel
theorem dX10_ruleAtHand_161 : decode cX10_ruleAtHand 161 = .ok (.ladd, 1) := by decide +kernel
theorem dX10_ruleAtHand_162 : decode cX10_ruleAtHand 162 = .ok (.invokevirtual 128, 3) := by decide +kernel
theorem dX10_ruleAtHand_165 : decode cX10_ruleAtHand 165 = .ok (.ifCond .eq 7, 3) := by decide +kernel
theorem dX10_ruleAtHand_168 : decode cX10_ruleAtHand 168 = .ok (.iconst 5, 1) := by decide +kernel
theorem dX10_ruleAtHand_169 : decode cX10_ruleAtHand 169 = .ok (.goto 4, 3) := by decide +kernel
theorem dX10_ruleAtHand_172 : decode cX10_ruleAtHand 172 = .ok (.iconst (-1), 1) := by decide +kernel
theorem dX10_ruleAtHand_173 : decode cX10_ruleAtHand 173 = .ok (.ireturn, 1) := by decide +kernel
theorem dX10_bad_0 : decode cX10_bad 0 = .ok (.aload_n 0, 1) := by decide +kernel
theorem dX10_bad_1 : decode cX10_bad 1 = .ok (.aload_n 0, 1) := by decide +kernel
theorem dX10_bad_2 : decode cX10_bad 2 = .ok (.getfield 93, 3) := by decide +kernel
theorem dX10_bad_5 : decode cX10_bad 5 = .ok (.iconst 1, 1) := by decide +kernel
theorem dX10_bad_6 : decode cX10_bad 6 = .ok (.if_icmp .ne 7, 3) := by decide +kernel
theorem dX10_bad_9 : decode cX10_bad 9 = .ok (.iconst 1, 1) := by decide +kernel
theorem dX10_bad_10 : decode cX10_bad 10 = .ok (.goto 4, 3) := by decide +kernel
theorem dX10_bad_13 : decode cX10_bad 13 = .ok (.iload_n 1, 1) := by decide +kernel
theorem dX10_bad_14 : decode cX10_bad 14 = .ok (.putfield 140, 3) := by decide +kernel
theorem dX10_bad_17 : decode cX10_bad 17 = .ok (.aload_n 0, 1) := by decide +kernel
theorem dX10_bad_18 : decode cX10_bad 18 = .ok (.aload_n 0, 1) := by decide +kernel
theorem dX10_bad_19 : decode cX10_bad 19 = .ok (.getfield 90, 3) := by decide +kernel
theorem dX10_bad_22 : decode cX10_bad 22 = .ok (.putfield 143, 3) := by decide +kernel
theorem dX10_bad_25 : decode cX10_bad 25 = .ok (.iconst 0, 1) := by decide +kernel
theorem dX10_bad_26 : decode cX10_bad 26 = .ok (.ireturn, 1) := by decide +kernel
theorem dX10_readRule_0 : decode cX10_readRule 0 = .ok (.aload_n 0, 1) := by decide +kernel
theorem dX10_readRule_1 : decode cX10_readRule 1 = .ok (.invokevirtual 146, 3) := by decide +kernel
theorem dX10_readRule_4 : decode cX10_readRule 4 = .ok (.istore_n 1, 1) := by decide +kernel
theorem dX10_readRule_5 : decode cX10_readRule 5 = .ok (.iload_n 1, 1) := by decide +kernel
theorem dX10_readRule_6 : decode cX10_readRule 6 = .ok (.iconst (-1), 1) := by decide +kernel
theorem dX10_readRule_7 : decode cX10_readRule 7 = .ok (.if_icmp .ne 9, 3) := by decide +kernel
theorem dX10_readRule_10 : decode cX10_readRule 10 = .ok (.aload_n 0, 1) := by decide +kernel
theorem dX10_readRule_11 : decode cX10_readRule 11 = .ok (.iconst 1, 1) := by decide +kernel
theorem dX10_readRule_12 : decode cX10_readRule 12 = .ok (.invokevirtual 150, 3) := by decide +kernel
theorem dX10_readRule_15 : decode cX10_readRule 15 = .ok (.ireturn, 1) := by decide +kernel
theorem dX10_readRule_16 : decode cX10_readRule 16 = .ok (.aload_n 0, 1) := by decide +kernel
theorem dX10_readRule_17 : decode cX10_readRule 17 = .ok (.getfield 153, 3) := by decide +kernel
theorem dX10_readRule_20 : decode cX10_readRule 20 = .ok (.iload_n 1, 1) := by decide +kernel
theorem dX10_readRule_21 : decode cX10_readRule 21 = .ok (.ishr, 1) := by decide +kernel
theorem dX10_readRule_22 : decode cX10_readRule 22 = .ok (.iconst 1, 1) := by decide +kernel
theorem dX10_readRule_23 : decode cX10_readRule 23 = .ok (.iand, 1) := by decide +kernel
theorem dX10_readRule_24 : decode cX10_readRule 24 = .ok (.iconst 1, 1) := by decide +kernel
theorem dX10_readRule_25 : decode cX10_readRule 25 = .ok (.if_icmp .ne 9, 3) := by decide +kernel
theorem dX10_readRule_28 : decode cX10_readRule 28 = .ok (.aload_n 0, 1) := by decide +kernel
theorem dX10_readRule_29 : decode cX10_readRule 29 = .ok (.iconst 3, 1) := by decide +kernel
theorem dX10_readRule_30 : decode cX10_readRule 30 = .ok (.invokevirtual 150, 3) := by decide +kernel
theorem dX10_readRule_33 : decode cX10_readRule 33 = .ok (.ireturn, 1) := by decide +kernel
theorem dX10_readRule_34 : decode cX10_readRule 34 = .ok (.aload_n 0, 1) := by decide +kernel
theorem dX10_readRule_35 : decode cX10_readRule 35 = .ok (.invokevirtual 156, 3) := by decide +kernel
theorem dX10_readRule_38 : decode cX10_readRule 38 = .ok (.aload_n 0, 1) := by decide +kernel
theorem dX10_readRule_39 : decode cX10_readRule 39 = .ok (.getfield 93, 3) := by decide +kernel
theorem dX10_readRule_42 : decode cX10_readRule 42 = .ok (.iconst 3, 1) := by decide +kernel
theorem dX10_readRule_43 : decode cX10_readRule 43 = .ok (.if_icmp .eq 9, 3) := by decide +kernel
theorem dX10_readRule_46 : decode cX10_readRule 46 = .ok (.aload_n 0, 1) := by decide +kernel
theorem dX10_readRule_47 : decode cX10_readRule 47 = .ok (.iconst 1, 1) := by decide +kernel
theorem dX10_readRule_48 : decode cX10_readRule 48 = .ok (.invokevirtual 150, 3) := by decide +kernel
theorem dX10_readRule_51 : decode cX10_readRule 51 = .ok (.ireturn, 1) := by decide +kernel
theorem dX10_readRule_52 : decode cX10_readRule 52 = .ok (.aload_n 0, 1) := by decide +kernel
theorem dX10_readRule_53 : decode cX10_readRule 53 = .ok (.getfield 107, 3) := by decide +kernel
theorem dX10_readRule_56 : decode cX10_readRule 56 = .ok (.aload_n 0, 1) := by decide +kernel
theorem dX10_readRule_57 : decode cX10_readRule 57 = .ok (.getfield 19, 3) := by decide +kernel
theorem dX10_readRule_60 : decode cX10_readRule 60 = .ok (.iload_n 1, 1) := by decide +kernel
theorem dX10_readRule_61 : decode cX10_readRule 61 = .ok (.iaload, 1) := by decide +kernel
theorem dX10_readRule_62 : decode cX10_readRule 62 = .ok (.if_icmp .lt 16, 3) := by decide +kernel
theorem dX10_readRule_65 : decode cX10_readRule 65 = .ok (.aload_n 0, 1) := by decide +kernel
theorem dX10_readRule_66 : decode cX10_readRule 66 = .ok (.getfield 107, 3) := by decide +kernel
theorem dX10_readRule_69 : decode cX10_readRule 69 = .ok (.aload_n 0, 1) := by decide +kernel
theorem dX10_readRule_70 : decode cX10_readRule 70 = .ok (.getfield 22, 3) := by decide +kernel
theorem dX10_readRule_73 : decode cX10_readRule 73 = .ok (.iload_n 1, 1) := by decide +kernel
theorem dX10_readRule_74 : decode cX10_readRule 74 = .ok (.iaload, 1) := by decide +kernel
theorem dX10_readRule_75 : decode cX10_readRule 75 = .ok (.if_icmp .le 9, 3) := by decide +kernel
theorem dX10_readRule_78 : decode cX10_readRule 78 = .ok (.aload_n 0, 1) := by decide +kernel
theorem dX10_readRule_79 : decode cX10_readRule 79 = .ok (.iconst 2, 1) := by decide +kernel
theorem dX10_readRule_80 : decode cX10_readRule 80 = .ok (.invokevirtual 150, 3) := by decide +kernel
theorem dX10_readRule_83 : decode cX10_readRule 83 = .ok (.ireturn, 1) := by decide +kernel
theorem dX10_readRule_84 : decode cX10_readRule 84 = .ok (.aload_n 0, 1) := by decide +kernel
theorem dX10_readRule_85 : decode cX10_readRule 85 = .ok (.getfield 25, 3) := by decide +kernel
theorem dX10_readRule_88 : decode cX10_readRule 88 = .ok (.iload_n 1, 1) := by decide +kernel
theorem dX10_readRule_89 : decode cX10_readRule 89 = .ok (.aload_n 0, 1) := by decide +kernel
theorem dX10_readRule_90 : decode cX10_readRule 90 = .ok (.getfield 107, 3) := by decide +kernel
theorem dX10_readRule_93 : decode cX10_readRule 93 = .ok (.iastore, 1) := by decide +kernel
theorem dX10_readRule_94 : decode cX10_readRule 94 = .ok (.aload_n 0, 1) := by decide +kernel
theorem dX10_readRule_95 : decode cX10_readRule 95 = .ok (.dup, 1) := by decide +kernel
theorem dX10_readRule_96 : decode cX10_readRule 96 = .ok (.getfield 153, 3) := by decide +kernel
theorem dX10_readRule_99 : decode cX10_readRule 99 = .ok (.iconst 1, 1) := by decide +kernel
theorem dX10_readRule_100 : decode cX10_readRule 100 = .ok (.iload_n 1, 1) := by decide +kernel
theorem dX10_readRule_101 : decode cX10_readRule 101 = .ok (.ishl, 1) := by decide +kernel
theorem dX10_readRule_102 : decode cX10_readRule 102 = .ok (.ior, 1) := by decide +kernel
theorem dX10_readRule_103 : decode cX10_readRule 103 = .ok (.putfield 153, 3) := by decide +kernel
theorem dX10_readRule_106 : decode cX10_readRule 106 = .ok (.aload_n 0, 1) := by decide +kernel
theorem dX10_readRule_107 : decode cX10_readRule 107 = .ok (.invokevirtual 156, 3) := by decide +kernel
theorem dX10_readRule_110 : decode cX10_readRule 110 = .ok (.aload_n 0, 1) := by decide +kernel
theorem dX10_readRule_111 : decode cX10_readRule 111 = .ok (.getfield 93, 3) := by decide +kernel
theorem dX10_readRule_114 : decode cX10_readRule 114 = .ok (.iconst 4, 1) := by decide +kernel
theorem dX10_readRule_115 : decode cX10_readRule 115 = .ok (.if_icmp .eq 11, 3) := by decide +kernel
theorem dX10_readRule_118 : decode cX10_readRule 118 = .ok (.aload_n 0, 1) := by decide +kernel
theorem dX10_readRule_119 : decode cX10_readRule 119 = .ok (.iconst 1, 1) := by decide +kernel
theorem dX10_readRule_120 : decode cX10_readRule 120 = .ok (.invokevirtual 150, 3) := by decide +kernel
theorem dX10_readRule_123 : decode cX10_readRule 123 = .ok (.ifCond .eq 7, 3) := by decide +kernel
theorem dX10_readRule_126 : decode cX10_readRule 126 = .ok (.iconst 1, 1) := by decide +kernel
theorem dX10_readRule_127 : decode cX10_readRule 127 = .ok (.goto 4, 3) := by decide +kernel
theorem dX10_readRule_130 : decode cX10_readRule 130 = .ok (.iconst 0, 1) := by decide +kernel
theorem dX10_readRule_131 : decode cX10_readRule 131 = .ok (.ireturn, 1) := by decide +kernel
theorem dX10_rules_0 : decode cX10_rules 0 = .ok (.aload_n 0, 1) := by decide +kernel
theorem dX10_rules_1 : decode cX10_rules 1 = .ok (.iconst 0, 1) := by decide +kernel
theorem dX10_rules_2 : decode cX10_rules 2 = .ok (.putfield 73, 3) := by decide +kernel
theorem dX10_rules_5 : decode cX10_rules 5 = .ok (.aload_n 0, 1) := by decide +kernel
theorem dX10_rules_6 : decode cX10_rules 6 = .ok (.aload_n 0, 1) := by decide +kernel
theorem dX10_rules_7 : decode cX10_rules 7 = .ok (.getfield 77, 3) := by decide +kernel
theorem dX10_rules_10 : decode cX10_rules 10 = .ok (.putfield 84, 3) := by decide +kernel
theorem dX10_rules_13 : decode cX10_rules 13 = .ok (.aload_n 0, 1) := by decide +kernel
theorem dX10_rules_14 : decode cX10_rules 14 = .ok (.iconst 0, 1) := by decide +kernel
theorem dX10_rules_15 : decode cX10_rules 15 = .ok (.putfield 77, 3) := by decide +kernel
theorem dX10_rules_18 : decode cX10_rules 18 = .ok (.aload_n 0, 1) := by decide +kernel
theorem dX10_rules_19 : decode cX10_rules 19 = .ok (.iconst 0, 1) := by decide +kernel
theorem dX10_rules_20 : decode cX10_rules 20 = .ok (.putfield 140, 3) := by decide +kernel
theorem dX10_rules_23 : decode cX10_rules 23 = .ok (.aload_n 0, 1) := by decide +kernel
theorem dX10_rules_24 : decode cX10_rules 24 = .ok (.iconst 0, 1) := by decide +kernel
theorem dX10_rules_25 : decode cX10_rules 25 = .ok (.putfield 153, 3) := by decide +kernel
theorem dX10_rules_28 : decode cX10_rules 28 = .ok (.iconst 0, 1) := by decide +kernel
theorem dX10_rules_29 : decode cX10_rules 29 = .ok (.istore_n 1, 1) := by decide +kernel
theorem dX10_rules_30 : decode cX10_rules 30 = .ok (.iload_n 1, 1) := by decide +kernel
theorem dX10_rules_31 : decode cX10_rules 31 = .ok (.bipush 6, 2) := by decide +kernel
theorem dX10_rules_33 : decode cX10_rules 33 = .ok (.if_icmp .ge 21, 3) := by decide +kernel
theorem dX10_rules_36 : decode cX10_rules 36 = .ok (.aload_n 0, 1) := by decide +kernel
theorem dX10_rules_37 : decode cX10_rules 37 = .ok (.getfield 25, 3) := by decide +kernel
theorem dX10_rules_40 : decode cX10_rules 40 = .ok (.iload_n 1, 1) := by decide +kernel
theorem dX10_rules_41 : decode cX10_rules 41 = .ok (.aload_n 0, 1) := by decide +kernel
theorem dX10_rules_42 : decode cX10_rules 42 = .ok (.getfield 16, 3) := by decide +kernel
theorem dX10_rules_45 : decode cX10_rules 45 = .ok (.iload_n 1, 1) := by decide +kernel
theorem dX10_rules_46 : decode cX10_rules 46 = .ok (.iaload, 1) := by decide +kernel
theorem dX10_rules_47 : decode cX10_rules 47 = .ok (.iastore, 1) := by decide +kernel
theorem dX10_rules_48 : decode cX10_rules 48 = .ok (.iinc 1 1, 3) := by decide +kernel
theorem dX10_rules_51 : decode cX10_rules 51 = .ok (.goto (-21), 3) := by decide +kernel
theorem dX10_rules_54 : decode cX10_rules 54 = .ok (.iconst 0, 1) := by decide +kernel
theorem dX10_rules_55 : decode cX10_rules 55 = .ok (.istore_n 1, 1) := by decide +kernel
theorem dX10_rules_56 : decode cX10_rules 56 = .ok (.aload_n 0, 1) := by decide +kernel
theorem dX10_rules_57 : decode cX10_rules 57 = .ok (.iconst 0, 1) := by decide +kernel
theorem dX10_rules_58 : decode cX10_rules 58 = .ok (.putfield 87, 3) := by decide +kernel
theorem dX10_rules_61 : decode cX10_rules 61 = .ok (.aload_n 0, 1) := by decide +kernel
theorem dX10_rules_62 : decode cX10_rules 62 = .ok (.invokevirtual 156, 3) := by decide +kernel
theorem dX10_rules_65 : decode cX10_rules 65 = .ok (.aload_n 0, 1) := by decide +kernel
theorem dX10_rules_66 : decode cX10_rules 66 = .ok (.getfield 93, 3) := by decide +kernel
theorem dX10_rules_69 : decode cX10_rules 69 = .ok (.ifCond .eq 27, 3) := by decide +kernel
theorem dX10_rules_72 : decode cX10_rules 72 = .ok (.aload_n 0, 1) := by decide +kernel
theorem dX10_rules_73 : decode cX10_rules 73 = .ok (.invokevirtual 159, 3) := by decide +kernel
theorem dX10_rules_76 : decode cX10_rules 76 = .ok (.ifCond .ne 10, 3) := by decide +kernel
theorem dX10_rules_79 : decode cX10_rules 79 = .ok (.iconst (-1), 1) := by decide +kernel
theorem dX10_rules_80 : decode cX10_rules 80 = .ok (.aload_n 0, 1) := by decide +kernel
theorem dX10_rules_81 : decode cX10_rules 81 = .ok (.getfield 143, 3) := by decide +kernel
theorem dX10_rules_84 : decode cX10_rules 84 = .ok (.isub, 1) := by decide +kernel
theorem dX10_rules_85 : decode cX10_rules 85 = .ok (.ireturn, 1) := by decide +kernel
theorem dX10_rules_86 : decode cX10_rules 86 = .ok (.iinc 1 1, 3) := by decide +kernel
theorem dX10_rules_89 : decode cX10_rules 89 = .ok (.aload_n 0, 1) := by decide +kernel
theorem dX10_rules_90 : decode cX10_rules 90 = .ok (.invokevirtual 156, 3) := by decide +kernel
theorem dX10_rules_93 : decode cX10_rules 93 = .ok (.goto (-28), 3) := by decide +kernel
theorem dX10_rules_96 : decode cX10_rules 96 = .ok (.iconst 0, 1) := by decide +kernel
theorem dX10_rules_97 : decode cX10_rules 97 = .ok (.istore_n 2, 1) := by decide +kernel
theorem dX10_rules_98 : decode cX10_rules 98 = .ok (.iload_n 2, 1) := by decide +kernel
theorem dX10_rules_99 : decode cX10_rules 99 = .ok (.bipush 6, 2) := by decide +kernel
theorem dX10_rules_101 : decode cX10_rules 101 = .ok (.if_icmp .ge 21, 3) := by decide +kernel
theorem dX10_rules_104 : decode cX10_rules 104 = .ok (.aload_n 0, 1) := by decide +kernel
theorem dX10_rules_105 : decode cX10_rules 105 = .ok (.getfield 13, 3) := by decide +kernel
theorem dX10_rules_108 : decode cX10_rules 108 = .ok (.iload_n 2, 1) := by decide +kernel
theorem dX10_rules_109 : decode cX10_rules 109 = .ok (.aload_n 0, 1) := by decide +kernel
theorem dX10_rules_110 : decode cX10_rules 110 = .ok (.getfield 25, 3) := by decide +kernel
theorem dX10_rules_113 : decode cX10_rules 113 = .ok (.iload_n 2, 1) := by decide +kernel
theorem dX10_rules_114 : decode cX10_rules 114 = .ok (.iaload, 1) := by decide +kernel
theorem dX10_rules_115 : decode cX10_rules 115 = .ok (.iastore, 1) := by decide +kernel
theorem dX10_rules_116 : decode cX10_rules 116 = .ok (.iinc 2 1, 3) := by decide +kernel
theorem dX10_rules_119 : decode cX10_rules 119 = .ok (.goto (-21), 3) := by decide +kernel
theorem dX10_rules_122 : decode cX10_rules 122 = .ok (.iload_n 1, 1) := by decide +kernel
theorem dX10_rules_123 : decode cX10_rules 123 = .ok (.ireturn, 1) := by decide +kernel
theorem dX10_fault_0 : decode cX10_fault 0 = .ok (.aload_n 0, 1) := by decide +kernel
theorem dX10_fault_1 : decode cX10_fault 1 = .ok (.iconst 0, 1) := by decide +kernel
theorem dX10_fault_2 : decode cX10_fault 2 = .ok (.putfield 73, 3) := by decide +kernel
theorem dX10_fault_5 : decode cX10_fault 5 = .ok (.aload_n 0, 1) := by decide +kernel
theorem dX10_fault_6 : decode cX10_fault 6 = .ok (.getfield 140, 3) := by decide +kernel
theorem dX10_fault_9 : decode cX10_fault 9 = .ok (.ireturn, 1) := by decide +kernel
theorem dX10_rule_0 : decode cX10_rule 0 = .ok (.aload_n 0, 1) := by decide +kernel
theorem dX10_rule_1 : decode cX10_rule 1 = .ok (.iconst 0, 1) := by decide +kernel
theorem dX10_rule_2 : decode cX10_rule 2 = .ok (.putfield 73, 3) := by decide +kernel
theorem dX10_rule_5 : decode cX10_rule 5 = .ok (.iload_n 1, 1) := by decide +kernel
theorem dX10_rule_6 : decode cX10_rule 6 = .ok (.ifCond .lt 9, 3) := by decide +kernel
theorem dX10_rule_9 : decode cX10_rule 9 = .ok (.iload_n 1, 1) := by decide +kernel
theorem dX10_rule_10 : decode cX10_rule 10 = .ok (.bipush 6, 2) := by decide +kernel
theorem dX10_rule_12 : decode cX10_rule 12 = .ok (.if_icmp .lt 7, 3) := by decide +kernel
theorem dX10_rule_15 : decode cX10_rule 15 = .ok (.iconst (-1), 1) := by decide +kernel
theorem dX10_rule_16 : decode cX10_rule 16 = .ok (.goto 9, 3) := by decide +kernel
theorem dX10_rule_19 : decode cX10_rule 19 = .ok (.aload_n 0, 1) := by decide +kernel
theorem dX10_rule_20 : decode cX10_rule 20 = .ok (.getfield 13, 3) := by decide +kernel
theorem dX10_rule_23 : decode cX10_rule 23 = .ok (.iload_n 1, 1) := by decide +kernel
theorem dX10_rule_24 : decode cX10_rule 24 = .ok (.iaload, 1) := by decide +kernel
theorem dX10_rule_25 : decode cX10_rule 25 = .ok (.ireturn, 1) := by decide +kernel
theorem dX10_isIn_0 : decode cX10_isIn 0 = .ok (.iload_n 0, 1) := by decide +kernel
theorem dX10_isIn_1 : decode cX10_isIn 1 = .ok (.iload_n 1, 1) := by decide +kernel
theorem dX10_isIn_2 : decode cX10_isIn 2 = .ok (.if_icmp .lt 12, 3) := by decide +kernel
theorem dX10_isIn_5 : decode cX10_isIn 5 = .ok (.iload_n 0, 1) := by decide +kernel
theorem dX10_isIn_6 : decode cX10_isIn 6 = .ok (.iload_n 2, 1) := by decide +kernel
theorem dX10_isIn_7 : decode cX10_isIn 7 = .ok (.if_icmp .gt 7, 3) := by decide +kernel
theorem dX10_isIn_10 : decode cX10_isIn 10 = .ok (.iconst 1, 1) := by decide +kernel
theorem dX10_isIn_11 : decode cX10_isIn 11 = .ok (.goto 4, 3) := by decide +kernel
theorem dX10_isIn_14 : decode cX10_isIn 14 = .ok (.iconst 0, 1) := by decide +kernel
theorem dX10_isIn_15 : decode cX10_isIn 15 = .ok (.ireturn, 1) := by decide +kernel
theorem dX10_isWork_0 : decode cX10_isWork 0 = .ok (.iload_n 1, 1) := by decide +kernel
theorem dX10_isWork_1 : decode cX10_isWork 1 = .ok (.ifCond .lt 15, 3) := by decide +kernel
theorem dX10_isWork_4 : decode cX10_isWork 4 = .ok (.iload_n 1, 1) := by decide +kernel
theorem dX10_isWork_5 : decode cX10_isWork 5 = .ok (.aload_n 0, 1) := by decide +kernel
theorem dX10_isWork_6 : decode cX10_isWork 6 = .ok (.getfield 163, 3) := by decide +kernel
theorem dX10_isWork_9 : decode cX10_isWork 9 = .ok (.if_icmp .ge 7, 3) := by decide +kernel
theorem dX10_isWork_12 : decode cX10_isWork 12 = .ok (.iconst 1, 1) := by decide +kernel
theorem dX10_isWork_13 : decode cX10_isWork 13 = .ok (.goto 4, 3) := by decide +kernel
theorem dX10_isWork_16 : decode cX10_isWork 16 = .ok (.iconst 0, 1) := by decide +kernel
theorem dX10_isWork_17 : decode cX10_isWork 17 = .ok (.ireturn, 1) := by decide +kernel
theorem dX10_isPerson_0 : decode cX10_isPerson 0 = .ok (.iload_n 1, 1) := by decide +kernel
theorem dX10_isPerson_1 : decode cX10_isPerson 1 = .ok (.ifCond .lt 15, 3) := by decide +kernel
theorem dX10_isPerson_4 : decode cX10_isPerson 4 = .ok (.iload_n 1, 1) := by decide +kernel
theorem dX10_isPerson_5 : decode cX10_isPerson 5 = .ok (.aload_n 0, 1) := by decide +kernel
theorem dX10_isPerson_6 : decode cX10_isPerson 6 = .ok (.getfield 166, 3) := by decide +kernel
theorem dX10_isPerson_9 : decode cX10_isPerson 9 = .ok (.if_icmp .ge 7, 3) := by decide +kernel
theorem dX10_isPerson_12 : decode cX10_isPerson 12 = .ok (.iconst 1, 1) := by decide +kernel
theorem dX10_isPerson_13 : decode cX10_isPerson 13 = .ok (.goto 4, 3) := by decide +kernel
theorem dX10_isPerson_16 : decode cX10_isPerson 16 = .ok (.iconst 0, 1) := by decide +kernel
theorem dX10_isPerson_17 : decode cX10_isPerson 17 = .ok (.ireturn, 1) := by decide +kernel
theorem dX10_isFund_0 : decode cX10_isFund 0 = .ok (.iload_n 1, 1) := by decide +kernel
theorem dX10_isFund_1 : decode cX10_isFund 1 = .ok (.bipush 24, 2) := by decide +kernel
theorem dX10_isFund_3 : decode cX10_isFund 3 = .ok (.if_icmp .lt 18, 3) := by decide +kernel
theorem dX10_isFund_6 : decode cX10_isFund 6 = .ok (.iload_n 1, 1) := by decide +kernel
theorem dX10_isFund_7 : decode cX10_isFund 7 = .ok (.bipush 24, 2) := by decide +kernel
theorem dX10_isFund_9 : decode cX10_isFund 9 = .ok (.aload_n 0, 1) := by decide +kernel
theorem dX10_isFund_10 : decode cX10_isFund 10 = .ok (.getfield 169, 3) := by decide +kernel
theorem dX10_isFund_13 : decode cX10_isFund 13 = .ok (.iadd, 1) := by decide +kernel
theorem dX10_isFund_14 : decode cX10_isFund 14 = .ok (.if_icmp .ge 7, 3) := by decide +kernel
theorem dX10_isFund_17 : decode cX10_isFund 17 = .ok (.iconst 1, 1) := by decide +kernel
theorem dX10_isFund_18 : decode cX10_isFund 18 = .ok (.goto 4, 3) := by decide +kernel
theorem dX10_isFund_21 : decode cX10_isFund 21 = .ok (.iconst 0, 1) := by decide +kernel
theorem dX10_isFund_22 : decode cX10_isFund 22 = .ok (.ireturn, 1) := by decide +kernel
theorem dX10_isBidder_0 : decode cX10_isBidder 0 = .ok (.aload_n 0, 1) := by decide +kernel
theorem dX10_isBidder_1 : decode cX10_isBidder 1 = .ok (.iload_n 1, 1) := by decide +kernel
theorem dX10_isBidder_2 : decode cX10_isBidder 2 = .ok (.invokevirtual 172, 3) := by decide +kernel
theorem dX10_isBidder_5 : decode cX10_isBidder 5 = .ok (.ifCond .ne 11, 3) := by decide +kernel
theorem dX10_isBidder_8 : decode cX10_isBidder 8 = .ok (.aload_n 0, 1) := by decide +kernel
theorem dX10_isBidder_9 : decode cX10_isBidder 9 = .ok (.iload_n 1, 1) := by decide +kernel
theorem dX10_isBidder_10 : decode cX10_isBidder 10 = .ok (.invokevirtual 175, 3) := by decide +kernel
theorem dX10_isBidder_13 : decode cX10_isBidder 13 = .ok (.ifCond .eq 7, 3) := by decide +kernel
theorem dX10_isBidder_16 : decode cX10_isBidder 16 = .ok (.iconst 1, 1) := by decide +kernel
theorem dX10_isBidder_17 : decode cX10_isBidder 17 = .ok (.goto 4, 3) := by decide +kernel
theorem dX10_isBidder_20 : decode cX10_isBidder 20 = .ok (.iconst 0, 1) := by decide +kernel
theorem dX10_isBidder_21 : decode cX10_isBidder 21 = .ok (.ireturn, 1) := by decide +kernel
theorem dX10_work_0 : decode cX10_work 0 = .ok (.aload_n 0, 1) := by decide +kernel
theorem dX10_work_1 : decode cX10_work 1 = .ok (.iconst 0, 1) := by decide +kernel
theorem dX10_work_2 : decode cX10_work 2 = .ok (.putfield 73, 3) := by decide +kernel
theorem dX10_work_5 : decode cX10_work 5 = .ok (.aload_n 0, 1) := by decide +kernel
theorem dX10_work_6 : decode cX10_work 6 = .ok (.getfield 163, 3) := by decide +kernel
theorem dX10_work_9 : decode cX10_work 9 = .ok (.bipush 10, 2) := by decide +kernel
theorem dX10_work_11 : decode cX10_work 11 = .ok (.if_icmp .eq 25, 3) := by decide +kernel
theorem dX10_work_14 : decode cX10_work 14 = .ok (.iload_n 1, 1) := by decide +kernel
theorem dX10_work_15 : decode cX10_work 15 = .ok (.iconst 1, 1) := by decide +kernel
theorem dX10_work_16 : decode cX10_work 16 = .ok (.sipush 1000, 3) := by decide +kernel
theorem dX10_work_19 : decode cX10_work 19 = .ok (.invokestatic 178, 3) := by decide +kernel
theorem dX10_work_22 : decode cX10_work 22 = .ok (.ifCond .eq 14, 3) := by decide +kernel
theorem dX10_work_25 : decode cX10_work 25 = .ok (.iload_n 2, 1) := by decide +kernel
theorem dX10_work_26 : decode cX10_work 26 = .ok (.iconst 1, 1) := by decide +kernel
theorem dX10_work_27 : decode cX10_work 27 = .ok (.sipush 9999, 3) := by decide +kernel
theorem dX10_work_30 : decode cX10_work 30 = .ok (.invokestatic 178, 3) := by decide +kernel
theorem dX10_work_33 : decode cX10_work 33 = .ok (.ifCond .ne 5, 3) := by decide +kernel
theorem dX10_work_36 : decode cX10_work 36 = .ok (.iconst (-1), 1) := by decide +kernel
theorem dX10_work_37 : decode cX10_work 37 = .ok (.ireturn, 1) := by decide +kernel
theorem dX10_work_38 : decode cX10_work 38 = .ok (.aload_n 0, 1) := by decide +kernel
theorem dX10_work_39 : decode cX10_work 39 = .ok (.getfield 28, 3) := by decide +kernel
theorem dX10_work_42 : decode cX10_work 42 = .ok (.aload_n 0, 1) := by decide +kernel
theorem dX10_work_43 : decode cX10_work 43 = .ok (.getfield 163, 3) := by decide +kernel
theorem dX10_work_46 : decode cX10_work 46 = .ok (.iload_n 1, 1) := by decide +kernel
theorem dX10_work_47 : decode cX10_work 47 = .ok (.iastore, 1) := by decide +kernel
theorem dX10_work_48 : decode cX10_work 48 = .ok (.aload_n 0, 1) := by decide +kernel
theorem dX10_work_49 : decode cX10_work 49 = .ok (.getfield 31, 3) := by decide +kernel
theorem dX10_work_52 : decode cX10_work 52 = .ok (.aload_n 0, 1) := by decide +kernel
theorem dX10_work_53 : decode cX10_work 53 = .ok (.getfield 163, 3) := by decide +kernel
theorem dX10_work_56 : decode cX10_work 56 = .ok (.iload_n 1, 1) := by decide +kernel
theorem dX10_work_57 : decode cX10_work 57 = .ok (.iastore, 1) := by decide +kernel
theorem dX10_work_58 : decode cX10_work 58 = .ok (.aload_n 0, 1) := by decide +kernel
theorem dX10_work_59 : decode cX10_work 59 = .ok (.getfield 34, 3) := by decide +kernel
theorem dX10_work_62 : decode cX10_work 62 = .ok (.aload_n 0, 1) := by decide +kernel
theorem dX10_work_63 : decode cX10_work 63 = .ok (.getfield 163, 3) := by decide +kernel
theorem dX10_work_66 : decode cX10_work 66 = .ok (.iload_n 2, 1) := by decide +kernel
theorem dX10_work_67 : decode cX10_work 67 = .ok (.iastore, 1) := by decide +kernel
theorem dX10_work_68 : decode cX10_work 68 = .ok (.aload_n 0, 1) := by decide +kernel
theorem dX10_work_69 : decode cX10_work 69 = .ok (.getfield 40, 3) := by decide +kernel
theorem dX10_work_72 : decode cX10_work 72 = .ok (.aload_n 0, 1) := by decide +kernel
theorem dX10_work_73 : decode cX10_work 73 = .ok (.getfield 163, 3) := by decide +kernel
theorem dX10_work_76 : decode cX10_work 76 = .ok (.aload_n 0, 1) := by decide +kernel
theorem dX10_work_77 : decode cX10_work 77 = .ok (.getfield 182, 3) := by decide +kernel
theorem dX10_work_80 : decode cX10_work 80 = .ok (.iastore, 1) := by decide +kernel
theorem dX10_work_81 : decode cX10_work 81 = .ok (.aload_n 0, 1) := by decide +kernel
theorem dX10_work_82 : decode cX10_work 82 = .ok (.getfield 37, 3) := by decide +kernel
theorem dX10_work_85 : decode cX10_work 85 = .ok (.bipush 50, 2) := by decide +kernel
theorem dX10_work_87 : decode cX10_work 87 = .ok (.aload_n 0, 1) := by decide +kernel
theorem dX10_work_88 : decode cX10_work 88 = .ok (.getfield 163, 3) := by decide +kernel
theorem dX10_work_91 : decode cX10_work 91 = .ok (.imul, 1) := by decide +kernel
theorem dX10_work_92 : decode cX10_work 92 = .ok (.aload_n 0, 1) := by decide +kernel
theorem dX10_work_93 : decode cX10_work 93 = .ok (.getfield 182, 3) := by decide +kernel
theorem dX10_work_96 : decode cX10_work 96 = .ok (.iadd, 1) := by decide +kernel
theorem dX10_work_97 : decode cX10_work 97 = .ok (.iload_n 2, 1) := by decide +kernel
theorem dX10_work_98 : decode cX10_work 98 = .ok (.iastore, 1) := by decide +kernel
theorem dX10_work_99 : decode cX10_work 99 = .ok (.aload_n 0, 1) := by decide +kernel
theorem dX10_work_100 : decode cX10_work 100 = .ok (.dup, 1) := by decide +kernel
theorem dX10_work_101 : decode cX10_work 101 = .ok (.getfield 163, 3) := by decide +kernel
theorem dX10_work_104 : decode cX10_work 104 = .ok (.iconst 1, 1) := by decide +kernel
theorem dX10_work_105 : decode cX10_work 105 = .ok (.iadd, 1) := by decide +kernel
theorem dX10_work_106 : decode cX10_work 106 = .ok (.putfield 163, 3) := by decide +kernel
theorem dX10_work_109 : decode cX10_work 109 = .ok (.aload_n 0, 1) := by decide +kernel
theorem dX10_work_110 : decode cX10_work 110 = .ok (.getfield 163, 3) := by decide +kernel
theorem dX10_work_113 : decode cX10_work 113 = .ok (.iconst 1, 1) := by decide +kernel
theorem dX10_work_114 : decode cX10_work 114 = .ok (.isub, 1) := by decide +kernel
theorem dX10_work_115 : decode cX10_work 115 = .ok (.ireturn, 1) := by decide +kernel
theorem dX10_person_0 : decode cX10_person 0 = .ok (.aload_n 0, 1) := by decide +kernel
theorem dX10_person_1 : decode cX10_person 1 = .ok (.iconst 0, 1) := by decide +kernel
theorem dX10_person_2 : decode cX10_person 2 = .ok (.putfield 73, 3) := by decide +kernel
theorem dX10_person_5 : decode cX10_person 5 = .ok (.aload_n 0, 1) := by decide +kernel
theorem dX10_person_6 : decode cX10_person 6 = .ok (.getfield 166, 3) := by decide +kernel
theorem dX10_person_9 : decode cX10_person 9 = .ok (.bipush 24, 2) := by decide +kernel
theorem dX10_person_11 : decode cX10_person 11 = .ok (.if_icmp .eq 16, 3) := by decide +kernel
theorem dX10_person_14 : decode cX10_person 14 = .ok (.iload_n 1, 1) := by decide +kernel
theorem dX10_person_15 : decode cX10_person 15 = .ok (.iconst (-1), 1) := by decide +kernel
theorem dX10_person_16 : decode cX10_person 16 = .ok (.if_icmp .eq 13, 3) := by decide +kernel
theorem dX10_person_19 : decode cX10_person 19 = .ok (.aload_n 0, 1) := by decide +kernel
theorem dX10_person_20 : decode cX10_person 20 = .ok (.iload_n 1, 1) := by decide +kernel
theorem dX10_person_21 : decode cX10_person 21 = .ok (.invokevirtual 185, 3) := by decide +kernel
theorem dX10_person_24 : decode cX10_person 24 = .ok (.ifCond .ne 5, 3) := by decide +kernel
theorem dX10_person_27 : decode cX10_person 27 = .ok (.iconst (-1), 1) := by decide +kernel
theorem dX10_person_28 : decode cX10_person 28 = .ok (.ireturn, 1) := by decide +kernel
theorem dX10_person_29 : decode cX10_person 29 = .ok (.aload_n 0, 1) := by decide +kernel
theorem dX10_person_30 : decode cX10_person 30 = .ok (.getfield 43, 3) := by decide +kernel
theorem dX10_person_33 : decode cX10_person 33 = .ok (.aload_n 0, 1) := by decide +kernel
theorem dX10_person_34 : decode cX10_person 34 = .ok (.getfield 166, 3) := by decide +kernel
theorem dX10_person_37 : decode cX10_person 37 = .ok (.sipush 1000, 3) := by decide +kernel
theorem dX10_person_40 : decode cX10_person 40 = .ok (.iastore, 1) := by decide +kernel
theorem dX10_person_41 : decode cX10_person 41 = .ok (.aload_n 0, 1) := by decide +kernel
theorem dX10_person_42 : decode cX10_person 42 = .ok (.getfield 46, 3) := by decide +kernel
theorem dX10_person_45 : decode cX10_person 45 = .ok (.aload_n 0, 1) := by decide +kernel
theorem dX10_person_46 : decode cX10_person 46 = .ok (.getfield 166, 3) := by decide +kernel
theorem dX10_person_49 : decode cX10_person 49 = .ok (.iload_n 1, 1) := by decide +kernel
theorem dX10_person_50 : decode cX10_person 50 = .ok (.iastore, 1) := by decide +kernel
theorem dX10_person_51 : decode cX10_person 51 = .ok (.aload_n 0, 1) := by decide +kernel
theorem dX10_person_52 : decode cX10_person 52 = .ok (.dup, 1) := by decide +kernel
theorem dX10_person_53 : decode cX10_person 53 = .ok (.getfield 166, 3) := by decide +kernel
theorem dX10_person_56 : decode cX10_person 56 = .ok (.iconst 1, 1) := by decide +kernel
theorem dX10_person_57 : decode cX10_person 57 = .ok (.iadd, 1) := by decide +kernel
theorem dX10_person_58 : decode cX10_person 58 = .ok (.putfield 166, 3) := by decide +kernel
theorem dX10_person_61 : decode cX10_person 61 = .ok (.aload_n 0, 1) := by decide +kernel
theorem dX10_person_62 : decode cX10_person 62 = .ok (.getfield 166, 3) := by decide +kernel
theorem dX10_person_65 : decode cX10_person 65 = .ok (.iconst 1, 1) := by decide +kernel
theorem dX10_person_66 : decode cX10_person 66 = .ok (.isub, 1) := by decide +kernel
theorem dX10_person_67 : decode cX10_person 67 = .ok (.ireturn, 1) := by decide +kernel
theorem dX10_fund_0 : decode cX10_fund 0 = .ok (.aload_n 0, 1) := by decide +kernel
theorem dX10_fund_1 : decode cX10_fund 1 = .ok (.iconst 0, 1) := by decide +kernel
theorem dX10_fund_2 : decode cX10_fund 2 = .ok (.putfield 73, 3) := by decide +kernel
theorem dX10_fund_5 : decode cX10_fund 5 = .ok (.aload_n 0, 1) := by decide +kernel
theorem dX10_fund_6 : decode cX10_fund 6 = .ok (.getfield 169, 3) := by decide +kernel
theorem dX10_fund_9 : decode cX10_fund 9 = .ok (.iconst 4, 1) := by decide +kernel
theorem dX10_fund_10 : decode cX10_fund 10 = .ok (.if_icmp .eq 14, 3) := by decide +kernel
theorem dX10_fund_13 : decode cX10_fund 13 = .ok (.iload_n 1, 1) := by decide +kernel
theorem dX10_fund_14 : decode cX10_fund 14 = .ok (.iconst 0, 1) := by decide +kernel
theorem dX10_fund_15 : decode cX10_fund 15 = .ok (.sipush 500, 3) := by decide +kernel
theorem dX10_fund_18 : decode cX10_fund 18 = .ok (.invokestatic 178, 3) := by decide +kernel
theorem dX10_fund_21 : decode cX10_fund 21 = .ok (.ifCond .ne 5, 3) := by decide +kernel
theorem dX10_fund_24 : decode cX10_fund 24 = .ok (.iconst (-1), 1) := by decide +kernel
theorem dX10_fund_25 : decode cX10_fund 25 = .ok (.ireturn, 1) := by decide +kernel
theorem dX10_fund_26 : decode cX10_fund 26 = .ok (.aload_n 0, 1) := by decide +kernel
theorem dX10_fund_27 : decode cX10_fund 27 = .ok (.getfield 49, 3) := by decide +kernel
theorem dX10_fund_30 : decode cX10_fund 30 = .ok (.aload_n 0, 1) := by decide +kernel
theorem dX10_fund_31 : decode cX10_fund 31 = .ok (.getfield 169, 3) := by decide +kernel
theorem dX10_fund_34 : decode cX10_fund 34 = .ok (.iload_n 1, 1) := by decide +kernel
theorem dX10_fund_35 : decode cX10_fund 35 = .ok (.iastore, 1) := by decide +kernel
theorem dX10_fund_36 : decode cX10_fund 36 = .ok (.aload_n 0, 1) := by decide +kernel
theorem dX10_fund_37 : decode cX10_fund 37 = .ok (.dup, 1) := by decide +kernel
theorem dX10_fund_38 : decode cX10_fund 38 = .ok (.getfield 169, 3) := by decide +kernel
theorem dX10_fund_41 : decode cX10_fund 41 = .ok (.iconst 1, 1) := by decide +kernel
theorem dX10_fund_42 : decode cX10_fund 42 = .ok (.iadd, 1) := by decide +kernel
theorem dX10_fund_43 : decode cX10_fund 43 = .ok (.putfield 169, 3) := by decide +kernel
theorem dX10_fund_46 : decode cX10_fund 46 = .ok (.bipush 24, 2) := by decide +kernel
theorem dX10_fund_48 : decode cX10_fund 48 = .ok (.aload_n 0, 1) := by decide +kernel
theorem dX10_fund_49 : decode cX10_fund 49 = .ok (.getfield 169, 3) := by decide +kernel
theorem dX10_fund_52 : decode cX10_fund 52 = .ok (.iadd, 1) := by decide +kernel
theorem dX10_fund_53 : decode cX10_fund 53 = .ok (.iconst 1, 1) := by decide +kernel
theorem dX10_fund_54 : decode cX10_fund 54 = .ok (.isub, 1) := by decide +kernel
theorem dX10_fund_55 : decode cX10_fund 55 = .ok (.ireturn, 1) := by decide +kernel
theorem dX10_costs_0 : decode cX10_costs 0 = .ok (.iconst 0, 1) := by decide +kernel
theorem dX10_costs_1 : decode cX10_costs 1 = .ok (.istore_n 2, 1) := by decide +kernel
theorem dX10_costs_2 : decode cX10_costs 2 = .ok (.iconst 0, 1) := by decide +kernel
theorem dX10_costs_3 : decode cX10_costs 3 = .ok (.istore_n 3, 1) := by decide +kernel
theorem dX10_costs_4 : decode cX10_costs 4 = .ok (.iload_n 3, 1) := by decide +kernel
theorem dX10_costs_5 : decode cX10_costs 5 = .ok (.aload_n 0, 1) := by decide +kernel
theorem dX10_costs_6 : decode cX10_costs 6 = .ok (.getfield 163, 3) := by decide +kernel
theorem dX10_costs_9 : decode cX10_costs 9 = .ok (.if_icmp .ge 30, 3) := by decide +kernel
theorem dX10_costs_12 : decode cX10_costs 12 = .ok (.iload_n 2, 1) := by decide +kernel
theorem dX10_costs_13 : decode cX10_costs 13 = .ok (.aload_n 0, 1) := by decide +kernel
theorem dX10_costs_14 : decode cX10_costs 14 = .ok (.getfield 58, 3) := by decide +kernel
theorem dX10_costs_17 : decode cX10_costs 17 = .ok (.bipush 10, 2) := by decide +kernel
theorem dX10_costs_19 : decode cX10_costs 19 = .ok (.iload_n 1, 1) := by decide +kernel
theorem dX10_costs_20 : decode cX10_costs 20 = .ok (.imul, 1) := by decide +kernel
theorem dX10_costs_21 : decode cX10_costs 21 = .ok (.iload_n 3, 1) := by decide +kernel
theorem dX10_costs_22 : decode cX10_costs 22 = .ok (.iadd, 1) := by decide +kernel
theorem dX10_costs_23 : decode cX10_costs 23 = .ok (.iaload, 1) := by decide +kernel
theorem dX10_costs_24 : decode cX10_costs 24 = .ok (.aload_n 0, 1) := by decide +kernel
theorem dX10_costs_25 : decode cX10_costs 25 = .ok (.getfield 34, 3) := by decide +kernel
theorem dX10_costs_28 : decode cX10_costs 28 = .ok (.iload_n 3, 1) := by decide +kernel
theorem dX10_costs_29 : decode cX10_costs 29 = .ok (.iaload, 1) := by decide +kernel
theorem dX10_costs_30 : decode cX10_costs 30 = .ok (.imul, 1) := by decide +kernel
theorem dX10_costs_31 : decode cX10_costs 31 = .ok (.iadd, 1) := by decide +kernel
theorem dX10_costs_32 : decode cX10_costs 32 = .ok (.istore_n 2, 1) := by decide +kernel
theorem dX10_costs_33 : decode cX10_costs 33 = .ok (.iinc 3 1, 3) := by decide +kernel
theorem dX10_costs_36 : decode cX10_costs 36 = .ok (.goto (-32), 3) := by decide +kernel
theorem dX10_costs_39 : decode cX10_costs 39 = .ok (.iload_n 2, 1) := by decide +kernel
theorem dX10_costs_40 : decode cX10_costs 40 = .ok (.ireturn, 1) := by decide +kernel
theorem dX10_give_0 : decode cX10_give 0 = .ok (.aload_n 0, 1) := by decide +kernel
theorem dX10_give_1 : decode cX10_give 1 = .ok (.iconst 0, 1) := by decide +kernel
theorem dX10_give_2 : decode cX10_give 2 = .ok (.putfield 73, 3) := by decide +kernel
theorem dX10_give_5 : decode cX10_give 5 = .ok (.aload_n 0, 1) := by decide +kernel
theorem dX10_give_6 : decode cX10_give 6 = .ok (.iload_n 1, 1) := by decide +kernel
theorem dX10_give_7 : decode cX10_give 7 = .ok (.invokevirtual 172, 3) := by decide +kernel
theorem dX10_give_10 : decode cX10_give 10 = .ok (.ifCond .eq 39, 3) := by decide +kernel
theorem dX10_give_13 : decode cX10_give 13 = .ok (.aload_n 0, 1) := by decide +kernel
theorem dX10_give_14 : decode cX10_give 14 = .ok (.iload_n 2, 1) := by decide +kernel
theorem dX10_give_15 : decode cX10_give 15 = .ok (.invokevirtual 175, 3) := by decide +kernel
theorem dX10_give_18 : decode cX10_give 18 = .ok (.ifCond .eq 31, 3) := by decide +kernel
theorem dX10_give_21 : decode cX10_give 21 = .ok (.aload_n 0, 1) := by decide +kernel
theorem dX10_give_22 : decode cX10_give 22 = .ok (.getfield 182, 3) := by decide +kernel
theorem dX10_give_25 : decode cX10_give 25 = .ok (.ifCond .gt 24, 3) := by decide +kernel
theorem dX10_give_28 : decode cX10_give 28 = .ok (.iload_n 3, 1) := by decide +kernel
theorem dX10_give_29 : decode cX10_give 29 = .ok (.iconst 1, 1) := by decide +kernel
theorem dX10_give_30 : decode cX10_give 30 = .ok (.if_icmp .lt 19, 3) := by decide +kernel
theorem dX10_give_33 : decode cX10_give 33 = .ok (.iload_n 3, 1) := by decide +kernel
theorem dX10_give_34 : decode cX10_give 34 = .ok (.aload_n 0, 1) := by decide +kernel
theorem dX10_give_35 : decode cX10_give 35 = .ok (.getfield 43, 3) := by decide +kernel
theorem dX10_give_38 : decode cX10_give 38 = .ok (.iload_n 1, 1) := by decide +kernel
theorem dX10_give_39 : decode cX10_give 39 = .ok (.iaload, 1) := by decide +kernel
theorem dX10_give_40 : decode cX10_give 40 = .ok (.aload_n 0, 1) := by decide +kernel
theorem dX10_give_41 : decode cX10_give 41 = .ok (.iload_n 1, 1) := by decide +kernel
theorem dX10_give_42 : decode cX10_give 42 = .ok (.invokevirtual 188, 3) := by decide +kernel
theorem dX10_give_45 : decode cX10_give 45 = .ok (.isub, 1) := by decide +kernel
theorem dX10_give_46 : decode cX10_give 46 = .ok (.if_icmp .le 5, 3) := by decide +kernel
theorem dX10_give_49 : decode cX10_give 49 = .ok (.iconst (-1), 1) := by decide +kernel
theorem dX10_give_50 : decode cX10_give 50 = .ok (.ireturn, 1) := by decide +kernel
theorem dX10_give_51 : decode cX10_give 51 = .ok (.iload_n 2, 1) := by decide +kernel
theorem dX10_give_52 : decode cX10_give 52 = .ok (.bipush 24, 2) := by decide +kernel
theorem dX10_give_54 : decode cX10_give 54 = .ok (.isub, 1) := by decide +kernel
theorem dX10_give_55 : decode cX10_give 55 = .ok (.istore 4, 2) := by decide +kernel
theorem dX10_give_57 : decode cX10_give 57 = .ok (.aload_n 0, 1) := by decide +kernel
theorem dX10_give_58 : decode cX10_give 58 = .ok (.getfield 43, 3) := by decide +kernel
theorem dX10_give_61 : decode cX10_give 61 = .ok (.iload_n 1, 1) := by decide +kernel
theorem dX10_give_62 : decode cX10_give 62 = .ok (.dup2, 1) := by decide +kernel
theorem dX10_give_63 : decode cX10_give 63 = .ok (.iaload, 1) := by decide +kernel
theorem dX10_give_64 : decode cX10_give 64 = .ok (.iload_n 3, 1) := by decide +kernel
theorem dX10_give_65 : decode cX10_give 65 = .ok (.isub, 1) := by decide +kernel
theorem dX10_give_66 : decode cX10_give 66 = .ok (.iastore, 1) := by decide +kernel
theorem dX10_give_67 : decode cX10_give 67 = .ok (.aload_n 0, 1) := by decide +kernel
theorem dX10_give_68 : decode cX10_give 68 = .ok (.getfield 43, 3) := by decide +kernel
theorem dX10_give_71 : decode cX10_give 71 = .ok (.iload_n 2, 1) := by decide +kernel
theorem dX10_give_72 : decode cX10_give 72 = .ok (.dup2, 1) := by decide +kernel
theorem dX10_give_73 : decode cX10_give 73 = .ok (.iaload, 1) := by decide +kernel
theorem dX10_give_74 : decode cX10_give 74 = .ok (.iload_n 3, 1) := by decide +kernel
theorem dX10_give_75 : decode cX10_give 75 = .ok (.iadd, 1) := by decide +kernel
theorem dX10_give_76 : decode cX10_give 76 = .ok (.iastore, 1) := by decide +kernel
theorem dX10_give_77 : decode cX10_give 77 = .ok (.aload_n 0, 1) := by decide +kernel
theorem dX10_give_78 : decode cX10_give 78 = .ok (.getfield 52, 3) := by decide +kernel
theorem dX10_give_81 : decode cX10_give 81 = .ok (.iload 4, 2) := by decide +kernel
theorem dX10_give_83 : decode cX10_give 83 = .ok (.dup2, 1) := by decide +kernel
theorem dX10_give_84 : decode cX10_give 84 = .ok (.iaload, 1) := by decide +kernel
theorem dX10_give_85 : decode cX10_give 85 = .ok (.iload_n 3, 1) := by decide +kernel
theorem dX10_give_86 : decode cX10_give 86 = .ok (.iadd, 1) := by decide +kernel
theorem dX10_give_87 : decode cX10_give 87 = .ok (.iastore, 1) := by decide +kernel
theorem dX10_give_88 : decode cX10_give 88 = .ok (.aload_n 0, 1) := by decide +kernel
theorem dX10_give_89 : decode cX10_give 89 = .ok (.getfield 55, 3) := by decide +kernel
theorem dX10_give_92 : decode cX10_give 92 = .ok (.iconst 4, 1) := by decide +kernel
theorem dX10_give_93 : decode cX10_give 93 = .ok (.iload_n 1, 1) := by decide +kernel
theorem dX10_give_94 : decode cX10_give 94 = .ok (.imul, 1) := by decide +kernel
theorem dX10_give_95 : decode cX10_give 95 = .ok (.iload 4, 2) := by decide +kernel
theorem dX10_give_97 : decode cX10_give 97 = .ok (.iadd, 1) := by decide +kernel
theorem dX10_give_98 : decode cX10_give 98 = .ok (.dup2, 1) := by decide +kernel
theorem dX10_give_99 : decode cX10_give 99 = .ok (.iaload, 1) := by decide +kernel
theorem dX10_give_100 : decode cX10_give 100 = .ok (.iload_n 3, 1) := by decide +kernel
theorem dX10_give_101 : decode cX10_give 101 = .ok (.iadd, 1) := by decide +kernel
theorem dX10_give_102 : decode cX10_give 102 = .ok (.iastore, 1) := by decide +kernel
theorem dX10_give_103 : decode cX10_give 103 = .ok (.aload_n 0, 1) := by decide +kernel
theorem dX10_give_104 : decode cX10_give 104 = .ok (.getfield 55, 3) := by decide +kernel
theorem dX10_give_107 : decode cX10_give 107 = .ok (.iconst 4, 1) := by decide +kernel
theorem dX10_give_108 : decode cX10_give 108 = .ok (.iload_n 1, 1) := by decide +kernel
theorem dX10_give_109 : decode cX10_give 109 = .ok (.imul, 1) := by decide +kernel
theorem dX10_give_110 : decode cX10_give 110 = .ok (.iload 4, 2) := by decide +kernel
theorem dX10_give_112 : decode cX10_give 112 = .ok (.iadd, 1) := by decide +kernel
theorem dX10_give_113 : decode cX10_give 113 = .ok (.iaload, 1) := by decide +kernel
theorem dX10_give_114 : decode cX10_give 114 = .ok (.ireturn, 1) := by decide +kernel
theorem dX10_bid_0 : decode cX10_bid 0 = .ok (.aload_n 0, 1) := by decide +kernel
theorem dX10_bid_1 : decode cX10_bid 1 = .ok (.iconst 0, 1) := by decide +kernel
theorem dX10_bid_2 : decode cX10_bid 2 = .ok (.putfield 73, 3) := by decide +kernel
theorem dX10_bid_5 : decode cX10_bid 5 = .ok (.aload_n 0, 1) := by decide +kernel
theorem dX10_bid_6 : decode cX10_bid 6 = .ok (.iload_n 1, 1) := by decide +kernel
theorem dX10_bid_7 : decode cX10_bid 7 = .ok (.invokevirtual 191, 3) := by decide +kernel
theorem dX10_bid_10 : decode cX10_bid 10 = .ok (.ifCond .eq 22, 3) := by decide +kernel
theorem dX10_bid_13 : decode cX10_bid 13 = .ok (.aload_n 0, 1) := by decide +kernel
theorem dX10_bid_14 : decode cX10_bid 14 = .ok (.iload_n 2, 1) := by decide +kernel
theorem dX10_bid_15 : decode cX10_bid 15 = .ok (.invokevirtual 185, 3) := by decide +kernel
theorem dX10_bid_18 : decode cX10_bid 18 = .ok (.ifCond .eq 14, 3) := by decide +kernel
theorem dX10_bid_21 : decode cX10_bid 21 = .ok (.iload_n 3, 1) := by decide +kernel
theorem dX10_bid_22 : decode cX10_bid 22 = .ok (.iconst 0, 1) := by decide +kernel
theorem dX10_bid_23 : decode cX10_bid 23 = .ok (.sipush 1000, 3) := by decide +kernel
theorem dX10_bid_26 : decode cX10_bid 26 = .ok (.invokestatic 178, 3) := by decide +kernel
theorem dX10_bid_29 : decode cX10_bid 29 = .ok (.ifCond .ne 5, 3) := by decide +kernel
theorem dX10_bid_32 : decode cX10_bid 32 = .ok (.iconst (-1), 1) := by decide +kernel
theorem dX10_bid_33 : decode cX10_bid 33 = .ok (.ireturn, 1) := by decide +kernel
theorem dX10_bid_34 : decode cX10_bid 34 = .ok (.aload_n 0, 1) := by decide +kernel
theorem dX10_bid_35 : decode cX10_bid 35 = .ok (.iload_n 1, 1) := by decide +kernel
theorem dX10_bid_36 : decode cX10_bid 36 = .ok (.invokevirtual 188, 3) := by decide +kernel
theorem dX10_bid_39 : decode cX10_bid 39 = .ok (.iload_n 3, 1) := by decide +kernel
theorem dX10_bid_40 : decode cX10_bid 40 = .ok (.aload_n 0, 1) := by decide +kernel
theorem dX10_bid_41 : decode cX10_bid 41 = .ok (.getfield 58, 3) := by decide +kernel
theorem dX10_bid_44 : decode cX10_bid 44 = .ok (.bipush 10, 2) := by decide +kernel
theorem dX10_bid_46 : decode cX10_bid 46 = .ok (.iload_n 1, 1) := by decide +kernel
theorem dX10_bid_47 : decode cX10_bid 47 = .ok (.imul, 1) := by decide +kernel
theorem dX10_bid_48 : decode cX10_bid 48 = .ok (.iload_n 2, 1) := by decide +kernel
theorem dX10_bid_49 : decode cX10_bid 49 = .ok (.iadd, 1) := by decide +kernel
theorem dX10_bid_50 : decode cX10_bid 50 = .ok (.iaload, 1) := by decide +kernel
theorem dX10_bid_51 : decode cX10_bid 51 = .ok (.isub, 1) := by decide +kernel
theorem dX10_bid_52 : decode cX10_bid 52 = .ok (.aload_n 0, 1) := by decide +kernel
theorem dX10_bid_53 : decode cX10_bid 53 = .ok (.getfield 34, 3) := by decide +kernel
theorem dX10_bid_56 : decode cX10_bid 56 = .ok (.iload_n 2, 1) := by decide +kernel
theorem dX10_bid_57 : decode cX10_bid 57 = .ok (.iaload, 1) := by decide +kernel
theorem dX10_bid_58 : decode cX10_bid 58 = .ok (.imul, 1) := by decide +kernel
theorem dX10_bid_59 : decode cX10_bid 59 = .ok (.iadd, 1) := by decide +kernel
theorem dX10_bid_60 : decode cX10_bid 60 = .ok (.istore 4, 2) := by decide +kernel
theorem dX10_bid_62 : decode cX10_bid 62 = .ok (.iload 4, 2) := by decide +kernel
theorem dX10_bid_64 : decode cX10_bid 64 = .ok (.aload_n 0, 1) := by decide +kernel
theorem dX10_bid_65 : decode cX10_bid 65 = .ok (.getfield 43, 3) := by decide +kernel
theorem dX10_bid_68 : decode cX10_bid 68 = .ok (.iload_n 1, 1) := by decide +kernel
theorem dX10_bid_69 : decode cX10_bid 69 = .ok (.iaload, 1) := by decide +kernel
theorem dX10_bid_70 : decode cX10_bid 70 = .ok (.if_icmp .le 5, 3) := by decide +kernel
theorem dX10_bid_73 : decode cX10_bid 73 = .ok (.iconst (-1), 1) := by decide +kernel
theorem dX10_bid_74 : decode cX10_bid 74 = .ok (.ireturn, 1) := by decide +kernel
theorem dX10_bid_75 : decode cX10_bid 75 = .ok (.aload_n 0, 1) := by decide +kernel
theorem dX10_bid_76 : decode cX10_bid 76 = .ok (.getfield 58, 3) := by decide +kernel
theorem dX10_bid_79 : decode cX10_bid 79 = .ok (.bipush 10, 2) := by decide +kernel
theorem dX10_bid_81 : decode cX10_bid 81 = .ok (.iload_n 1, 1) := by decide +kernel
theorem dX10_bid_82 : decode cX10_bid 82 = .ok (.imul, 1) := by decide +kernel
theorem dX10_bid_83 : decode cX10_bid 83 = .ok (.iload_n 2, 1) := by decide +kernel
theorem dX10_bid_84 : decode cX10_bid 84 = .ok (.iadd, 1) := by decide +kernel
theorem dX10_bid_85 : decode cX10_bid 85 = .ok (.iload_n 3, 1) := by decide +kernel
theorem dX10_bid_86 : decode cX10_bid 86 = .ok (.iastore, 1) := by decide +kernel
theorem dX10_bid_87 : decode cX10_bid 87 = .ok (.iload 4, 2) := by decide +kernel
theorem dX10_bid_89 : decode cX10_bid 89 = .ok (.ireturn, 1) := by decide +kernel
theorem dX10_part_0 : decode cX10_part 0 = .ok (.iconst 0, 1) := by decide +kernel
theorem dX10_part_1 : decode cX10_part 1 = .ok (.istore_n 2, 1) := by decide +kernel
theorem dX10_part_2 : decode cX10_part 2 = .ok (.iconst 0, 1) := by decide +kernel
theorem dX10_part_3 : decode cX10_part 3 = .ok (.istore_n 3, 1) := by decide +kernel
theorem dX10_part_4 : decode cX10_part 4 = .ok (.iload_n 3, 1) := by decide +kernel
theorem dX10_part_5 : decode cX10_part 5 = .ok (.bipush 28, 2) := by decide +kernel
theorem dX10_part_7 : decode cX10_part 7 = .ok (.if_icmp .ge 30, 3) := by decide +kernel
theorem dX10_part_10 : decode cX10_part 10 = .ok (.iload_n 2, 1) := by decide +kernel
theorem dX10_part_11 : decode cX10_part 11 = .ok (.aload_n 0, 1) := by decide +kernel
theorem dX10_part_12 : decode cX10_part 12 = .ok (.getfield 67, 3) := by decide +kernel
theorem dX10_part_15 : decode cX10_part 15 = .ok (.iload_n 3, 1) := by decide +kernel
theorem dX10_part_16 : decode cX10_part 16 = .ok (.iaload, 1) := by decide +kernel
theorem dX10_part_17 : decode cX10_part 17 = .ok (.iadd, 1) := by decide +kernel
theorem dX10_part_18 : decode cX10_part 18 = .ok (.istore_n 2, 1) := by decide +kernel
theorem dX10_part_19 : decode cX10_part 19 = .ok (.aload_n 0, 1) := by decide +kernel
theorem dX10_part_20 : decode cX10_part 20 = .ok (.getfield 70, 3) := by decide +kernel
theorem dX10_part_23 : decode cX10_part 23 = .ok (.iload_n 3, 1) := by decide +kernel
theorem dX10_part_24 : decode cX10_part 24 = .ok (.aload_n 0, 1) := by decide +kernel
theorem dX10_part_25 : decode cX10_part 25 = .ok (.getfield 67, 3) := by decide +kernel
theorem dX10_part_28 : decode cX10_part 28 = .ok (.iload_n 3, 1) := by decide +kernel
theorem dX10_part_29 : decode cX10_part 29 = .ok (.iaload, 1) := by decide +kernel
theorem dX10_part_30 : decode cX10_part 30 = .ok (.iastore, 1) := by decide +kernel
theorem dX10_part_31 : decode cX10_part 31 = .ok (.iinc 3 1, 3) := by decide +kernel
theorem dX10_part_34 : decode cX10_part 34 = .ok (.goto (-30), 3) := by decide +kernel
theorem dX10_part_37 : decode cX10_part 37 = .ok (.iload_n 2, 1) := by decide +kernel
theorem dX10_part_38 : decode cX10_part 38 = .ok (.iload_n 1, 1) := by decide +kernel
theorem dX10_part_39 : decode cX10_part 39 = .ok (.if_icmp .gt 5, 3) := by decide +kernel
theorem dX10_part_42 : decode cX10_part 42 = .ok (.iload_n 2, 1) := by decide +kernel
theorem dX10_part_43 : decode cX10_part 43 = .ok (.ireturn, 1) := by decide +kernel
theorem dX10_part_44 : decode cX10_part 44 = .ok (.iload_n 1, 1) := by decide +kernel
theorem dX10_part_45 : decode cX10_part 45 = .ok (.istore_n 3, 1) := by decide +kernel
theorem dX10_part_46 : decode cX10_part 46 = .ok (.iconst 0, 1) := by decide +kernel
theorem dX10_part_47 : decode cX10_part 47 = .ok (.istore 4, 2) := by decide +kernel
theorem dX10_part_49 : decode cX10_part 49 = .ok (.iload 4, 2) := by decide +kernel
theorem dX10_part_51 : decode cX10_part 51 = .ok (.bipush 28, 2) := by decide +kernel
theorem dX10_part_53 : decode cX10_part 53 = .ok (.if_icmp .ge 37, 3) := by decide +kernel
theorem dX10_part_56 : decode cX10_part 56 = .ok (.aload_n 0, 1) := by decide +kernel
theorem dX10_part_57 : decode cX10_part 57 = .ok (.getfield 70, 3) := by decide +kernel
theorem dX10_part_60 : decode cX10_part 60 = .ok (.iload 4, 2) := by decide +kernel
theorem dX10_part_62 : decode cX10_part 62 = .ok (.aload_n 0, 1) := by decide +kernel
theorem dX10_part_63 : decode cX10_part 63 = .ok (.getfield 67, 3) := by decide +kernel
theorem dX10_part_66 : decode cX10_part 66 = .ok (.iload 4, 2) := by decide +kernel
theorem dX10_part_68 : decode cX10_part 68 = .ok (.iaload, 1) := by decide +kernel
theorem dX10_part_69 : decode cX10_part 69 = .ok (.iload_n 1, 1) := by decide +kernel
theorem dX10_part_70 : decode cX10_part 70 = .ok (.imul, 1) := by decide +kernel
theorem dX10_part_71 : decode cX10_part 71 = .ok (.iload_n 2, 1) := by decide +kernel
theorem dX10_part_72 : decode cX10_part 72 = .ok (.idiv, 1) := by decide +kernel
theorem dX10_part_73 : decode cX10_part 73 = .ok (.iastore, 1) := by decide +kernel
theorem dX10_part_74 : decode cX10_part 74 = .ok (.iload_n 3, 1) := by decide +kernel
theorem dX10_part_75 : decode cX10_part 75 = .ok (.aload_n 0, 1) := by decide +kernel
theorem dX10_part_76 : decode cX10_part 76 = .ok (.getfield 70, 3) := by decide +kernel
theorem dX10_part_79 : decode cX10_part 79 = .ok (.iload 4, 2) := by decide +kernel
theorem dX10_part_81 : decode cX10_part 81 = .ok (.iaload, 1) := by decide +kernel
theorem dX10_part_82 : decode cX10_part 82 = .ok (.isub, 1) := by decide +kernel
theorem dX10_part_83 : decode cX10_part 83 = .ok (.istore_n 3, 1) := by decide +kernel
theorem dX10_part_84 : decode cX10_part 84 = .ok (.iinc 4 1, 3) := by decide +kernel
theorem dX10_part_87 : decode cX10_part 87 = .ok (.goto (-38), 3) := by decide +kernel
theorem dX10_part_90 : decode cX10_part 90 = .ok (.iload_n 3, 1) := by decide +kernel
theorem dX10_part_91 : decode cX10_part 91 = .ok (.ifCond .le 95, 3) := by decide +kernel
theorem dX10_part_94 : decode cX10_part 94 = .ok (.iconst (-1), 1) := by decide +kernel
theorem dX10_part_95 : decode cX10_part 95 = .ok (.istore 4, 2) := by decide +kernel
theorem dX10_part_97 : decode cX10_part 97 = .ok (.iconst 0, 1) := by decide +kernel
theorem dX10_part_98 : decode cX10_part 98 = .ok (.istore 5, 2) := by decide +kernel
theorem dX10_part_100 : decode cX10_part 100 = .ok (.iload 5, 2) := by decide +kernel
theorem dX10_part_102 : decode cX10_part 102 = .ok (.bipush 28, 2) := by decide +kernel
theorem dX10_part_104 : decode cX10_part 104 = .ok (.if_icmp .ge 65, 3) := by decide +kernel
theorem dX10_part_107 : decode cX10_part 107 = .ok (.aload_n 0, 1) := by decide +kernel
theorem dX10_part_108 : decode cX10_part 108 = .ok (.getfield 70, 3) := by decide +kernel
theorem dX10_part_111 : decode cX10_part 111 = .ok (.iload 5, 2) := by decide +kernel
theorem dX10_part_113 : decode cX10_part 113 = .ok (.iaload, 1) := by decide +kernel
theorem dX10_part_114 : decode cX10_part 114 = .ok (.aload_n 0, 1) := by decide +kernel
theorem dX10_part_115 : decode cX10_part 115 = .ok (.getfield 67, 3) := by decide +kernel
theorem dX10_part_118 : decode cX10_part 118 = .ok (.iload 5, 2) := by decide +kernel
theorem dX10_part_120 : decode cX10_part 120 = .ok (.iaload, 1) := by decide +kernel
theorem dX10_part_121 : decode cX10_part 121 = .ok (.iload_n 1, 1) := by decide +kernel
theorem dX10_part_122 : decode cX10_part 122 = .ok (.imul, 1) := by decide +kernel
theorem dX10_part_123 : decode cX10_part 123 = .ok (.iload_n 2, 1) := by decide +kernel
theorem dX10_part_124 : decode cX10_part 124 = .ok (.idiv, 1) := by decide +kernel
theorem dX10_part_125 : decode cX10_part 125 = .ok (.if_icmp .ne 38, 3) := by decide +kernel
theorem dX10_part_128 : decode cX10_part 128 = .ok (.iload 4, 2) := by decide +kernel
theorem dX10_part_130 : decode cX10_part 130 = .ok (.iconst (-1), 1) := by decide +kernel
theorem dX10_part_131 : decode cX10_part 131 = .ok (.if_icmp .eq 28, 3) := by decide +kernel
theorem dX10_part_134 : decode cX10_part 134 = .ok (.aload_n 0, 1) := by decide +kernel
theorem dX10_part_135 : decode cX10_part 135 = .ok (.getfield 67, 3) := by decide +kernel
theorem dX10_part_138 : decode cX10_part 138 = .ok (.iload 5, 2) := by decide +kernel
theorem dX10_part_140 : decode cX10_part 140 = .ok (.iaload, 1) := by decide +kernel
theorem dX10_part_141 : decode cX10_part 141 = .ok (.iload_n 1, 1) := by decide +kernel
theorem dX10_part_142 : decode cX10_part 142 = .ok (.imul, 1) := by decide +kernel
theorem dX10_part_143 : decode cX10_part 143 = .ok (.iload_n 2, 1) := by decide +kernel
theorem dX10_part_144 : decode cX10_part 144 = .ok (.irem, 1) := by decide +kernel
theorem dX10_part_145 : decode cX10_part 145 = .ok (.aload_n 0, 1) := by decide +kernel
theorem dX10_part_146 : decode cX10_part 146 = .ok (.getfield 67, 3) := by decide +kernel
theorem dX10_part_149 : decode cX10_part 149 = .ok (.iload 4, 2) := by decide +kernel
theorem dX10_part_151 : decode cX10_part 151 = .ok (.iaload, 1) := by decide +kernel
theorem dX10_part_152 : decode cX10_part 152 = .ok (.iload_n 1, 1) := by decide +kernel
theorem dX10_part_153 : decode cX10_part 153 = .ok (.imul, 1) := by decide +kernel
theorem dX10_part_154 : decode cX10_part 154 = .ok (.iload_n 2, 1) := by decide +kernel
theorem dX10_part_155 : decode cX10_part 155 = .ok (.irem, 1) := by decide +kernel
theorem dX10_part_156 : decode cX10_part 156 = .ok (.if_icmp .le 7, 3) := by decide +kernel
theorem dX10_part_159 : decode cX10_part 159 = .ok (.iload 5, 2) := by decide +kernel
theorem dX10_part_161 : decode cX10_part 161 = .ok (.istore 4, 2) := by decide +kernel
theorem dX10_part_163 : decode cX10_part 163 = .ok (.iinc 5 1, 3) := by decide +kernel
theorem dX10_part_166 : decode cX10_part 166 = .ok (.goto (-66), 3) := by decide +kernel
theorem dX10_part_169 : decode cX10_part 169 = .ok (.aload_n 0, 1) := by decide +kernel
theorem dX10_part_170 : decode cX10_part 170 = .ok (.getfield 70, 3) := by decide +kernel
theorem dX10_part_173 : decode cX10_part 173 = .ok (.iload 4, 2) := by decide +kernel
theorem dX10_part_175 : decode cX10_part 175 = .ok (.dup2, 1) := by decide +kernel
theorem dX10_part_176 : decode cX10_part 176 = .ok (.iaload, 1) := by decide +kernel
theorem dX10_part_177 : decode cX10_part 177 = .ok (.iconst 1, 1) := by decide +kernel
theorem dX10_part_178 : decode cX10_part 178 = .ok (.iadd, 1) := by decide +kernel
theorem dX10_part_179 : decode cX10_part 179 = .ok (.iastore, 1) := by decide +kernel
theorem dX10_part_180 : decode cX10_part 180 = .ok (.iinc 3 (-1), 3) := by decide +kernel
theorem dX10_part_183 : decode cX10_part 183 = .ok (.goto (-93), 3) := by decide +kernel
theorem dX10_part_186 : decode cX10_part 186 = .ok (.iload_n 2, 1) := by decide +kernel
theorem dX10_part_187 : decode cX10_part 187 = .ok (.ireturn, 1) := by decide +kernel
theorem dX10_sells_0 : decode cX10_sells 0 = .ok (.iconst 0, 1) := by decide +kernel
theorem dX10_sells_1 : decode cX10_sells 1 = .ok (.istore_n 3, 1) := by decide +kernel
theorem dX10_sells_2 : decode cX10_sells 2 = .ok (.iconst 0, 1) := by decide +kernel
theorem dX10_sells_3 : decode cX10_sells 3 = .ok (.istore 4, 2) := by decide +kernel
theorem dX10_sells_5 : decode cX10_sells 5 = .ok (.iload 4, 2) := by decide +kernel
theorem dX10_sells_7 : decode cX10_sells 7 = .ok (.bipush 28, 2) := by decide +kernel
theorem dX10_sells_9 : decode cX10_sells 9 = .ok (.if_icmp .ge 82, 3) := by decide +kernel
theorem dX10_sells_12 : decode cX10_sells 12 = .ok (.aload_n 0, 1) := by decide +kernel
theorem dX10_sells_13 : decode cX10_sells 13 = .ok (.getfield 61, 3) := by decide +kernel
theorem dX10_sells_16 : decode cX10_sells 16 = .ok (.bipush 10, 2) := by decide +kernel
theorem dX10_sells_18 : decode cX10_sells 18 = .ok (.iload 4, 2) := by decide +kernel
theorem dX10_sells_20 : decode cX10_sells 20 = .ok (.imul, 1) := by decide +kernel
theorem dX10_sells_21 : decode cX10_sells 21 = .ok (.iload_n 1, 1) := by decide +kernel
theorem dX10_sells_22 : decode cX10_sells 22 = .ok (.iadd, 1) := by decide +kernel
theorem dX10_sells_23 : decode cX10_sells 23 = .ok (.dup2, 1) := by decide +kernel
theorem dX10_sells_24 : decode cX10_sells 24 = .ok (.iaload, 1) := by decide +kernel
theorem dX10_sells_25 : decode cX10_sells 25 = .ok (.aload_n 0, 1) := by decide +kernel
theorem dX10_sells_26 : decode cX10_sells 26 = .ok (.getfield 70, 3) := by decide +kernel
theorem dX10_sells_29 : decode cX10_sells 29 = .ok (.iload 4, 2) := by decide +kernel
theorem dX10_sells_31 : decode cX10_sells 31 = .ok (.iaload, 1) := by decide +kernel
theorem dX10_sells_32 : decode cX10_sells 32 = .ok (.iadd, 1) := by decide +kernel
theorem dX10_sells_33 : decode cX10_sells 33 = .ok (.iastore, 1) := by decide +kernel
theorem dX10_sells_34 : decode cX10_sells 34 = .ok (.aload_n 0, 1) := by decide +kernel
theorem dX10_sells_35 : decode cX10_sells 35 = .ok (.getfield 58, 3) := by decide +kernel
theorem dX10_sells_38 : decode cX10_sells 38 = .ok (.bipush 10, 2) := by decide +kernel
theorem dX10_sells_40 : decode cX10_sells 40 = .ok (.iload 4, 2) := by decide +kernel
theorem dX10_sells_42 : decode cX10_sells 42 = .ok (.imul, 1) := by decide +kernel
theorem dX10_sells_43 : decode cX10_sells 43 = .ok (.iload_n 1, 1) := by decide +kernel
theorem dX10_sells_44 : decode cX10_sells 44 = .ok (.iadd, 1) := by decide +kernel
theorem dX10_sells_45 : decode cX10_sells 45 = .ok (.dup2, 1) := by decide +kernel
theorem dX10_sells_46 : decode cX10_sells 46 = .ok (.iaload, 1) := by decide +kernel
theorem dX10_sells_47 : decode cX10_sells 47 = .ok (.aload_n 0, 1) := by decide +kernel
theorem dX10_sells_48 : decode cX10_sells 48 = .ok (.getfield 70, 3) := by decide +kernel
theorem dX10_sells_51 : decode cX10_sells 51 = .ok (.iload 4, 2) := by decide +kernel
theorem dX10_sells_53 : decode cX10_sells 53 = .ok (.iaload, 1) := by decide +kernel
theorem dX10_sells_54 : decode cX10_sells 54 = .ok (.isub, 1) := by decide +kernel
theorem dX10_sells_55 : decode cX10_sells 55 = .ok (.iastore, 1) := by decide +kernel
theorem dX10_sells_56 : decode cX10_sells 56 = .ok (.aload_n 0, 1) := by decide +kernel
theorem dX10_sells_57 : decode cX10_sells 57 = .ok (.getfield 43, 3) := by decide +kernel
theorem dX10_sells_60 : decode cX10_sells 60 = .ok (.iload 4, 2) := by decide +kernel
theorem dX10_sells_62 : decode cX10_sells 62 = .ok (.dup2, 1) := by decide +kernel
theorem dX10_sells_63 : decode cX10_sells 63 = .ok (.iaload, 1) := by decide +kernel
theorem dX10_sells_64 : decode cX10_sells 64 = .ok (.aload_n 0, 1) := by decide +kernel
theorem dX10_sells_65 : decode cX10_sells 65 = .ok (.getfield 70, 3) := by decide +kernel
theorem dX10_sells_68 : decode cX10_sells 68 = .ok (.iload 4, 2) := by decide +kernel
theorem dX10_sells_70 : decode cX10_sells 70 = .ok (.iaload, 1) := by decide +kernel
theorem dX10_sells_71 : decode cX10_sells 71 = .ok (.iload_n 2, 1) := by decide +kernel
theorem dX10_sells_72 : decode cX10_sells 72 = .ok (.imul, 1) := by decide +kernel
theorem dX10_sells_73 : decode cX10_sells 73 = .ok (.isub, 1) := by decide +kernel
theorem dX10_sells_74 : decode cX10_sells 74 = .ok (.iastore, 1) := by decide +kernel
theorem dX10_sells_75 : decode cX10_sells 75 = .ok (.iload_n 3, 1) := by decide +kernel
theorem dX10_sells_76 : decode cX10_sells 76 = .ok (.aload_n 0, 1) := by decide +kernel
theorem dX10_sells_77 : decode cX10_sells 77 = .ok (.getfield 70, 3) := by decide +kernel
theorem dX10_sells_80 : decode cX10_sells 80 = .ok (.iload 4, 2) := by decide +kernel
theorem dX10_sells_82 : decode cX10_sells 82 = .ok (.iaload, 1) := by decide +kernel
theorem dX10_sells_83 : decode cX10_sells 83 = .ok (.iadd, 1) := by decide +kernel
theorem dX10_sells_84 : decode cX10_sells 84 = .ok (.istore_n 3, 1) := by decide +kernel
theorem dX10_sells_85 : decode cX10_sells 85 = .ok (.iinc 4 1, 3) := by decide +kernel
theorem dX10_sells_88 : decode cX10_sells 88 = .ok (.goto (-83), 3) := by decide +kernel
theorem dX10_sells_91 : decode cX10_sells 91 = .ok (.aload_n 0, 1) := by decide +kernel
theorem dX10_sells_92 : decode cX10_sells 92 = .ok (.getfield 31, 3) := by decide +kernel
theorem dX10_sells_95 : decode cX10_sells 95 = .ok (.iload_n 1, 1) := by decide +kernel
theorem dX10_sells_96 : decode cX10_sells 96 = .ok (.dup2, 1) := by decide +kernel
theorem dX10_sells_97 : decode cX10_sells 97 = .ok (.iaload, 1) := by decide +kernel
theorem dX10_sells_98 : decode cX10_sells 98 = .ok (.iload_n 3, 1) := by decide +kernel
theorem dX10_sells_99 : decode cX10_sells 99 = .ok (.isub, 1) := by decide +kernel
theorem dX10_sells_100 : decode cX10_sells 100 = .ok (.iastore, 1) := by decide +kernel
theorem dX10_sells_101 : decode cX10_sells 101 = .ok (.iload_n 3, 1) := by decide +kernel
theorem dX10_sells_102 : decode cX10_sells 102 = .ok (.ireturn, 1) := by decide +kernel
theorem dX10_sellsWork_0 : decode cX10_sellsWork 0 = .ok (.iconst 0, 1) := by decide +kernel
theorem dX10_sellsWork_1 : decode cX10_sellsWork 1 = .ok (.istore_n 2, 1) := by decide +kernel
theorem dX10_sellsWork_2 : decode cX10_sellsWork 2 = .ok (.aload_n 0, 1) := by decide +kernel
theorem dX10_sellsWork_3 : decode cX10_sellsWork 3 = .ok (.getfield 182, 3) := by decide +kernel
theorem dX10_sellsWork_6 : decode cX10_sellsWork 6 = .ok (.ifCond .ne 102, 3) := by decide +kernel
theorem dX10_sellsWork_9 : decode cX10_sellsWork 9 = .ok (.iconst 0, 1) := by decide +kernel
theorem dX10_sellsWork_10 : decode cX10_sellsWork 10 = .ok (.istore_n 3, 1) := by decide +kernel
theorem dX10_sellsWork_11 : decode cX10_sellsWork 11 = .ok (.iload_n 3, 1) := by decide +kernel
theorem dX10_sellsWork_12 : decode cX10_sellsWork 12 = .ok (.bipush 28, 2) := by decide +kernel
theorem dX10_sellsWork_14 : decode cX10_sellsWork 14 = .ok (.if_icmp .ge 48, 3) := by decide +kernel
theorem dX10_sellsWork_17 : decode cX10_sellsWork 17 = .ok (.aload_n 0, 1) := by decide +kernel
theorem dX10_sellsWork_18 : decode cX10_sellsWork 18 = .ok (.getfield 67, 3) := by decide +kernel
theorem dX10_sellsWork_21 : decode cX10_sellsWork 21 = .ok (.iload_n 3, 1) := by decide +kernel
theorem dX10_sellsWork_22 : decode cX10_sellsWork 22 = .ok (.iload_n 3, 1) := by decide +kernel
theorem dX10_sellsWork_23 : decode cX10_sellsWork 23 = .ok (.aload_n 0, 1) := by decide +kernel
theorem dX10_sellsWork_24 : decode cX10_sellsWork 24 = .ok (.getfield 166, 3) := by decide +kernel
theorem dX10_sellsWork_27 : decode cX10_sellsWork 27 = .ok (.if_icmp .ge 27, 3) := by decide +kernel
theorem dX10_sellsWork_30 : decode cX10_sellsWork 30 = .ok (.aload_n 0, 1) := by decide +kernel
theorem dX10_sellsWork_31 : decode cX10_sellsWork 31 = .ok (.getfield 46, 3) := by decide +kernel
theorem dX10_sellsWork_34 : decode cX10_sellsWork 34 = .ok (.iload_n 3, 1) := by decide +kernel
theorem dX10_sellsWork_35 : decode cX10_sellsWork 35 = .ok (.iaload, 1) := by decide +kernel
theorem dX10_sellsWork_36 : decode cX10_sellsWork 36 = .ok (.iload_n 1, 1) := by decide +kernel
theorem dX10_sellsWork_37 : decode cX10_sellsWork 37 = .ok (.if_icmp .ne 17, 3) := by decide +kernel
theorem dX10_sellsWork_40 : decode cX10_sellsWork 40 = .ok (.aload_n 0, 1) := by decide +kernel
theorem dX10_sellsWork_41 : decode cX10_sellsWork 41 = .ok (.getfield 58, 3) := by decide +kernel
theorem dX10_sellsWork_44 : decode cX10_sellsWork 44 = .ok (.bipush 10, 2) := by decide +kernel
theorem dX10_sellsWork_46 : decode cX10_sellsWork 46 = .ok (.iload_n 3, 1) := by decide +kernel
theorem dX10_sellsWork_47 : decode cX10_sellsWork 47 = .ok (.imul, 1) := by decide +kernel
theorem dX10_sellsWork_48 : decode cX10_sellsWork 48 = .ok (.iload_n 1, 1) := by decide +kernel
theorem dX10_sellsWork_49 : decode cX10_sellsWork 49 = .ok (.iadd, 1) := by decide +kernel
theorem dX10_sellsWork_50 : decode cX10_sellsWork 50 = .ok (.iaload, 1) := by decide +kernel
theorem dX10_sellsWork_51 : decode cX10_sellsWork 51 = .ok (.goto 4, 3) := by decide +kernel
theorem dX10_sellsWork_54 : decode cX10_sellsWork 54 = .ok (.iconst 0, 1) := by decide +kernel
theorem dX10_sellsWork_55 : decode cX10_sellsWork 55 = .ok (.iastore, 1) := by decide +kernel
theorem dX10_sellsWork_56 : decode cX10_sellsWork 56 = .ok (.iinc 3 1, 3) := by decide +kernel
theorem dX10_sellsWork_59 : decode cX10_sellsWork 59 = .ok (.goto (-48), 3) := by decide +kernel
theorem dX10_sellsWork_62 : decode cX10_sellsWork 62 = .ok (.aload_n 0, 1) := by decide +kernel
theorem dX10_sellsWork_63 : decode cX10_sellsWork 63 = .ok (.aload_n 0, 1) := by decide +kernel
theorem dX10_sellsWork_64 : decode cX10_sellsWork 64 = .ok (.getfield 28, 3) := by decide +kernel
theorem dX10_sellsWork_67 : decode cX10_sellsWork 67 = .ok (.iload_n 1, 1) := by decide +kernel
theorem dX10_sellsWork_68 : decode cX10_sellsWork 68 = .ok (.iaload, 1) := by decide +kernel
theorem dX10_sellsWork_69 : decode cX10_sellsWork 69 = .ok (.aload_n 0, 1) := by decide +kernel
theorem dX10_sellsWork_70 : decode cX10_sellsWork 70 = .ok (.getfield 13, 3) := by decide +kernel
theorem dX10_sellsWork_73 : decode cX10_sellsWork 73 = .ok (.iconst 0, 1) := by decide +kernel
theorem dX10_sellsWork_74 : decode cX10_sellsWork 74 = .ok (.iaload, 1) := by decide +kernel
theorem dX10_sellsWork_75 : decode cX10_sellsWork 75 = .ok (.imul, 1) := by decide +kernel
theorem dX10_sellsWork_76 : decode cX10_sellsWork 76 = .ok (.bipush 100, 2) := by decide +kernel
theorem dX10_sellsWork_78 : decode cX10_sellsWork 78 = .ok (.idiv, 1) := by decide +kernel
theorem dX10_sellsWork_79 : decode cX10_sellsWork 79 = .ok (.invokevirtual 194, 3) := by decide +kernel
theorem dX10_sellsWork_82 : decode cX10_sellsWork 82 = .ok (.pop, 1) := by decide +kernel
theorem dX10_sellsWork_83 : decode cX10_sellsWork 83 = .ok (.aload_n 0, 1) := by decide +kernel
theorem dX10_sellsWork_84 : decode cX10_sellsWork 84 = .ok (.iload_n 1, 1) := by decide +kernel
theorem dX10_sellsWork_85 : decode cX10_sellsWork 85 = .ok (.aload_n 0, 1) := by decide +kernel
theorem dX10_sellsWork_86 : decode cX10_sellsWork 86 = .ok (.getfield 34, 3) := by decide +kernel
theorem dX10_sellsWork_89 : decode cX10_sellsWork 89 = .ok (.iload_n 1, 1) := by decide +kernel
theorem dX10_sellsWork_90 : decode cX10_sellsWork 90 = .ok (.iaload, 1) := by decide +kernel
theorem dX10_sellsWork_91 : decode cX10_sellsWork 91 = .ok (.aload_n 0, 1) := by decide +kernel
theorem dX10_sellsWork_92 : decode cX10_sellsWork 92 = .ok (.getfield 13, 3) := by decide +kernel
theorem dX10_sellsWork_95 : decode cX10_sellsWork 95 = .ok (.iconst 1, 1) := by decide +kernel
theorem dX10_sellsWork_96 : decode cX10_sellsWork 96 = .ok (.iaload, 1) := by decide +kernel
theorem dX10_sellsWork_97 : decode cX10_sellsWork 97 = .ok (.imul, 1) := by decide +kernel
theorem dX10_sellsWork_98 : decode cX10_sellsWork 98 = .ok (.bipush 99, 2) := by decide +kernel
theorem dX10_sellsWork_100 : decode cX10_sellsWork 100 = .ok (.iadd, 1) := by decide +kernel
theorem dX10_sellsWork_101 : decode cX10_sellsWork 101 = .ok (.bipush 100, 2) := by decide +kernel
theorem dX10_sellsWork_103 : decode cX10_sellsWork 103 = .ok (.idiv, 1) := by decide +kernel
theorem dX10_sellsWork_104 : decode cX10_sellsWork 104 = .ok (.invokevirtual 197, 3) := by decide +kernel
theorem dX10_sellsWork_107 : decode cX10_sellsWork 107 = .ok (.istore_n 2, 1) := by decide +kernel
theorem dX10_sellsWork_108 : decode cX10_sellsWork 108 = .ok (.aload_n 0, 1) := by decide +kernel
theorem dX10_sellsWork_109 : decode cX10_sellsWork 109 = .ok (.getfield 31, 3) := by decide +kernel
theorem dX10_sellsWork_112 : decode cX10_sellsWork 112 = .ok (.iload_n 1, 1) := by decide +kernel
theorem dX10_sellsWork_113 : decode cX10_sellsWork 113 = .ok (.iaload, 1) := by decide +kernel
theorem dX10_sellsWork_114 : decode cX10_sellsWork 114 = .ok (.istore_n 3, 1) := by decide +kernel
theorem dX10_sellsWork_115 : decode cX10_sellsWork 115 = .ok (.iload_n 3, 1) := by decide +kernel
theorem dX10_sellsWork_116 : decode cX10_sellsWork 116 = .ok (.ifCond .ne 5, 3) := by decide +kernel
theorem dX10_sellsWork_119 : decode cX10_sellsWork 119 = .ok (.iload_n 2, 1) := by decide +kernel
theorem dX10_sellsWork_120 : decode cX10_sellsWork 120 = .ok (.ireturn, 1) := by decide +kernel
theorem dX10_sellsWork_121 : decode cX10_sellsWork 121 = .ok (.iconst 0, 1) := by decide +kernel
theorem dX10_sellsWork_122 : decode cX10_sellsWork 122 = .ok (.istore 4, 2) := by decide +kernel
theorem dX10_sellsWork_124 : decode cX10_sellsWork 124 = .ok (.iload 4, 2) := by decide +kernel
theorem dX10_sellsWork_126 : decode cX10_sellsWork 126 = .ok (.bipush 28, 2) := by decide +kernel
theorem dX10_sellsWork_128 : decode cX10_sellsWork 128 = .ok (.if_icmp .ge 28, 3) := by decide +kernel
theorem dX10_sellsWork_131 : decode cX10_sellsWork 131 = .ok (.aload_n 0, 1) := by decide +kernel
theorem dX10_sellsWork_132 : decode cX10_sellsWork 132 = .ok (.getfield 67, 3) := by decide +kernel
theorem dX10_sellsWork_135 : decode cX10_sellsWork 135 = .ok (.iload 4, 2) := by decide +kernel
theorem dX10_sellsWork_137 : decode cX10_sellsWork 137 = .ok (.aload_n 0, 1) := by decide +kernel
theorem dX10_sellsWork_138 : decode cX10_sellsWork 138 = .ok (.getfield 58, 3) := by decide +kernel
theorem dX10_sellsWork_141 : decode cX10_sellsWork 141 = .ok (.bipush 10, 2) := by decide +kernel
theorem dX10_sellsWork_143 : decode cX10_sellsWork 143 = .ok (.iload 4, 2) := by decide +kernel
theorem dX10_sellsWork_145 : decode cX10_sellsWork 145 = .ok (.imul, 1) := by decide +kernel
theorem dX10_sellsWork_146 : decode cX10_sellsWork 146 = .ok (.iload_n 1, 1) := by decide +kernel
theorem dX10_sellsWork_147 : decode cX10_sellsWork 147 = .ok (.iadd, 1) := by decide +kernel
theorem dX10_sellsWork_148 : decode cX10_sellsWork 148 = .ok (.iaload, 1) := by decide +kernel
theorem dX10_sellsWork_149 : decode cX10_sellsWork 149 = .ok (.iastore, 1) := by decide +kernel
theorem dX10_sellsWork_150 : decode cX10_sellsWork 150 = .ok (.iinc 4 1, 3) := by decide +kernel
theorem dX10_sellsWork_153 : decode cX10_sellsWork 153 = .ok (.goto (-29), 3) := by decide +kernel
theorem dX10_sellsWork_156 : decode cX10_sellsWork 156 = .ok (.aload_n 0, 1) := by decide +kernel
theorem dX10_sellsWork_157 : decode cX10_sellsWork 157 = .ok (.iload_n 3, 1) := by decide +kernel
theorem dX10_sellsWork_158 : decode cX10_sellsWork 158 = .ok (.invokevirtual 194, 3) := by decide +kernel
theorem dX10_sellsWork_161 : decode cX10_sellsWork 161 = .ok (.istore 4, 2) := by decide +kernel
theorem dX10_sellsWork_163 : decode cX10_sellsWork 163 = .ok (.iload 4, 2) := by decide +kernel
theorem dX10_sellsWork_165 : decode cX10_sellsWork 165 = .ok (.iload_n 3, 1) := by decide +kernel
theorem dX10_sellsWork_166 : decode cX10_sellsWork 166 = .ok (.if_icmp .le 21, 3) := by decide +kernel
theorem dX10_sellsWork_169 : decode cX10_sellsWork 169 = .ok (.iload 4, 2) := by decide +kernel
theorem dX10_sellsWork_171 : decode cX10_sellsWork 171 = .ok (.iload_n 3, 1) := by decide +kernel
theorem dX10_sellsWork_172 : decode cX10_sellsWork 172 = .ok (.isub, 1) := by decide +kernel
theorem dX10_sellsWork_173 : decode cX10_sellsWork 173 = .ok (.iload_n 3, 1) := by decide +kernel
theorem dX10_sellsWork_174 : decode cX10_sellsWork 174 = .ok (.aload_n 0, 1) := by decide +kernel
theorem dX10_sellsWork_175 : decode cX10_sellsWork 175 = .ok (.getfield 13, 3) := by decide +kernel
theorem dX10_sellsWork_178 : decode cX10_sellsWork 178 = .ok (.iconst 2, 1) := by decide +kernel
theorem dX10_sellsWork_179 : decode cX10_sellsWork 179 = .ok (.iaload, 1) := by decide +kernel
theorem dX10_sellsWork_180 : decode cX10_sellsWork 180 = .ok (.imul, 1) := by decide +kernel
theorem dX10_sellsWork_181 : decode cX10_sellsWork 181 = .ok (.bipush 100, 2) := by decide +kernel
theorem dX10_sellsWork_183 : decode cX10_sellsWork 183 = .ok (.idiv, 1) := by decide +kernel
theorem dX10_sellsWork_184 : decode cX10_sellsWork 184 = .ok (.if_icmp .gt 17, 3) := by decide +kernel
theorem dX10_sellsWork_187 : decode cX10_sellsWork 187 = .ok (.iload_n 2, 1) := by decide +kernel
theorem dX10_sellsWork_188 : decode cX10_sellsWork 188 = .ok (.aload_n 0, 1) := by decide +kernel
theorem dX10_sellsWork_189 : decode cX10_sellsWork 189 = .ok (.iload_n 1, 1) := by decide +kernel
theorem dX10_sellsWork_190 : decode cX10_sellsWork 190 = .ok (.aload_n 0, 1) := by decide +kernel
theorem dX10_sellsWork_191 : decode cX10_sellsWork 191 = .ok (.getfield 34, 3) := by decide +kernel
theorem dX10_sellsWork_194 : decode cX10_sellsWork 194 = .ok (.iload_n 1, 1) := by decide +kernel
theorem dX10_sellsWork_195 : decode cX10_sellsWork 195 = .ok (.iaload, 1) := by decide +kernel
theorem dX10_sellsWork_196 : decode cX10_sellsWork 196 = .ok (.invokevirtual 197, 3) := by decide +kernel
theorem dX10_sellsWork_199 : decode cX10_sellsWork 199 = .ok (.iadd, 1) := by decide +kernel
theorem dX10_sellsWork_200 : decode cX10_sellsWork 200 = .ok (.istore_n 2, 1) := by decide +kernel
theorem dX10_sellsWork_201 : decode cX10_sellsWork 201 = .ok (.aload_n 0, 1) := by decide +kernel
theorem dX10_sellsWork_202 : decode cX10_sellsWork 202 = .ok (.getfield 34, 3) := by decide +kernel
theorem dX10_sellsWork_205 : decode cX10_sellsWork 205 = .ok (.iload_n 1, 1) := by decide +kernel
theorem dX10_sellsWork_206 : decode cX10_sellsWork 206 = .ok (.iaload, 1) := by decide +kernel
theorem dX10_sellsWork_207 : decode cX10_sellsWork 207 = .ok (.istore 5, 2) := by decide +kernel
theorem dX10_sellsWork_209 : decode cX10_sellsWork 209 = .ok (.iload 5, 2) := by decide +kernel
theorem dX10_sellsWork_211 : decode cX10_sellsWork 211 = .ok (.iload 4, 2) := by decide +kernel
theorem dX10_sellsWork_213 : decode cX10_sellsWork 213 = .ok (.imul, 1) := by decide +kernel
theorem dX10_sellsWork_214 : decode cX10_sellsWork 214 = .ok (.iload_n 3, 1) := by decide +kernel
theorem dX10_sellsWork_215 : decode cX10_sellsWork 215 = .ok (.iadd, 1) := by decide +kernel
theorem dX10_sellsWork_216 : decode cX10_sellsWork 216 = .ok (.iconst 1, 1) := by decide +kernel
theorem dX10_sellsWork_217 : decode cX10_sellsWork 217 = .ok (.isub, 1) := by decide +kernel
theorem dX10_sellsWork_218 : decode cX10_sellsWork 218 = .ok (.iload_n 3, 1) := by decide +kernel
theorem dX10_sellsWork_219 : decode cX10_sellsWork 219 = .ok (.idiv, 1) := by decide +kernel
theorem dX10_sellsWork_220 : decode cX10_sellsWork 220 = .ok (.istore 6, 2) := by decide +kernel
theorem dX10_sellsWork_222 : decode cX10_sellsWork 222 = .ok (.iload 5, 2) := by decide +kernel
theorem dX10_sellsWork_224 : decode cX10_sellsWork 224 = .ok (.aload_n 0, 1) := by decide +kernel
theorem dX10_sellsWork_225 : decode cX10_sellsWork 225 = .ok (.getfield 13, 3) := by decide +kernel
theorem dX10_sellsWork_228 : decode cX10_sellsWork 228 = .ok (.iconst 3, 1) := by decide +kernel
theorem dX10_sellsWork_229 : decode cX10_sellsWork 229 = .ok (.iaload, 1) := by decide +kernel
theorem dX10_sellsWork_230 : decode cX10_sellsWork 230 = .ok (.imul, 1) := by decide +kernel
theorem dX10_sellsWork_231 : decode cX10_sellsWork 231 = .ok (.bipush 100, 2) := by decide +kernel
theorem dX10_sellsWork_233 : decode cX10_sellsWork 233 = .ok (.idiv, 1) := by decide +kernel
theorem dX10_sellsWork_234 : decode cX10_sellsWork 234 = .ok (.istore 7, 2) := by decide +kernel
theorem dX10_sellsWork_236 : decode cX10_sellsWork 236 = .ok (.iload 5, 2) := by decide +kernel
theorem dX10_sellsWork_238 : decode cX10_sellsWork 238 = .ok (.aload_n 0, 1) := by decide +kernel
theorem dX10_sellsWork_239 : decode cX10_sellsWork 239 = .ok (.getfield 13, 3) := by decide +kernel
theorem dX10_sellsWork_242 : decode cX10_sellsWork 242 = .ok (.iconst 4, 1) := by decide +kernel
theorem dX10_sellsWork_243 : decode cX10_sellsWork 243 = .ok (.iaload, 1) := by decide +kernel
theorem dX10_sellsWork_244 : decode cX10_sellsWork 244 = .ok (.imul, 1) := by decide +kernel
theorem dX10_sellsWork_245 : decode cX10_sellsWork 245 = .ok (.bipush 99, 2) := by decide +kernel
theorem dX10_sellsWork_247 : decode cX10_sellsWork 247 = .ok (.iadd, 1) := by decide +kernel
theorem dX10_sellsWork_248 : decode cX10_sellsWork 248 = .ok (.bipush 100, 2) := by decide +kernel
theorem dX10_sellsWork_250 : decode cX10_sellsWork 250 = .ok (.idiv, 1) := by decide +kernel
theorem dX10_sellsWork_251 : decode cX10_sellsWork 251 = .ok (.istore 8, 2) := by decide +kernel
theorem dX10_sellsWork_253 : decode cX10_sellsWork 253 = .ok (.iload 6, 2) := by decide +kernel
theorem dX10_sellsWork_255 : decode cX10_sellsWork 255 = .ok (.iload 7, 2) := by decide +kernel
theorem dX10_sellsWork_257 : decode cX10_sellsWork 257 = .ok (.if_icmp .le 7, 3) := by decide +kernel
theorem dX10_sellsWork_260 : decode cX10_sellsWork 260 = .ok (.iload 7, 2) := by decide +kernel
theorem dX10_sellsWork_262 : decode cX10_sellsWork 262 = .ok (.istore 6, 2) := by decide +kernel
theorem dX10_sellsWork_264 : decode cX10_sellsWork 264 = .ok (.iload 6, 2) := by decide +kernel
theorem dX10_sellsWork_266 : decode cX10_sellsWork 266 = .ok (.iload 8, 2) := by decide +kernel
theorem dX10_sellsWork_268 : decode cX10_sellsWork 268 = .ok (.if_icmp .ge 7, 3) := by decide +kernel
theorem dX10_sellsWork_271 : decode cX10_sellsWork 271 = .ok (.iload 8, 2) := by decide +kernel
theorem dX10_sellsWork_273 : decode cX10_sellsWork 273 = .ok (.istore 6, 2) := by decide +kernel
theorem dX10_sellsWork_275 : decode cX10_sellsWork 275 = .ok (.iload 6, 2) := by decide +kernel
theorem dX10_sellsWork_277 : decode cX10_sellsWork 277 = .ok (.aload_n 0, 1) := by decide +kernel
theorem dX10_sellsWork_278 : decode cX10_sellsWork 278 = .ok (.getfield 13, 3) := by decide +kernel
theorem dX10_sellsWork_281 : decode cX10_sellsWork 281 = .ok (.iconst 5, 1) := by decide +kernel
theorem dX10_sellsWork_282 : decode cX10_sellsWork 282 = .ok (.iaload, 1) := by decide +kernel
theorem dX10_sellsWork_283 : decode cX10_sellsWork 283 = .ok (.if_icmp .ge 11, 3) := by decide +kernel
theorem dX10_sellsWork_286 : decode cX10_sellsWork 286 = .ok (.aload_n 0, 1) := by decide +kernel
theorem dX10_sellsWork_287 : decode cX10_sellsWork 287 = .ok (.getfield 13, 3) := by decide +kernel
theorem dX10_sellsWork_290 : decode cX10_sellsWork 290 = .ok (.iconst 5, 1) := by decide +kernel
theorem dX10_sellsWork_291 : decode cX10_sellsWork 291 = .ok (.iaload, 1) := by decide +kernel
theorem dX10_sellsWork_292 : decode cX10_sellsWork 292 = .ok (.istore 6, 2) := by decide +kernel
theorem dX10_sellsWork_294 : decode cX10_sellsWork 294 = .ok (.aload_n 0, 1) := by decide +kernel
theorem dX10_sellsWork_295 : decode cX10_sellsWork 295 = .ok (.getfield 34, 3) := by decide +kernel
theorem dX10_sellsWork_298 : decode cX10_sellsWork 298 = .ok (.iload_n 1, 1) := by decide +kernel
theorem dX10_sellsWork_299 : decode cX10_sellsWork 299 = .ok (.iload 6, 2) := by decide +kernel
theorem dX10_sellsWork_301 : decode cX10_sellsWork 301 = .ok (.sipush 9999, 3) := by decide +kernel
theorem dX10_sellsWork_304 : decode cX10_sellsWork 304 = .ok (.if_icmp .le 9, 3) := by decide +kernel
theorem dX10_sellsWork_307 : decode cX10_sellsWork 307 = .ok (.sipush 9999, 3) := by decide +kernel
theorem dX10_sellsWork_310 : decode cX10_sellsWork 310 = .ok (.goto 5, 3) := by decide +kernel
theorem dX10_sellsWork_313 : decode cX10_sellsWork 313 = .ok (.iload 6, 2) := by decide +kernel
theorem dX10_sellsWork_315 : decode cX10_sellsWork 315 = .ok (.iastore, 1) := by decide +kernel
theorem dX10_sellsWork_316 : decode cX10_sellsWork 316 = .ok (.iload_n 2, 1) := by decide +kernel
theorem dX10_sellsWork_317 : decode cX10_sellsWork 317 = .ok (.ireturn, 1) := by decide +kernel
theorem dX10_close_0 : decode cX10_close 0 = .ok (.aload_n 0, 1) := by decide +kernel
theorem dX10_close_1 : decode cX10_close 1 = .ok (.iconst 0, 1) := by decide +kernel
theorem dX10_close_2 : decode cX10_close 2 = .ok (.putfield 73, 3) := by decide +kernel
theorem dX10_close_5 : decode cX10_close 5 = .ok (.aload_n 0, 1) := by decide +kernel
theorem dX10_close_6 : decode cX10_close 6 = .ok (.getfield 182, 3) := by decide +kernel
theorem dX10_close_9 : decode cX10_close 9 = .ok (.bipush 49, 2) := by decide +kernel
theorem dX10_close_11 : decode cX10_close 11 = .ok (.if_icmp .ne 5, 3) := by decide +kernel
theorem dX10_close_14 : decode cX10_close 14 = .ok (.iconst (-1), 1) := by decide +kernel
theorem dX10_close_15 : decode cX10_close 15 = .ok (.ireturn, 1) := by decide +kernel
theorem dX10_close_16 : decode cX10_close 16 = .ok (.iconst 0, 1) := by decide +kernel
theorem dX10_close_17 : decode cX10_close 17 = .ok (.istore_n 1, 1) := by decide +kernel
theorem dX10_close_18 : decode cX10_close 18 = .ok (.iload_n 1, 1) := by decide +kernel
theorem dX10_close_19 : decode cX10_close 19 = .ok (.sipush 280, 3) := by decide +kernel
theorem dX10_close_22 : decode cX10_close 22 = .ok (.if_icmp .ge 30, 3) := by decide +kernel
theorem dX10_close_25 : decode cX10_close 25 = .ok (.aload_n 0, 1) := by decide +kernel
theorem dX10_close_26 : decode cX10_close 26 = .ok (.getfield 64, 3) := by decide +kernel
theorem dX10_close_29 : decode cX10_close 29 = .ok (.sipush 280, 3) := by decide +kernel
theorem dX10_close_32 : decode cX10_close 32 = .ok (.aload_n 0, 1) := by decide +kernel
theorem dX10_close_33 : decode cX10_close 33 = .ok (.getfield 182, 3) := by decide +kernel
theorem dX10_close_36 : decode cX10_close 36 = .ok (.imul, 1) := by decide +kernel
theorem dX10_close_37 : decode cX10_close 37 = .ok (.iload_n 1, 1) := by decide +kernel
theorem dX10_close_38 : decode cX10_close 38 = .ok (.iadd, 1) := by decide +kernel
theorem dX10_close_39 : decode cX10_close 39 = .ok (.aload_n 0, 1) := by decide +kernel
theorem dX10_close_40 : decode cX10_close 40 = .ok (.getfield 61, 3) := by decide +kernel
theorem dX10_close_43 : decode cX10_close 43 = .ok (.iload_n 1, 1) := by decide +kernel
theorem dX10_close_44 : decode cX10_close 44 = .ok (.iaload, 1) := by decide +kernel
theorem dX10_close_45 : decode cX10_close 45 = .ok (.iastore, 1) := by decide +kernel
theorem dX10_close_46 : decode cX10_close 46 = .ok (.iinc 1 1, 3) := by decide +kernel
theorem dX10_close_49 : decode cX10_close 49 = .ok (.goto (-31), 3) := by decide +kernel
theorem dX10_close_52 : decode cX10_close 52 = .ok (.iconst 0, 1) := by decide +kernel
theorem dX10_close_53 : decode cX10_close 53 = .ok (.istore_n 1, 1) := by decide +kernel
theorem dX10_close_54 : decode cX10_close 54 = .ok (.iconst 0, 1) := by decide +kernel
theorem dX10_close_55 : decode cX10_close 55 = .ok (.istore_n 2, 1) := by decide +kernel
theorem dX10_close_56 : decode cX10_close 56 = .ok (.iload_n 2, 1) := by decide +kernel
theorem dX10_close_57 : decode cX10_close 57 = .ok (.aload_n 0, 1) := by decide +kernel
theorem dX10_close_58 : decode cX10_close 58 = .ok (.getfield 163, 3) := by decide +kernel
theorem dX10_close_61 : decode cX10_close 61 = .ok (.if_icmp .ge 26, 3) := by decide +kernel
theorem dX10_close_64 : decode cX10_close 64 = .ok (.aload_n 0, 1) := by decide +kernel
theorem dX10_close_65 : decode cX10_close 65 = .ok (.getfield 31, 3) := by decide +kernel
theorem dX10_close_68 : decode cX10_close 68 = .ok (.iload_n 2, 1) := by decide +kernel
theorem dX10_close_69 : decode cX10_close 69 = .ok (.iaload, 1) := by decide +kernel
theorem dX10_close_70 : decode cX10_close 70 = .ok (.ifCond .le 11, 3) := by decide +kernel
theorem dX10_close_73 : decode cX10_close 73 = .ok (.iload_n 1, 1) := by decide +kernel
theorem dX10_close_74 : decode cX10_close 74 = .ok (.aload_n 0, 1) := by decide +kernel
theorem dX10_close_75 : decode cX10_close 75 = .ok (.iload_n 2, 1) := by decide +kernel
theorem dX10_close_76 : decode cX10_close 76 = .ok (.invokevirtual 201, 3) := by decide +kernel
theorem dX10_close_79 : decode cX10_close 79 = .ok (.iadd, 1) := by decide +kernel
theorem dX10_close_80 : decode cX10_close 80 = .ok (.istore_n 1, 1) := by decide +kernel
theorem dX10_close_81 : decode cX10_close 81 = .ok (.iinc 2 1, 3) := by decide +kernel
theorem dX10_close_84 : decode cX10_close 84 = .ok (.goto (-28), 3) := by decide +kernel
theorem dX10_close_87 : decode cX10_close 87 = .ok (.iconst 0, 1) := by decide +kernel
theorem dX10_close_88 : decode cX10_close 88 = .ok (.istore_n 2, 1) := by decide +kernel
theorem dX10_close_89 : decode cX10_close 89 = .ok (.iload_n 2, 1) := by decide +kernel
theorem dX10_close_90 : decode cX10_close 90 = .ok (.sipush 280, 3) := by decide +kernel
theorem dX10_close_93 : decode cX10_close 93 = .ok (.if_icmp .ge 16, 3) := by decide +kernel
theorem dX10_close_96 : decode cX10_close 96 = .ok (.aload_n 0, 1) := by decide +kernel
theorem dX10_close_97 : decode cX10_close 97 = .ok (.getfield 58, 3) := by decide +kernel
theorem dX10_close_100 : decode cX10_close 100 = .ok (.iload_n 2, 1) := by decide +kernel
theorem dX10_close_101 : decode cX10_close 101 = .ok (.iconst 0, 1) := by decide +kernel
theorem dX10_close_102 : decode cX10_close 102 = .ok (.iastore, 1) := by decide +kernel
theorem dX10_close_103 : decode cX10_close 103 = .ok (.iinc 2 1, 3) := by decide +kernel
theorem dX10_close_106 : decode cX10_close 106 = .ok (.goto (-17), 3) := by decide +kernel
theorem dX10_close_109 : decode cX10_close 109 = .ok (.aload_n 0, 1) := by decide +kernel
theorem dX10_close_110 : decode cX10_close 110 = .ok (.dup, 1) := by decide +kernel
theorem dX10_close_111 : decode cX10_close 111 = .ok (.getfield 182, 3) := by decide +kernel
theorem dX10_close_114 : decode cX10_close 114 = .ok (.iconst 1, 1) := by decide +kernel
theorem dX10_close_115 : decode cX10_close 115 = .ok (.iadd, 1) := by decide +kernel
theorem dX10_close_116 : decode cX10_close 116 = .ok (.putfield 182, 3) := by decide +kernel
theorem dX10_close_119 : decode cX10_close 119 = .ok (.iconst 0, 1) := by decide +kernel
theorem dX10_close_120 : decode cX10_close 120 = .ok (.istore_n 2, 1) := by decide +kernel
theorem dX10_close_121 : decode cX10_close 121 = .ok (.iload_n 2, 1) := by decide +kernel
theorem dX10_close_122 : decode cX10_close 122 = .ok (.aload_n 0, 1) := by decide +kernel
theorem dX10_close_123 : decode cX10_close 123 = .ok (.getfield 163, 3) := by decide +kernel
theorem dX10_close_126 : decode cX10_close 126 = .ok (.if_icmp .ge 29, 3) := by decide +kernel
theorem dX10_close_129 : decode cX10_close 129 = .ok (.aload_n 0, 1) := by decide +kernel
theorem dX10_close_130 : decode cX10_close 130 = .ok (.getfield 37, 3) := by decide +kernel
theorem dX10_close_133 : decode cX10_close 133 = .ok (.bipush 50, 2) := by decide +kernel
theorem dX10_close_135 : decode cX10_close 135 = .ok (.iload_n 2, 1) := by decide +kernel
theorem dX10_close_136 : decode cX10_close 136 = .ok (.imul, 1) := by decide +kernel
theorem dX10_close_137 : decode cX10_close 137 = .ok (.aload_n 0, 1) := by decide +kernel
theorem dX10_close_138 : decode cX10_close 138 = .ok (.getfield 182, 3) := by decide +kernel
theorem dX10_close_141 : decode cX10_close 141 = .ok (.iadd, 1) := by decide +kernel
theorem dX10_close_142 : decode cX10_close 142 = .ok (.aload_n 0, 1) := by decide +kernel
theorem dX10_close_143 : decode cX10_close 143 = .ok (.getfield 34, 3) := by decide +kernel
theorem dX10_close_146 : decode cX10_close 146 = .ok (.iload_n 2, 1) := by decide +kernel
theorem dX10_close_147 : decode cX10_close 147 = .ok (.iaload, 1) := by decide +kernel
theorem dX10_close_148 : decode cX10_close 148 = .ok (.iastore, 1) := by decide +kernel
theorem dX10_close_149 : decode cX10_close 149 = .ok (.iinc 2 1, 3) := by decide +kernel
theorem dX10_close_152 : decode cX10_close 152 = .ok (.goto (-31), 3) := by decide +kernel
theorem dX10_close_155 : decode cX10_close 155 = .ok (.aload_n 0, 1) := by decide +kernel
theorem dX10_close_156 : decode cX10_close 156 = .ok (.dup, 1) := by decide +kernel
theorem dX10_close_157 : decode cX10_close 157 = .ok (.getfield 204, 3) := by decide +kernel
theorem dX10_close_160 : decode cX10_close 160 = .ok (.iload_n 1, 1) := by decide +kernel
theorem dX10_close_161 : decode cX10_close 161 = .ok (.iadd, 1) := by decide +kernel
theorem dX10_close_162 : decode cX10_close 162 = .ok (.putfield 204, 3) := by decide +kernel
theorem dX10_close_165 : decode cX10_close 165 = .ok (.iload_n 1, 1) := by decide +kernel
theorem dX10_close_166 : decode cX10_close 166 = .ok (.ireturn, 1) := by decide +kernel
theorem dX10_about_0 : decode cX10_about 0 = .ok (.aload_n 0, 1) := by decide +kernel
theorem dX10_about_1 : decode cX10_about 1 = .ok (.iconst 0, 1) := by decide +kernel
theorem dX10_about_2 : decode cX10_about 2 = .ok (.putfield 73, 3) := by decide +kernel
theorem dX10_about_5 : decode cX10_about 5 = .ok (.aload_n 0, 1) := by decide +kernel
theorem dX10_about_6 : decode cX10_about 6 = .ok (.iload_n 1, 1) := by decide +kernel
theorem dX10_about_7 : decode cX10_about 7 = .ok (.invokevirtual 185, 3) := by decide +kernel
theorem dX10_about_10 : decode cX10_about 10 = .ok (.ifCond .ne 5, 3) := by decide +kernel
theorem dX10_about_13 : decode cX10_about 13 = .ok (.iconst (-1), 1) := by decide +kernel
theorem dX10_about_14 : decode cX10_about 14 = .ok (.ireturn, 1) := by decide +kernel
theorem dX10_about_15 : decode cX10_about 15 = .ok (.iconst 0, 1) := by decide +kernel
theorem dX10_about_16 : decode cX10_about 16 = .ok (.istore_n 3, 1) := by decide +kernel
theorem dX10_about_17 : decode cX10_about 17 = .ok (.iconst 0, 1) := by decide +kernel
theorem dX10_about_18 : decode cX10_about 18 = .ok (.istore 4, 2) := by decide +kernel
theorem dX10_about_20 : decode cX10_about 20 = .ok (.iload 4, 2) := by decide +kernel
theorem dX10_about_22 : decode cX10_about 22 = .ok (.bipush 28, 2) := by decide +kernel
theorem dX10_about_24 : decode cX10_about 24 = .ok (.if_icmp .ge 24, 3) := by decide +kernel
theorem dX10_about_27 : decode cX10_about 27 = .ok (.iload_n 3, 1) := by decide +kernel
theorem dX10_about_28 : decode cX10_about 28 = .ok (.aload_n 0, 1) := by decide +kernel
theorem dX10_about_29 : decode cX10_about 29 = .ok (.getfield 58, 3) := by decide +kernel
theorem dX10_about_32 : decode cX10_about 32 = .ok (.bipush 10, 2) := by decide +kernel
theorem dX10_about_34 : decode cX10_about 34 = .ok (.iload 4, 2) := by decide +kernel
theorem dX10_about_36 : decode cX10_about 36 = .ok (.imul, 1) := by decide +kernel
theorem dX10_about_37 : decode cX10_about 37 = .ok (.iload_n 1, 1) := by decide +kernel
theorem dX10_about_38 : decode cX10_about 38 = .ok (.iadd, 1) := by decide +kernel
theorem dX10_about_39 : decode cX10_about 39 = .ok (.iaload, 1) := by decide +kernel
theorem dX10_about_40 : decode cX10_about 40 = .ok (.iadd, 1) := by decide +kernel
theorem dX10_about_41 : decode cX10_about 41 = .ok (.istore_n 3, 1) := by decide +kernel
theorem dX10_about_42 : decode cX10_about 42 = .ok (.iinc 4 1, 3) := by decide +kernel
end
section
theorem dX10_about_45 : decode cX10_about 45 = .ok (.goto (-25), 3) := by decide +kernel
theorem dX10_about_48 : decode cX10_about 48 = .ok (.iload_n 2, 1) := by decide +kernel
theorem dX10_about_49 : decode cX10_about 49 = .ok (.tableswitch 54 0 3 #[31, 38, 45, 52], 31) := by decide +kernel
theorem dX10_about_80 : decode cX10_about 80 = .ok (.aload_n 0, 1) := by decide +kernel
theorem dX10_about_81 : decode cX10_about 81 = .ok (.getfield 28, 3) := by decide +kernel
theorem dX10_about_84 : decode cX10_about 84 = .ok (.iload_n 1, 1) := by decide +kernel
theorem dX10_about_85 : decode cX10_about 85 = .ok (.iaload, 1) := by decide +kernel
theorem dX10_about_86 : decode cX10_about 86 = .ok (.ireturn, 1) := by decide +kernel
theorem dX10_about_87 : decode cX10_about 87 = .ok (.aload_n 0, 1) := by decide +kernel
theorem dX10_about_88 : decode cX10_about 88 = .ok (.getfield 31, 3) := by decide +kernel
theorem dX10_about_91 : decode cX10_about 91 = .ok (.iload_n 1, 1) := by decide +kernel
theorem dX10_about_92 : decode cX10_about 92 = .ok (.iaload, 1) := by decide +kernel
theorem dX10_about_93 : decode cX10_about 93 = .ok (.ireturn, 1) := by decide +kernel
theorem dX10_about_94 : decode cX10_about 94 = .ok (.aload_n 0, 1) := by decide +kernel
theorem dX10_about_95 : decode cX10_about 95 = .ok (.getfield 34, 3) := by decide +kernel
theorem dX10_about_98 : decode cX10_about 98 = .ok (.iload_n 1, 1) := by decide +kernel
theorem dX10_about_99 : decode cX10_about 99 = .ok (.iaload, 1) := by decide +kernel
theorem dX10_about_100 : decode cX10_about 100 = .ok (.ireturn, 1) := by decide +kernel
theorem dX10_about_101 : decode cX10_about 101 = .ok (.iload_n 3, 1) := by decide +kernel
theorem dX10_about_102 : decode cX10_about 102 = .ok (.ireturn, 1) := by decide +kernel
theorem dX10_about_103 : decode cX10_about 103 = .ok (.iconst (-1), 1) := by decide +kernel
theorem dX10_about_104 : decode cX10_about 104 = .ok (.ireturn, 1) := by decide +kernel
theorem dX10_price_0 : decode cX10_price 0 = .ok (.aload_n 0, 1) := by decide +kernel
theorem dX10_price_1 : decode cX10_price 1 = .ok (.iconst 0, 1) := by decide +kernel
theorem dX10_price_2 : decode cX10_price 2 = .ok (.putfield 73, 3) := by decide +kernel
theorem dX10_price_5 : decode cX10_price 5 = .ok (.aload_n 0, 1) := by decide +kernel
theorem dX10_price_6 : decode cX10_price 6 = .ok (.iload_n 1, 1) := by decide +kernel
theorem dX10_price_7 : decode cX10_price 7 = .ok (.invokevirtual 185, 3) := by decide +kernel
theorem dX10_price_10 : decode cX10_price 10 = .ok (.ifCond .eq 35, 3) := by decide +kernel
theorem dX10_price_13 : decode cX10_price 13 = .ok (.iload_n 2, 1) := by decide +kernel
theorem dX10_price_14 : decode cX10_price 14 = .ok (.aload_n 0, 1) := by decide +kernel
theorem dX10_price_15 : decode cX10_price 15 = .ok (.getfield 40, 3) := by decide +kernel
theorem dX10_price_18 : decode cX10_price 18 = .ok (.iload_n 1, 1) := by decide +kernel
theorem dX10_price_19 : decode cX10_price 19 = .ok (.iaload, 1) := by decide +kernel
theorem dX10_price_20 : decode cX10_price 20 = .ok (.if_icmp .lt 25, 3) := by decide +kernel
theorem dX10_price_23 : decode cX10_price 23 = .ok (.iload_n 2, 1) := by decide +kernel
theorem dX10_price_24 : decode cX10_price 24 = .ok (.aload_n 0, 1) := by decide +kernel
theorem dX10_price_25 : decode cX10_price 25 = .ok (.getfield 182, 3) := by decide +kernel
theorem dX10_price_28 : decode cX10_price 28 = .ok (.if_icmp .gt 17, 3) := by decide +kernel
theorem dX10_price_31 : decode cX10_price 31 = .ok (.aload_n 0, 1) := by decide +kernel
theorem dX10_price_32 : decode cX10_price 32 = .ok (.getfield 37, 3) := by decide +kernel
theorem dX10_price_35 : decode cX10_price 35 = .ok (.bipush 50, 2) := by decide +kernel
theorem dX10_price_37 : decode cX10_price 37 = .ok (.iload_n 1, 1) := by decide +kernel
theorem dX10_price_38 : decode cX10_price 38 = .ok (.imul, 1) := by decide +kernel
theorem dX10_price_39 : decode cX10_price 39 = .ok (.iload_n 2, 1) := by decide +kernel
theorem dX10_price_40 : decode cX10_price 40 = .ok (.iadd, 1) := by decide +kernel
theorem dX10_price_41 : decode cX10_price 41 = .ok (.iaload, 1) := by decide +kernel
theorem dX10_price_42 : decode cX10_price 42 = .ok (.goto 4, 3) := by decide +kernel
theorem dX10_price_45 : decode cX10_price 45 = .ok (.iconst (-1), 1) := by decide +kernel
theorem dX10_price_46 : decode cX10_price 46 = .ok (.ireturn, 1) := by decide +kernel
theorem dX10_isKept_0 : decode cX10_isKept 0 = .ok (.aload_n 0, 1) := by decide +kernel
theorem dX10_isKept_1 : decode cX10_isKept 1 = .ok (.getfield 43, 3) := by decide +kernel
theorem dX10_isKept_4 : decode cX10_isKept 4 = .ok (.iload_n 1, 1) := by decide +kernel
theorem dX10_isKept_5 : decode cX10_isKept 5 = .ok (.iaload, 1) := by decide +kernel
theorem dX10_isKept_6 : decode cX10_isKept 6 = .ok (.i2l, 1) := by decide +kernel
theorem dX10_isKept_7 : decode cX10_isKept 7 = .ok (.lstore_n 2, 1) := by decide +kernel
theorem dX10_isKept_8 : decode cX10_isKept 8 = .ok (.iconst 0, 1) := by decide +kernel
theorem dX10_isKept_9 : decode cX10_isKept 9 = .ok (.istore 4, 2) := by decide +kernel
theorem dX10_isKept_11 : decode cX10_isKept 11 = .ok (.iload 4, 2) := by decide +kernel
theorem dX10_isKept_13 : decode cX10_isKept 13 = .ok (.aload_n 0, 1) := by decide +kernel
theorem dX10_isKept_14 : decode cX10_isKept 14 = .ok (.getfield 163, 3) := by decide +kernel
theorem dX10_isKept_17 : decode cX10_isKept 17 = .ok (.if_icmp .ge 34, 3) := by decide +kernel
theorem dX10_isKept_20 : decode cX10_isKept 20 = .ok (.lload_n 2, 1) := by decide +kernel
theorem dX10_isKept_21 : decode cX10_isKept 21 = .ok (.aload_n 0, 1) := by decide +kernel
theorem dX10_isKept_22 : decode cX10_isKept 22 = .ok (.getfield 61, 3) := by decide +kernel
theorem dX10_isKept_25 : decode cX10_isKept 25 = .ok (.bipush 10, 2) := by decide +kernel
theorem dX10_isKept_27 : decode cX10_isKept 27 = .ok (.iload_n 1, 1) := by decide +kernel
theorem dX10_isKept_28 : decode cX10_isKept 28 = .ok (.imul, 1) := by decide +kernel
theorem dX10_isKept_29 : decode cX10_isKept 29 = .ok (.iload 4, 2) := by decide +kernel
theorem dX10_isKept_31 : decode cX10_isKept 31 = .ok (.iadd, 1) := by decide +kernel
theorem dX10_isKept_32 : decode cX10_isKept 32 = .ok (.iaload, 1) := by decide +kernel
theorem dX10_isKept_33 : decode cX10_isKept 33 = .ok (.i2l, 1) := by decide +kernel
theorem dX10_isKept_34 : decode cX10_isKept 34 = .ok (.aload_n 0, 1) := by decide +kernel
theorem dX10_isKept_35 : decode cX10_isKept 35 = .ok (.getfield 34, 3) := by decide +kernel
theorem dX10_isKept_38 : decode cX10_isKept 38 = .ok (.iload 4, 2) := by decide +kernel
theorem dX10_isKept_40 : decode cX10_isKept 40 = .ok (.iaload, 1) := by decide +kernel
theorem dX10_isKept_41 : decode cX10_isKept 41 = .ok (.i2l, 1) := by decide +kernel
theorem dX10_isKept_42 : decode cX10_isKept 42 = .ok (.lmul, 1) := by decide +kernel
theorem dX10_isKept_43 : decode cX10_isKept 43 = .ok (.ladd, 1) := by decide +kernel
theorem dX10_isKept_44 : decode cX10_isKept 44 = .ok (.lstore_n 2, 1) := by decide +kernel
theorem dX10_isKept_45 : decode cX10_isKept 45 = .ok (.iinc 4 1, 3) := by decide +kernel
theorem dX10_isKept_48 : decode cX10_isKept 48 = .ok (.goto (-37), 3) := by decide +kernel
theorem dX10_isKept_51 : decode cX10_isKept 51 = .ok (.ldc2_w 207, 3) := by decide +kernel
theorem dX10_isKept_54 : decode cX10_isKept 54 = .ok (.lload_n 2, 1) := by decide +kernel
theorem dX10_isKept_55 : decode cX10_isKept 55 = .ok (.lmul, 1) := by decide +kernel
theorem dX10_isKept_56 : decode cX10_isKept 56 = .ok (.aload_n 0, 1) := by decide +kernel
theorem dX10_isKept_57 : decode cX10_isKept 57 = .ok (.getfield 49, 3) := by decide +kernel
theorem dX10_isKept_60 : decode cX10_isKept 60 = .ok (.iload_n 1, 1) := by decide +kernel
theorem dX10_isKept_61 : decode cX10_isKept 61 = .ok (.bipush 24, 2) := by decide +kernel
theorem dX10_isKept_63 : decode cX10_isKept 63 = .ok (.isub, 1) := by decide +kernel
theorem dX10_isKept_64 : decode cX10_isKept 64 = .ok (.iaload, 1) := by decide +kernel
theorem dX10_isKept_65 : decode cX10_isKept 65 = .ok (.i2l, 1) := by decide +kernel
theorem dX10_isKept_66 : decode cX10_isKept 66 = .ok (.aload_n 0, 1) := by decide +kernel
theorem dX10_isKept_67 : decode cX10_isKept 67 = .ok (.getfield 52, 3) := by decide +kernel
theorem dX10_isKept_70 : decode cX10_isKept 70 = .ok (.iload_n 1, 1) := by decide +kernel
theorem dX10_isKept_71 : decode cX10_isKept 71 = .ok (.bipush 24, 2) := by decide +kernel
theorem dX10_isKept_73 : decode cX10_isKept 73 = .ok (.isub, 1) := by decide +kernel
theorem dX10_isKept_74 : decode cX10_isKept 74 = .ok (.iaload, 1) := by decide +kernel
theorem dX10_isKept_75 : decode cX10_isKept 75 = .ok (.i2l, 1) := by decide +kernel
theorem dX10_isKept_76 : decode cX10_isKept 76 = .ok (.lmul, 1) := by decide +kernel
theorem dX10_isKept_77 : decode cX10_isKept 77 = .ok (.lcmp, 1) := by decide +kernel
theorem dX10_isKept_78 : decode cX10_isKept 78 = .ok (.ifCond .lt 7, 3) := by decide +kernel
theorem dX10_isKept_81 : decode cX10_isKept 81 = .ok (.iconst 1, 1) := by decide +kernel
theorem dX10_isKept_82 : decode cX10_isKept 82 = .ok (.goto 4, 3) := by decide +kernel
theorem dX10_isKept_85 : decode cX10_isKept 85 = .ok (.iconst 0, 1) := by decide +kernel
theorem dX10_isKept_86 : decode cX10_isKept 86 = .ok (.ireturn, 1) := by decide +kernel
theorem dX10_purse_0 : decode cX10_purse 0 = .ok (.aload_n 0, 1) := by decide +kernel
theorem dX10_purse_1 : decode cX10_purse 1 = .ok (.iload_n 1, 1) := by decide +kernel
theorem dX10_purse_2 : decode cX10_purse 2 = .ok (.invokevirtual 191, 3) := by decide +kernel
theorem dX10_purse_5 : decode cX10_purse 5 = .ok (.ifCond .eq 12, 3) := by decide +kernel
theorem dX10_purse_8 : decode cX10_purse 8 = .ok (.iload_n 2, 1) := by decide +kernel
theorem dX10_purse_9 : decode cX10_purse 9 = .ok (.ifCond .lt 8, 3) := by decide +kernel
theorem dX10_purse_12 : decode cX10_purse 12 = .ok (.iload_n 2, 1) := by decide +kernel
theorem dX10_purse_13 : decode cX10_purse 13 = .ok (.iconst 4, 1) := by decide +kernel
theorem dX10_purse_14 : decode cX10_purse 14 = .ok (.if_icmp .le 8, 3) := by decide +kernel
theorem dX10_purse_17 : decode cX10_purse 17 = .ok (.aload_n 0, 1) := by decide +kernel
theorem dX10_purse_18 : decode cX10_purse 18 = .ok (.invokevirtual 209, 3) := by decide +kernel
theorem dX10_purse_21 : decode cX10_purse 21 = .ok (.ireturn, 1) := by decide +kernel
theorem dX10_purse_22 : decode cX10_purse 22 = .ok (.aload_n 0, 1) := by decide +kernel
theorem dX10_purse_23 : decode cX10_purse 23 = .ok (.iconst 0, 1) := by decide +kernel
theorem dX10_purse_24 : decode cX10_purse 24 = .ok (.putfield 73, 3) := by decide +kernel
theorem dX10_purse_27 : decode cX10_purse 27 = .ok (.iconst 0, 1) := by decide +kernel
theorem dX10_purse_28 : decode cX10_purse 28 = .ok (.istore_n 3, 1) := by decide +kernel
theorem dX10_purse_29 : decode cX10_purse 29 = .ok (.iconst 0, 1) := by decide +kernel
theorem dX10_purse_30 : decode cX10_purse 30 = .ok (.istore 4, 2) := by decide +kernel
theorem dX10_purse_32 : decode cX10_purse 32 = .ok (.iload 4, 2) := by decide +kernel
theorem dX10_purse_34 : decode cX10_purse 34 = .ok (.aload_n 0, 1) := by decide +kernel
theorem dX10_purse_35 : decode cX10_purse 35 = .ok (.getfield 163, 3) := by decide +kernel
theorem dX10_purse_38 : decode cX10_purse 38 = .ok (.if_icmp .ge 24, 3) := by decide +kernel
theorem dX10_purse_41 : decode cX10_purse 41 = .ok (.iload_n 3, 1) := by decide +kernel
theorem dX10_purse_42 : decode cX10_purse 42 = .ok (.aload_n 0, 1) := by decide +kernel
theorem dX10_purse_43 : decode cX10_purse 43 = .ok (.getfield 61, 3) := by decide +kernel
theorem dX10_purse_46 : decode cX10_purse 46 = .ok (.bipush 10, 2) := by decide +kernel
theorem dX10_purse_48 : decode cX10_purse 48 = .ok (.iload_n 1, 1) := by decide +kernel
theorem dX10_purse_49 : decode cX10_purse 49 = .ok (.imul, 1) := by decide +kernel
theorem dX10_purse_50 : decode cX10_purse 50 = .ok (.iload 4, 2) := by decide +kernel
theorem dX10_purse_52 : decode cX10_purse 52 = .ok (.iadd, 1) := by decide +kernel
theorem dX10_purse_53 : decode cX10_purse 53 = .ok (.iaload, 1) := by decide +kernel
theorem dX10_purse_54 : decode cX10_purse 54 = .ok (.iadd, 1) := by decide +kernel
theorem dX10_purse_55 : decode cX10_purse 55 = .ok (.istore_n 3, 1) := by decide +kernel
theorem dX10_purse_56 : decode cX10_purse 56 = .ok (.iinc 4 1, 3) := by decide +kernel
theorem dX10_purse_59 : decode cX10_purse 59 = .ok (.goto (-27), 3) := by decide +kernel
theorem dX10_purse_62 : decode cX10_purse 62 = .ok (.iload_n 2, 1) := by decide +kernel
theorem dX10_purse_63 : decode cX10_purse 63 = .ok (.tableswitch 90 0 3 #[29, 36, 42, 64], 29) := by decide +kernel
theorem dX10_purse_92 : decode cX10_purse 92 = .ok (.aload_n 0, 1) := by decide +kernel
theorem dX10_purse_93 : decode cX10_purse 93 = .ok (.getfield 43, 3) := by decide +kernel
theorem dX10_purse_96 : decode cX10_purse 96 = .ok (.iload_n 1, 1) := by decide +kernel
theorem dX10_purse_97 : decode cX10_purse 97 = .ok (.iaload, 1) := by decide +kernel
theorem dX10_purse_98 : decode cX10_purse 98 = .ok (.ireturn, 1) := by decide +kernel
theorem dX10_purse_99 : decode cX10_purse 99 = .ok (.aload_n 0, 1) := by decide +kernel
theorem dX10_purse_100 : decode cX10_purse 100 = .ok (.iload_n 1, 1) := by decide +kernel
theorem dX10_purse_101 : decode cX10_purse 101 = .ok (.invokevirtual 188, 3) := by decide +kernel
theorem dX10_purse_104 : decode cX10_purse 104 = .ok (.ireturn, 1) := by decide +kernel
theorem dX10_purse_105 : decode cX10_purse 105 = .ok (.aload_n 0, 1) := by decide +kernel
theorem dX10_purse_106 : decode cX10_purse 106 = .ok (.iload_n 1, 1) := by decide +kernel
theorem dX10_purse_107 : decode cX10_purse 107 = .ok (.invokevirtual 175, 3) := by decide +kernel
theorem dX10_purse_110 : decode cX10_purse 110 = .ok (.ifCond .eq 15, 3) := by decide +kernel
theorem dX10_purse_113 : decode cX10_purse 113 = .ok (.aload_n 0, 1) := by decide +kernel
theorem dX10_purse_114 : decode cX10_purse 114 = .ok (.getfield 52, 3) := by decide +kernel
theorem dX10_purse_117 : decode cX10_purse 117 = .ok (.iload_n 1, 1) := by decide +kernel
theorem dX10_purse_118 : decode cX10_purse 118 = .ok (.bipush 24, 2) := by decide +kernel
theorem dX10_purse_120 : decode cX10_purse 120 = .ok (.isub, 1) := by decide +kernel
theorem dX10_purse_121 : decode cX10_purse 121 = .ok (.iaload, 1) := by decide +kernel
theorem dX10_purse_122 : decode cX10_purse 122 = .ok (.goto 4, 3) := by decide +kernel
theorem dX10_purse_125 : decode cX10_purse 125 = .ok (.iconst (-1), 1) := by decide +kernel
theorem dX10_purse_126 : decode cX10_purse 126 = .ok (.ireturn, 1) := by decide +kernel
theorem dX10_purse_127 : decode cX10_purse 127 = .ok (.aload_n 0, 1) := by decide +kernel
theorem dX10_purse_128 : decode cX10_purse 128 = .ok (.iload_n 1, 1) := by decide +kernel
theorem dX10_purse_129 : decode cX10_purse 129 = .ok (.invokevirtual 175, 3) := by decide +kernel
theorem dX10_purse_132 : decode cX10_purse 132 = .ok (.ifCond .ne 7, 3) := by decide +kernel
theorem dX10_purse_135 : decode cX10_purse 135 = .ok (.iconst (-1), 1) := by decide +kernel
theorem dX10_purse_136 : decode cX10_purse 136 = .ok (.goto 16, 3) := by decide +kernel
theorem dX10_purse_139 : decode cX10_purse 139 = .ok (.aload_n 0, 1) := by decide +kernel
theorem dX10_purse_140 : decode cX10_purse 140 = .ok (.iload_n 1, 1) := by decide +kernel
theorem dX10_purse_141 : decode cX10_purse 141 = .ok (.invokevirtual 212, 3) := by decide +kernel
theorem dX10_purse_144 : decode cX10_purse 144 = .ok (.ifCond .eq 7, 3) := by decide +kernel
theorem dX10_purse_147 : decode cX10_purse 147 = .ok (.iconst 1, 1) := by decide +kernel
theorem dX10_purse_148 : decode cX10_purse 148 = .ok (.goto 4, 3) := by decide +kernel
theorem dX10_purse_151 : decode cX10_purse 151 = .ok (.iconst 0, 1) := by decide +kernel
theorem dX10_purse_152 : decode cX10_purse 152 = .ok (.ireturn, 1) := by decide +kernel
theorem dX10_purse_153 : decode cX10_purse 153 = .ok (.iload_n 3, 1) := by decide +kernel
theorem dX10_purse_154 : decode cX10_purse 154 = .ok (.ireturn, 1) := by decide +kernel
theorem dX10_heldAsOf_0 : decode cX10_heldAsOf 0 = .ok (.iload_n 3, 1) := by decide +kernel
theorem dX10_heldAsOf_1 : decode cX10_heldAsOf 1 = .ok (.aload_n 0, 1) := by decide +kernel
theorem dX10_heldAsOf_2 : decode cX10_heldAsOf 2 = .ok (.getfield 182, 3) := by decide +kernel
theorem dX10_heldAsOf_5 : decode cX10_heldAsOf 5 = .ok (.if_icmp .ne 17, 3) := by decide +kernel
theorem dX10_heldAsOf_8 : decode cX10_heldAsOf 8 = .ok (.aload_n 0, 1) := by decide +kernel
theorem dX10_heldAsOf_9 : decode cX10_heldAsOf 9 = .ok (.getfield 61, 3) := by decide +kernel
theorem dX10_heldAsOf_12 : decode cX10_heldAsOf 12 = .ok (.bipush 10, 2) := by decide +kernel
theorem dX10_heldAsOf_14 : decode cX10_heldAsOf 14 = .ok (.iload_n 1, 1) := by decide +kernel
theorem dX10_heldAsOf_15 : decode cX10_heldAsOf 15 = .ok (.imul, 1) := by decide +kernel
theorem dX10_heldAsOf_16 : decode cX10_heldAsOf 16 = .ok (.iload_n 2, 1) := by decide +kernel
theorem dX10_heldAsOf_17 : decode cX10_heldAsOf 17 = .ok (.iadd, 1) := by decide +kernel
theorem dX10_heldAsOf_18 : decode cX10_heldAsOf 18 = .ok (.iaload, 1) := by decide +kernel
theorem dX10_heldAsOf_19 : decode cX10_heldAsOf 19 = .ok (.goto 20, 3) := by decide +kernel
theorem dX10_heldAsOf_22 : decode cX10_heldAsOf 22 = .ok (.aload_n 0, 1) := by decide +kernel
theorem dX10_heldAsOf_23 : decode cX10_heldAsOf 23 = .ok (.getfield 64, 3) := by decide +kernel
theorem dX10_heldAsOf_26 : decode cX10_heldAsOf 26 = .ok (.sipush 280, 3) := by decide +kernel
theorem dX10_heldAsOf_29 : decode cX10_heldAsOf 29 = .ok (.iload_n 3, 1) := by decide +kernel
theorem dX10_heldAsOf_30 : decode cX10_heldAsOf 30 = .ok (.imul, 1) := by decide +kernel
theorem dX10_heldAsOf_31 : decode cX10_heldAsOf 31 = .ok (.bipush 10, 2) := by decide +kernel
theorem dX10_heldAsOf_33 : decode cX10_heldAsOf 33 = .ok (.iload_n 1, 1) := by decide +kernel
theorem dX10_heldAsOf_34 : decode cX10_heldAsOf 34 = .ok (.imul, 1) := by decide +kernel
theorem dX10_heldAsOf_35 : decode cX10_heldAsOf 35 = .ok (.iadd, 1) := by decide +kernel
theorem dX10_heldAsOf_36 : decode cX10_heldAsOf 36 = .ok (.iload_n 2, 1) := by decide +kernel
theorem dX10_heldAsOf_37 : decode cX10_heldAsOf 37 = .ok (.iadd, 1) := by decide +kernel
theorem dX10_heldAsOf_38 : decode cX10_heldAsOf 38 = .ok (.iaload, 1) := by decide +kernel
theorem dX10_heldAsOf_39 : decode cX10_heldAsOf 39 = .ok (.ireturn, 1) := by decide +kernel
theorem dX10_isRound_0 : decode cX10_isRound 0 = .ok (.iload_n 1, 1) := by decide +kernel
theorem dX10_isRound_1 : decode cX10_isRound 1 = .ok (.ifCond .lt 15, 3) := by decide +kernel
theorem dX10_isRound_4 : decode cX10_isRound 4 = .ok (.iload_n 1, 1) := by decide +kernel
theorem dX10_isRound_5 : decode cX10_isRound 5 = .ok (.aload_n 0, 1) := by decide +kernel
theorem dX10_isRound_6 : decode cX10_isRound 6 = .ok (.getfield 182, 3) := by decide +kernel
theorem dX10_isRound_9 : decode cX10_isRound 9 = .ok (.if_icmp .gt 7, 3) := by decide +kernel
theorem dX10_isRound_12 : decode cX10_isRound 12 = .ok (.iconst 1, 1) := by decide +kernel
theorem dX10_isRound_13 : decode cX10_isRound 13 = .ok (.goto 4, 3) := by decide +kernel
theorem dX10_isRound_16 : decode cX10_isRound 16 = .ok (.iconst 0, 1) := by decide +kernel
theorem dX10_isRound_17 : decode cX10_isRound 17 = .ok (.ireturn, 1) := by decide +kernel
theorem dX10_holds_0 : decode cX10_holds 0 = .ok (.aload_n 0, 1) := by decide +kernel
theorem dX10_holds_1 : decode cX10_holds 1 = .ok (.iconst 0, 1) := by decide +kernel
theorem dX10_holds_2 : decode cX10_holds 2 = .ok (.putfield 73, 3) := by decide +kernel
theorem dX10_holds_5 : decode cX10_holds 5 = .ok (.aload_n 0, 1) := by decide +kernel
theorem dX10_holds_6 : decode cX10_holds 6 = .ok (.iload_n 1, 1) := by decide +kernel
theorem dX10_holds_7 : decode cX10_holds 7 = .ok (.invokevirtual 191, 3) := by decide +kernel
theorem dX10_holds_10 : decode cX10_holds 10 = .ok (.ifCond .eq 29, 3) := by decide +kernel
theorem dX10_holds_13 : decode cX10_holds 13 = .ok (.aload_n 0, 1) := by decide +kernel
theorem dX10_holds_14 : decode cX10_holds 14 = .ok (.iload_n 2, 1) := by decide +kernel
theorem dX10_holds_15 : decode cX10_holds 15 = .ok (.invokevirtual 185, 3) := by decide +kernel
theorem dX10_holds_18 : decode cX10_holds 18 = .ok (.ifCond .eq 21, 3) := by decide +kernel
theorem dX10_holds_21 : decode cX10_holds 21 = .ok (.aload_n 0, 1) := by decide +kernel
theorem dX10_holds_22 : decode cX10_holds 22 = .ok (.iload_n 3, 1) := by decide +kernel
theorem dX10_holds_23 : decode cX10_holds 23 = .ok (.invokevirtual 215, 3) := by decide +kernel
theorem dX10_holds_26 : decode cX10_holds 26 = .ok (.ifCond .eq 13, 3) := by decide +kernel
theorem dX10_holds_29 : decode cX10_holds 29 = .ok (.aload_n 0, 1) := by decide +kernel
theorem dX10_holds_30 : decode cX10_holds 30 = .ok (.iload_n 1, 1) := by decide +kernel
theorem dX10_holds_31 : decode cX10_holds 31 = .ok (.iload_n 2, 1) := by decide +kernel
theorem dX10_holds_32 : decode cX10_holds 32 = .ok (.iload_n 3, 1) := by decide +kernel
theorem dX10_holds_33 : decode cX10_holds 33 = .ok (.invokevirtual 218, 3) := by decide +kernel
theorem dX10_holds_36 : decode cX10_holds 36 = .ok (.goto 4, 3) := by decide +kernel
theorem dX10_holds_39 : decode cX10_holds 39 = .ok (.iconst (-1), 1) := by decide +kernel
theorem dX10_holds_40 : decode cX10_holds 40 = .ok (.ireturn, 1) := by decide +kernel
theorem dX10_asks_0 : decode cX10_asks 0 = .ok (.aload_n 0, 1) := by decide +kernel
theorem dX10_asks_1 : decode cX10_asks 1 = .ok (.iconst 0, 1) := by decide +kernel
theorem dX10_asks_2 : decode cX10_asks 2 = .ok (.putfield 73, 3) := by decide +kernel
theorem dX10_asks_5 : decode cX10_asks 5 = .ok (.aload_n 0, 1) := by decide +kernel
theorem dX10_asks_6 : decode cX10_asks 6 = .ok (.iload_n 1, 1) := by decide +kernel
theorem dX10_asks_7 : decode cX10_asks 7 = .ok (.invokevirtual 191, 3) := by decide +kernel
theorem dX10_asks_10 : decode cX10_asks 10 = .ok (.ifCond .eq 25, 3) := by decide +kernel
theorem dX10_asks_13 : decode cX10_asks 13 = .ok (.aload_n 0, 1) := by decide +kernel
theorem dX10_asks_14 : decode cX10_asks 14 = .ok (.iload_n 2, 1) := by decide +kernel
theorem dX10_asks_15 : decode cX10_asks 15 = .ok (.invokevirtual 185, 3) := by decide +kernel
theorem dX10_asks_18 : decode cX10_asks 18 = .ok (.ifCond .eq 17, 3) := by decide +kernel
theorem dX10_asks_21 : decode cX10_asks 21 = .ok (.aload_n 0, 1) := by decide +kernel
theorem dX10_asks_22 : decode cX10_asks 22 = .ok (.getfield 58, 3) := by decide +kernel
theorem dX10_asks_25 : decode cX10_asks 25 = .ok (.bipush 10, 2) := by decide +kernel
theorem dX10_asks_27 : decode cX10_asks 27 = .ok (.iload_n 1, 1) := by decide +kernel
theorem dX10_asks_28 : decode cX10_asks 28 = .ok (.imul, 1) := by decide +kernel
theorem dX10_asks_29 : decode cX10_asks 29 = .ok (.iload_n 2, 1) := by decide +kernel
theorem dX10_asks_30 : decode cX10_asks 30 = .ok (.iadd, 1) := by decide +kernel
theorem dX10_asks_31 : decode cX10_asks 31 = .ok (.iaload, 1) := by decide +kernel
theorem dX10_asks_32 : decode cX10_asks 32 = .ok (.goto 4, 3) := by decide +kernel
theorem dX10_asks_35 : decode cX10_asks 35 = .ok (.iconst (-1), 1) := by decide +kernel
theorem dX10_asks_36 : decode cX10_asks 36 = .ok (.ireturn, 1) := by decide +kernel
theorem dX10_common_0 : decode cX10_common 0 = .ok (.lload_n 0, 1) := by decide +kernel
theorem dX10_common_1 : decode cX10_common 1 = .ok (.lstore 4, 2) := by decide +kernel
theorem dX10_common_3 : decode cX10_common 3 = .ok (.lload_n 2, 1) := by decide +kernel
theorem dX10_common_4 : decode cX10_common 4 = .ok (.lstore 6, 2) := by decide +kernel
theorem dX10_common_6 : decode cX10_common 6 = .ok (.lload 6, 2) := by decide +kernel
theorem dX10_common_8 : decode cX10_common 8 = .ok (.lconst 0, 1) := by decide +kernel
theorem dX10_common_9 : decode cX10_common 9 = .ok (.lcmp, 1) := by decide +kernel
theorem dX10_common_10 : decode cX10_common 10 = .ok (.ifCond .eq 21, 3) := by decide +kernel
theorem dX10_common_13 : decode cX10_common 13 = .ok (.lload 4, 2) := by decide +kernel
theorem dX10_common_15 : decode cX10_common 15 = .ok (.lload 6, 2) := by decide +kernel
theorem dX10_common_17 : decode cX10_common 17 = .ok (.lrem, 1) := by decide +kernel
theorem dX10_common_18 : decode cX10_common 18 = .ok (.lstore 8, 2) := by decide +kernel
theorem dX10_common_20 : decode cX10_common 20 = .ok (.lload 6, 2) := by decide +kernel
theorem dX10_common_22 : decode cX10_common 22 = .ok (.lstore 4, 2) := by decide +kernel
theorem dX10_common_24 : decode cX10_common 24 = .ok (.lload 8, 2) := by decide +kernel
theorem dX10_common_26 : decode cX10_common 26 = .ok (.lstore 6, 2) := by decide +kernel
theorem dX10_common_28 : decode cX10_common 28 = .ok (.goto (-22), 3) := by decide +kernel
theorem dX10_common_31 : decode cX10_common 31 = .ok (.lload 4, 2) := by decide +kernel
theorem dX10_common_33 : decode cX10_common 33 = .ok (.lreturn, 1) := by decide +kernel
theorem dX10_owned_0 : decode cX10_owned 0 = .ok (.aload_n 0, 1) := by decide +kernel
theorem dX10_owned_1 : decode cX10_owned 1 = .ok (.iload_n 1, 1) := by decide +kernel
theorem dX10_owned_2 : decode cX10_owned 2 = .ok (.invokevirtual 172, 3) := by decide +kernel
theorem dX10_owned_5 : decode cX10_owned 5 = .ok (.ifCond .eq 30, 3) := by decide +kernel
theorem dX10_owned_8 : decode cX10_owned 8 = .ok (.aload_n 0, 1) := by decide +kernel
theorem dX10_owned_9 : decode cX10_owned 9 = .ok (.iload_n 2, 1) := by decide +kernel
theorem dX10_owned_10 : decode cX10_owned 10 = .ok (.invokevirtual 185, 3) := by decide +kernel
theorem dX10_owned_13 : decode cX10_owned 13 = .ok (.ifCond .eq 22, 3) := by decide +kernel
theorem dX10_owned_16 : decode cX10_owned 16 = .ok (.aload_n 0, 1) := by decide +kernel
theorem dX10_owned_17 : decode cX10_owned 17 = .ok (.iload_n 3, 1) := by decide +kernel
theorem dX10_owned_18 : decode cX10_owned 18 = .ok (.invokevirtual 215, 3) := by decide +kernel
theorem dX10_owned_21 : decode cX10_owned 21 = .ok (.ifCond .eq 14, 3) := by decide +kernel
theorem dX10_owned_24 : decode cX10_owned 24 = .ok (.iload 4, 2) := by decide +kernel
theorem dX10_owned_26 : decode cX10_owned 26 = .ok (.ifCond .lt 9, 3) := by decide +kernel
theorem dX10_owned_29 : decode cX10_owned 29 = .ok (.iload 4, 2) := by decide +kernel
theorem dX10_owned_31 : decode cX10_owned 31 = .ok (.iconst 1, 1) := by decide +kernel
theorem dX10_owned_32 : decode cX10_owned 32 = .ok (.if_icmp .le 9, 3) := by decide +kernel
theorem dX10_owned_35 : decode cX10_owned 35 = .ok (.aload_n 0, 1) := by decide +kernel
theorem dX10_owned_36 : decode cX10_owned 36 = .ok (.invokevirtual 209, 3) := by decide +kernel
theorem dX10_owned_39 : decode cX10_owned 39 = .ok (.i2l, 1) := by decide +kernel
theorem dX10_owned_40 : decode cX10_owned 40 = .ok (.lreturn, 1) := by decide +kernel
theorem dX10_owned_41 : decode cX10_owned 41 = .ok (.aload_n 0, 1) := by decide +kernel
theorem dX10_owned_42 : decode cX10_owned 42 = .ok (.iconst 0, 1) := by decide +kernel
theorem dX10_owned_43 : decode cX10_owned 43 = .ok (.putfield 73, 3) := by decide +kernel
theorem dX10_owned_46 : decode cX10_owned 46 = .ok (.aload_n 0, 1) := by decide +kernel
theorem dX10_owned_47 : decode cX10_owned 47 = .ok (.iload_n 1, 1) := by decide +kernel
theorem dX10_owned_48 : decode cX10_owned 48 = .ok (.iload_n 2, 1) := by decide +kernel
theorem dX10_owned_49 : decode cX10_owned 49 = .ok (.iload_n 3, 1) := by decide +kernel
theorem dX10_owned_50 : decode cX10_owned 50 = .ok (.invokevirtual 218, 3) := by decide +kernel
theorem dX10_owned_53 : decode cX10_owned 53 = .ok (.i2l, 1) := by decide +kernel
theorem dX10_owned_54 : decode cX10_owned 54 = .ok (.lstore 5, 2) := by decide +kernel
theorem dX10_owned_56 : decode cX10_owned 56 = .ok (.lconst 1, 1) := by decide +kernel
theorem dX10_owned_57 : decode cX10_owned 57 = .ok (.lstore 7, 2) := by decide +kernel
theorem dX10_owned_59 : decode cX10_owned 59 = .ok (.iconst 0, 1) := by decide +kernel
theorem dX10_owned_60 : decode cX10_owned 60 = .ok (.istore 9, 2) := by decide +kernel
theorem dX10_owned_62 : decode cX10_owned 62 = .ok (.iload 9, 2) := by decide +kernel
theorem dX10_owned_64 : decode cX10_owned 64 = .ok (.aload_n 0, 1) := by decide +kernel
theorem dX10_owned_65 : decode cX10_owned 65 = .ok (.getfield 169, 3) := by decide +kernel
theorem dX10_owned_68 : decode cX10_owned 68 = .ok (.if_icmp .ge 115, 3) := by decide +kernel
theorem dX10_owned_71 : decode cX10_owned 71 = .ok (.aload_n 0, 1) := by decide +kernel
theorem dX10_owned_72 : decode cX10_owned 72 = .ok (.bipush 24, 2) := by decide +kernel
theorem dX10_owned_74 : decode cX10_owned 74 = .ok (.iload 9, 2) := by decide +kernel
theorem dX10_owned_76 : decode cX10_owned 76 = .ok (.iadd, 1) := by decide +kernel
theorem dX10_owned_77 : decode cX10_owned 77 = .ok (.iload_n 2, 1) := by decide +kernel
theorem dX10_owned_78 : decode cX10_owned 78 = .ok (.iload_n 3, 1) := by decide +kernel
theorem dX10_owned_79 : decode cX10_owned 79 = .ok (.invokevirtual 218, 3) := by decide +kernel
theorem dX10_owned_82 : decode cX10_owned 82 = .ok (.i2l, 1) := by decide +kernel
theorem dX10_owned_83 : decode cX10_owned 83 = .ok (.aload_n 0, 1) := by decide +kernel
theorem dX10_owned_84 : decode cX10_owned 84 = .ok (.getfield 55, 3) := by decide +kernel
theorem dX10_owned_87 : decode cX10_owned 87 = .ok (.iconst 4, 1) := by decide +kernel
theorem dX10_owned_88 : decode cX10_owned 88 = .ok (.iload_n 1, 1) := by decide +kernel
theorem dX10_owned_89 : decode cX10_owned 89 = .ok (.imul, 1) := by decide +kernel
theorem dX10_owned_90 : decode cX10_owned 90 = .ok (.iload 9, 2) := by decide +kernel
theorem dX10_owned_92 : decode cX10_owned 92 = .ok (.iadd, 1) := by decide +kernel
theorem dX10_owned_93 : decode cX10_owned 93 = .ok (.iaload, 1) := by decide +kernel
theorem dX10_owned_94 : decode cX10_owned 94 = .ok (.i2l, 1) := by decide +kernel
theorem dX10_owned_95 : decode cX10_owned 95 = .ok (.lmul, 1) := by decide +kernel
theorem dX10_owned_96 : decode cX10_owned 96 = .ok (.lstore 10, 2) := by decide +kernel
theorem dX10_owned_98 : decode cX10_owned 98 = .ok (.lload 10, 2) := by decide +kernel
theorem dX10_owned_100 : decode cX10_owned 100 = .ok (.lconst 0, 1) := by decide +kernel
theorem dX10_owned_101 : decode cX10_owned 101 = .ok (.lcmp, 1) := by decide +kernel
theorem dX10_owned_102 : decode cX10_owned 102 = .ok (.ifCond .ne 6, 3) := by decide +kernel
theorem dX10_owned_105 : decode cX10_owned 105 = .ok (.goto 72, 3) := by decide +kernel
theorem dX10_owned_108 : decode cX10_owned 108 = .ok (.lload 10, 2) := by decide +kernel
theorem dX10_owned_110 : decode cX10_owned 110 = .ok (.aload_n 0, 1) := by decide +kernel
theorem dX10_owned_111 : decode cX10_owned 111 = .ok (.getfield 52, 3) := by decide +kernel
theorem dX10_owned_114 : decode cX10_owned 114 = .ok (.iload 9, 2) := by decide +kernel
theorem dX10_owned_116 : decode cX10_owned 116 = .ok (.iaload, 1) := by decide +kernel
theorem dX10_owned_117 : decode cX10_owned 117 = .ok (.i2l, 1) := by decide +kernel
theorem dX10_owned_118 : decode cX10_owned 118 = .ok (.invokestatic 222, 3) := by decide +kernel
theorem dX10_owned_121 : decode cX10_owned 121 = .ok (.lstore 12, 2) := by decide +kernel
theorem dX10_owned_123 : decode cX10_owned 123 = .ok (.aload_n 0, 1) := by decide +kernel
theorem dX10_owned_124 : decode cX10_owned 124 = .ok (.getfield 52, 3) := by decide +kernel
theorem dX10_owned_127 : decode cX10_owned 127 = .ok (.iload 9, 2) := by decide +kernel
theorem dX10_owned_129 : decode cX10_owned 129 = .ok (.iaload, 1) := by decide +kernel
theorem dX10_owned_130 : decode cX10_owned 130 = .ok (.i2l, 1) := by decide +kernel
theorem dX10_owned_131 : decode cX10_owned 131 = .ok (.lload 12, 2) := by decide +kernel
theorem dX10_owned_133 : decode cX10_owned 133 = .ok (.ldiv, 1) := by decide +kernel
theorem dX10_owned_134 : decode cX10_owned 134 = .ok (.lstore 14, 2) := by decide +kernel
theorem dX10_owned_136 : decode cX10_owned 136 = .ok (.lload 14, 2) := by decide +kernel
theorem dX10_owned_138 : decode cX10_owned 138 = .ok (.lload 7, 2) := by decide +kernel
theorem dX10_owned_140 : decode cX10_owned 140 = .ok (.invokestatic 222, 3) := by decide +kernel
theorem dX10_owned_143 : decode cX10_owned 143 = .ok (.lstore 16, 2) := by decide +kernel
theorem dX10_owned_145 : decode cX10_owned 145 = .ok (.lload 5, 2) := by decide +kernel
theorem dX10_owned_147 : decode cX10_owned 147 = .ok (.lload 14, 2) := by decide +kernel
theorem dX10_owned_149 : decode cX10_owned 149 = .ok (.lload 16, 2) := by decide +kernel
theorem dX10_owned_151 : decode cX10_owned 151 = .ok (.ldiv, 1) := by decide +kernel
theorem dX10_owned_152 : decode cX10_owned 152 = .ok (.lmul, 1) := by decide +kernel
theorem dX10_owned_153 : decode cX10_owned 153 = .ok (.lload 10, 2) := by decide +kernel
theorem dX10_owned_155 : decode cX10_owned 155 = .ok (.lload 12, 2) := by decide +kernel
theorem dX10_owned_157 : decode cX10_owned 157 = .ok (.ldiv, 1) := by decide +kernel
theorem dX10_owned_158 : decode cX10_owned 158 = .ok (.lload 7, 2) := by decide +kernel
theorem dX10_owned_160 : decode cX10_owned 160 = .ok (.lload 16, 2) := by decide +kernel
theorem dX10_owned_162 : decode cX10_owned 162 = .ok (.ldiv, 1) := by decide +kernel
theorem dX10_owned_163 : decode cX10_owned 163 = .ok (.lmul, 1) := by decide +kernel
theorem dX10_owned_164 : decode cX10_owned 164 = .ok (.ladd, 1) := by decide +kernel
theorem dX10_owned_165 : decode cX10_owned 165 = .ok (.lstore 5, 2) := by decide +kernel
theorem dX10_owned_167 : decode cX10_owned 167 = .ok (.lload 7, 2) := by decide +kernel
theorem dX10_owned_169 : decode cX10_owned 169 = .ok (.lload 14, 2) := by decide +kernel
theorem dX10_owned_171 : decode cX10_owned 171 = .ok (.lload 16, 2) := by decide +kernel
theorem dX10_owned_173 : decode cX10_owned 173 = .ok (.ldiv, 1) := by decide +kernel
theorem dX10_owned_174 : decode cX10_owned 174 = .ok (.lmul, 1) := by decide +kernel
theorem dX10_owned_175 : decode cX10_owned 175 = .ok (.lstore 7, 2) := by decide +kernel
theorem dX10_owned_177 : decode cX10_owned 177 = .ok (.iinc 9 1, 3) := by decide +kernel
theorem dX10_owned_180 : decode cX10_owned 180 = .ok (.goto (-118), 3) := by decide +kernel
theorem dX10_owned_183 : decode cX10_owned 183 = .ok (.lload 7, 2) := by decide +kernel
theorem dX10_owned_185 : decode cX10_owned 185 = .ok (.aload_n 0, 1) := by decide +kernel
theorem dX10_owned_186 : decode cX10_owned 186 = .ok (.getfield 28, 3) := by decide +kernel
theorem dX10_owned_189 : decode cX10_owned 189 = .ok (.iload_n 2, 1) := by decide +kernel
theorem dX10_owned_190 : decode cX10_owned 190 = .ok (.iaload, 1) := by decide +kernel
theorem dX10_owned_191 : decode cX10_owned 191 = .ok (.i2l, 1) := by decide +kernel
theorem dX10_owned_192 : decode cX10_owned 192 = .ok (.lmul, 1) := by decide +kernel
theorem dX10_owned_193 : decode cX10_owned 193 = .ok (.lstore 7, 2) := by decide +kernel
theorem dX10_owned_195 : decode cX10_owned 195 = .ok (.lload 5, 2) := by decide +kernel
theorem dX10_owned_197 : decode cX10_owned 197 = .ok (.lload 7, 2) := by decide +kernel
theorem dX10_owned_199 : decode cX10_owned 199 = .ok (.invokestatic 222, 3) := by decide +kernel
theorem dX10_owned_202 : decode cX10_owned 202 = .ok (.lstore 9, 2) := by decide +kernel
theorem dX10_owned_204 : decode cX10_owned 204 = .ok (.iload 4, 2) := by decide +kernel
theorem dX10_owned_206 : decode cX10_owned 206 = .ok (.ifCond .ne 8, 3) := by decide +kernel
theorem dX10_owned_209 : decode cX10_owned 209 = .ok (.lload 5, 2) := by decide +kernel
theorem dX10_owned_211 : decode cX10_owned 211 = .ok (.goto 5, 3) := by decide +kernel
theorem dX10_owned_214 : decode cX10_owned 214 = .ok (.lload 7, 2) := by decide +kernel
theorem dX10_owned_216 : decode cX10_owned 216 = .ok (.lload 9, 2) := by decide +kernel
theorem dX10_owned_218 : decode cX10_owned 218 = .ok (.ldiv, 1) := by decide +kernel
theorem dX10_owned_219 : decode cX10_owned 219 = .ok (.lreturn, 1) := by decide +kernel
theorem dX10_count_0 : decode cX10_count 0 = .ok (.aload_n 0, 1) := by decide +kernel
theorem dX10_count_1 : decode cX10_count 1 = .ok (.iconst 0, 1) := by decide +kernel
theorem dX10_count_2 : decode cX10_count 2 = .ok (.putfield 73, 3) := by decide +kernel
theorem dX10_count_5 : decode cX10_count 5 = .ok (.iload_n 1, 1) := by decide +kernel
theorem dX10_count_6 : decode cX10_count 6 = .ok (.tableswitch 68 0 5 #[38, 43, 48, 53, 58, 63], 38) := by decide +kernel
theorem dX10_count_44 : decode cX10_count 44 = .ok (.aload_n 0, 1) := by decide +kernel
theorem dX10_count_45 : decode cX10_count 45 = .ok (.getfield 182, 3) := by decide +kernel
theorem dX10_count_48 : decode cX10_count 48 = .ok (.ireturn, 1) := by decide +kernel
theorem dX10_count_49 : decode cX10_count 49 = .ok (.aload_n 0, 1) := by decide +kernel
theorem dX10_count_50 : decode cX10_count 50 = .ok (.getfield 163, 3) := by decide +kernel
theorem dX10_count_53 : decode cX10_count 53 = .ok (.ireturn, 1) := by decide +kernel
theorem dX10_count_54 : decode cX10_count 54 = .ok (.aload_n 0, 1) := by decide +kernel
theorem dX10_count_55 : decode cX10_count 55 = .ok (.getfield 166, 3) := by decide +kernel
theorem dX10_count_58 : decode cX10_count 58 = .ok (.ireturn, 1) := by decide +kernel
theorem dX10_count_59 : decode cX10_count 59 = .ok (.aload_n 0, 1) := by decide +kernel
theorem dX10_count_60 : decode cX10_count 60 = .ok (.getfield 169, 3) := by decide +kernel
theorem dX10_count_63 : decode cX10_count 63 = .ok (.ireturn, 1) := by decide +kernel
theorem dX10_count_64 : decode cX10_count 64 = .ok (.aload_n 0, 1) := by decide +kernel
theorem dX10_count_65 : decode cX10_count 65 = .ok (.getfield 204, 3) := by decide +kernel
theorem dX10_count_68 : decode cX10_count 68 = .ok (.ireturn, 1) := by decide +kernel
theorem dX10_count_69 : decode cX10_count 69 = .ok (.aload_n 0, 1) := by decide +kernel
theorem dX10_count_70 : decode cX10_count 70 = .ok (.getfield 77, 3) := by decide +kernel
theorem dX10_count_73 : decode cX10_count 73 = .ok (.ireturn, 1) := by decide +kernel
theorem dX10_count_74 : decode cX10_count 74 = .ok (.iconst (-1), 1) := by decide +kernel
theorem dX10_count_75 : decode cX10_count 75 = .ok (.ireturn, 1) := by decide +kernel
theorem dJ9_max_7cf53_0 : decode cJ9_max_7cf53 0 = .ok (.iload_n 0, 1) := by decide +kernel
theorem dJ9_max_7cf53_1 : decode cJ9_max_7cf53 1 = .ok (.iload_n 1, 1) := by decide +kernel
theorem dJ9_max_7cf53_2 : decode cJ9_max_7cf53 2 = .ok (.if_icmp .lt 7, 3) := by decide +kernel
theorem dJ9_max_7cf53_5 : decode cJ9_max_7cf53 5 = .ok (.iload_n 0, 1) := by decide +kernel
theorem dJ9_max_7cf53_6 : decode cJ9_max_7cf53 6 = .ok (.goto 4, 3) := by decide +kernel
theorem dJ9_max_7cf53_9 : decode cJ9_max_7cf53 9 = .ok (.iload_n 1, 1) := by decide +kernel
theorem dJ9_max_7cf53_10 : decode cJ9_max_7cf53 10 = .ok (.ireturn, 1) := by decide +kernel
theorem dJ9_min_7cf53_0 : decode cJ9_min_7cf53 0 = .ok (.iload_n 0, 1) := by decide +kernel
theorem dJ9_min_7cf53_1 : decode cJ9_min_7cf53 1 = .ok (.iload_n 1, 1) := by decide +kernel
theorem dJ9_min_7cf53_2 : decode cJ9_min_7cf53 2 = .ok (.if_icmp .gt 7, 3) := by decide +kernel
theorem dJ9_min_7cf53_5 : decode cJ9_min_7cf53 5 = .ok (.iload_n 0, 1) := by decide +kernel
theorem dJ9_min_7cf53_6 : decode cJ9_min_7cf53 6 = .ok (.goto 4, 3) := by decide +kernel
theorem dJ9_min_7cf53_9 : decode cJ9_min_7cf53 9 = .ok (.iload_n 1, 1) := by decide +kernel
theorem dJ9_min_7cf53_10 : decode cJ9_min_7cf53 10 = .ok (.ireturn, 1) := by decide +kernel
theorem dJ0_length_8abf5_0 : decode cJ0_length_8abf5 0 = .ok (.aload_n 0, 1) := by decide +kernel
theorem dJ0_length_8abf5_1 : decode cJ0_length_8abf5 1 = .ok (.getfield 9, 3) := by decide +kernel
theorem dJ0_length_8abf5_4 : decode cJ0_length_8abf5 4 = .ok (.arraylength, 1) := by decide +kernel
theorem dJ0_length_8abf5_5 : decode cJ0_length_8abf5 5 = .ok (.aload_n 0, 1) := by decide +kernel
theorem dJ0_length_8abf5_6 : decode cJ0_length_8abf5 6 = .ok (.invokevirtual 335, 3) := by decide +kernel
theorem dJ0_length_8abf5_9 : decode cJ0_length_8abf5 9 = .ok (.ishr, 1) := by decide +kernel
theorem dJ0_length_8abf5_10 : decode cJ0_length_8abf5 10 = .ok (.ireturn, 1) := by decide +kernel
theorem dJ0_charAt_5068e_0 : decode cJ0_charAt_5068e 0 = .ok (.aload_n 0, 1) := by decide +kernel
theorem dJ0_charAt_5068e_1 : decode cJ0_charAt_5068e 1 = .ok (.invokevirtual 492, 3) := by decide +kernel
theorem dJ0_charAt_5068e_4 : decode cJ0_charAt_5068e 4 = .ok (.ifCond .eq 12, 3) := by decide +kernel
theorem dJ0_charAt_5068e_7 : decode cJ0_charAt_5068e 7 = .ok (.aload_n 0, 1) := by decide +kernel
theorem dJ0_charAt_5068e_8 : decode cJ0_charAt_5068e 8 = .ok (.getfield 9, 3) := by decide +kernel
theorem dJ0_charAt_5068e_11 : decode cJ0_charAt_5068e 11 = .ok (.iload_n 1, 1) := by decide +kernel
theorem dJ0_charAt_5068e_12 : decode cJ0_charAt_5068e 12 = .ok (.invokestatic 495, 3) := by decide +kernel
theorem dJ0_charAt_5068e_15 : decode cJ0_charAt_5068e 15 = .ok (.ireturn, 1) := by decide +kernel
theorem dJ0_charAt_5068e_16 : decode cJ0_charAt_5068e 16 = .ok (.aload_n 0, 1) := by decide +kernel
theorem dJ0_charAt_5068e_17 : decode cJ0_charAt_5068e 17 = .ok (.getfield 9, 3) := by decide +kernel
theorem dJ0_charAt_5068e_20 : decode cJ0_charAt_5068e 20 = .ok (.iload_n 1, 1) := by decide +kernel
theorem dJ0_charAt_5068e_21 : decode cJ0_charAt_5068e 21 = .ok (.invokestatic 498, 3) := by decide +kernel
theorem dJ0_charAt_5068e_24 : decode cJ0_charAt_5068e 24 = .ok (.ireturn, 1) := by decide +kernel
theorem dJ0_coder_7d493_0 : decode cJ0_coder_7d493 0 = .ok (.getstatic 38, 3) := by decide +kernel
theorem dJ0_coder_7d493_3 : decode cJ0_coder_7d493 3 = .ok (.ifCond .eq 10, 3) := by decide +kernel
theorem dJ0_coder_7d493_6 : decode cJ0_coder_7d493 6 = .ok (.aload_n 0, 1) := by decide +kernel
theorem dJ0_coder_7d493_7 : decode cJ0_coder_7d493 7 = .ok (.getfield 15, 3) := by decide +kernel
theorem dJ0_coder_7d493_10 : decode cJ0_coder_7d493 10 = .ok (.goto 4, 3) := by decide +kernel
theorem dJ0_coder_7d493_13 : decode cJ0_coder_7d493 13 = .ok (.iconst 1, 1) := by decide +kernel
theorem dJ0_coder_7d493_14 : decode cJ0_coder_7d493 14 = .ok (.ireturn, 1) := by decide +kernel
theorem dJ0_isLatin1_aae02_0 : decode cJ0_isLatin1_aae02 0 = .ok (.getstatic 38, 3) := by decide +kernel
theorem dJ0_isLatin1_aae02_3 : decode cJ0_isLatin1_aae02 3 = .ok (.ifCond .eq 14, 3) := by decide +kernel
theorem dJ0_isLatin1_aae02_6 : decode cJ0_isLatin1_aae02 6 = .ok (.aload_n 0, 1) := by decide +kernel
theorem dJ0_isLatin1_aae02_7 : decode cJ0_isLatin1_aae02 7 = .ok (.getfield 15, 3) := by decide +kernel
theorem dJ0_isLatin1_aae02_10 : decode cJ0_isLatin1_aae02 10 = .ok (.ifCond .ne 7, 3) := by decide +kernel
theorem dJ0_isLatin1_aae02_13 : decode cJ0_isLatin1_aae02 13 = .ok (.iconst 1, 1) := by decide +kernel
theorem dJ0_isLatin1_aae02_14 : decode cJ0_isLatin1_aae02 14 = .ok (.goto 4, 3) := by decide +kernel
theorem dJ0_isLatin1_aae02_17 : decode cJ0_isLatin1_aae02 17 = .ok (.iconst 0, 1) := by decide +kernel
theorem dJ0_isLatin1_aae02_18 : decode cJ0_isLatin1_aae02 18 = .ok (.ireturn, 1) := by decide +kernel
theorem dJ0_checkIndex_df160_0 : decode cJ0_checkIndex_df160 0 = .ok (.iload_n 0, 1) := by decide +kernel
theorem dJ0_checkIndex_df160_1 : decode cJ0_checkIndex_df160 1 = .ok (.iload_n 1, 1) := by decide +kernel
theorem dJ0_checkIndex_df160_2 : decode cJ0_checkIndex_df160 2 = .ok (.getstatic 1053, 3) := by decide +kernel
theorem dJ0_checkIndex_df160_5 : decode cJ0_checkIndex_df160 5 = .ok (.invokestatic 1059, 3) := by decide +kernel
theorem dJ0_checkIndex_df160_8 : decode cJ0_checkIndex_df160 8 = .ok (.pop, 1) := by decide +kernel
theorem dJ0_checkIndex_df160_9 : decode cJ0_checkIndex_df160 9 = .ok (.return_, 1) := by decide +kernel
theorem dJ1_charAt_3b067_0 : decode cJ1_charAt_3b067 0 = .ok (.iload_n 1, 1) := by decide +kernel
theorem dJ1_charAt_3b067_1 : decode cJ1_charAt_3b067 1 = .ok (.aload_n 0, 1) := by decide +kernel
theorem dJ1_charAt_3b067_2 : decode cJ1_charAt_3b067 2 = .ok (.arraylength, 1) := by decide +kernel
theorem dJ1_charAt_3b067_3 : decode cJ1_charAt_3b067 3 = .ok (.invokestatic 9, 3) := by decide +kernel
theorem dJ1_charAt_3b067_6 : decode cJ1_charAt_3b067 6 = .ok (.aload_n 0, 1) := by decide +kernel
theorem dJ1_charAt_3b067_7 : decode cJ1_charAt_3b067 7 = .ok (.iload_n 1, 1) := by decide +kernel
theorem dJ1_charAt_3b067_8 : decode cJ1_charAt_3b067 8 = .ok (.baload, 1) := by decide +kernel
theorem dJ1_charAt_3b067_9 : decode cJ1_charAt_3b067 9 = .ok (.sipush 255, 3) := by decide +kernel
theorem dJ1_charAt_3b067_12 : decode cJ1_charAt_3b067 12 = .ok (.iand, 1) := by decide +kernel
theorem dJ1_charAt_3b067_13 : decode cJ1_charAt_3b067 13 = .ok (.i2c, 1) := by decide +kernel
theorem dJ1_charAt_3b067_14 : decode cJ1_charAt_3b067 14 = .ok (.ireturn, 1) := by decide +kernel
theorem dJ2_getChar_3b067_0 : decode cJ2_getChar_3b067 0 = .ok (.getstatic 44, 3) := by decide +kernel
theorem dJ2_getChar_3b067_3 : decode cJ2_getChar_3b067 3 = .ok (.ifCond .ne 25, 3) := by decide +kernel
theorem dJ2_getChar_3b067_6 : decode cJ2_getChar_3b067 6 = .ok (.iload_n 1, 1) := by decide +kernel
theorem dJ2_getChar_3b067_7 : decode cJ2_getChar_3b067 7 = .ok (.ifCond .lt 11, 3) := by decide +kernel
theorem dJ2_getChar_3b067_10 : decode cJ2_getChar_3b067 10 = .ok (.iload_n 1, 1) := by decide +kernel
theorem dJ2_getChar_3b067_11 : decode cJ2_getChar_3b067 11 = .ok (.aload_n 0, 1) := by decide +kernel
theorem dJ2_getChar_3b067_12 : decode cJ2_getChar_3b067 12 = .ok (.invokestatic 48, 3) := by decide +kernel
theorem dJ2_getChar_3b067_15 : decode cJ2_getChar_3b067 15 = .ok (.if_icmp .lt 13, 3) := by decide +kernel
theorem dJ2_getChar_3b067_18 : decode cJ2_getChar_3b067 18 = .ok (.new 52, 3) := by decide +kernel
theorem dJ2_getChar_3b067_21 : decode cJ2_getChar_3b067 21 = .ok (.dup, 1) := by decide +kernel
theorem dJ2_getChar_3b067_22 : decode cJ2_getChar_3b067 22 = .ok (.ldc 54, 2) := by decide +kernel
theorem dJ2_getChar_3b067_24 : decode cJ2_getChar_3b067 24 = .ok (.invokespecial 56, 3) := by decide +kernel
theorem dJ2_getChar_3b067_27 : decode cJ2_getChar_3b067 27 = .ok (.athrow, 1) := by decide +kernel
theorem dJ2_getChar_3b067_28 : decode cJ2_getChar_3b067 28 = .ok (.iload_n 1, 1) := by decide +kernel
theorem dJ2_getChar_3b067_29 : decode cJ2_getChar_3b067 29 = .ok (.iconst 1, 1) := by decide +kernel
theorem dJ2_getChar_3b067_30 : decode cJ2_getChar_3b067 30 = .ok (.ishl, 1) := by decide +kernel
theorem dJ2_getChar_3b067_31 : decode cJ2_getChar_3b067 31 = .ok (.istore_n 1, 1) := by decide +kernel
theorem dJ2_getChar_3b067_32 : decode cJ2_getChar_3b067 32 = .ok (.aload_n 0, 1) := by decide +kernel
theorem dJ2_getChar_3b067_33 : decode cJ2_getChar_3b067 33 = .ok (.iload_n 1, 1) := by decide +kernel
theorem dJ2_getChar_3b067_34 : decode cJ2_getChar_3b067 34 = .ok (.iinc 1 1, 3) := by decide +kernel
theorem dJ2_getChar_3b067_37 : decode cJ2_getChar_3b067 37 = .ok (.baload, 1) := by decide +kernel
theorem dJ2_getChar_3b067_38 : decode cJ2_getChar_3b067 38 = .ok (.sipush 255, 3) := by decide +kernel
theorem dJ2_getChar_3b067_41 : decode cJ2_getChar_3b067 41 = .ok (.iand, 1) := by decide +kernel
theorem dJ2_getChar_3b067_42 : decode cJ2_getChar_3b067 42 = .ok (.getstatic 59, 3) := by decide +kernel
theorem dJ2_getChar_3b067_45 : decode cJ2_getChar_3b067 45 = .ok (.ishl, 1) := by decide +kernel
theorem dJ2_getChar_3b067_46 : decode cJ2_getChar_3b067 46 = .ok (.aload_n 0, 1) := by decide +kernel
theorem dJ2_getChar_3b067_47 : decode cJ2_getChar_3b067 47 = .ok (.iload_n 1, 1) := by decide +kernel
theorem dJ2_getChar_3b067_48 : decode cJ2_getChar_3b067 48 = .ok (.baload, 1) := by decide +kernel
theorem dJ2_getChar_3b067_49 : decode cJ2_getChar_3b067 49 = .ok (.sipush 255, 3) := by decide +kernel
theorem dJ2_getChar_3b067_52 : decode cJ2_getChar_3b067 52 = .ok (.iand, 1) := by decide +kernel
theorem dJ2_getChar_3b067_53 : decode cJ2_getChar_3b067 53 = .ok (.getstatic 63, 3) := by decide +kernel
theorem dJ2_getChar_3b067_56 : decode cJ2_getChar_3b067 56 = .ok (.ishl, 1) := by decide +kernel
theorem dJ2_getChar_3b067_57 : decode cJ2_getChar_3b067 57 = .ok (.ior, 1) := by decide +kernel
theorem dJ2_getChar_3b067_58 : decode cJ2_getChar_3b067 58 = .ok (.i2c, 1) := by decide +kernel
theorem dJ2_getChar_3b067_59 : decode cJ2_getChar_3b067 59 = .ok (.ireturn, 1) := by decide +kernel
theorem dJ2_length_9d52b_0 : decode cJ2_length_9d52b 0 = .ok (.aload_n 0, 1) := by decide +kernel
theorem dJ2_length_9d52b_1 : decode cJ2_length_9d52b 1 = .ok (.arraylength, 1) := by decide +kernel
theorem dJ2_length_9d52b_2 : decode cJ2_length_9d52b 2 = .ok (.iconst 1, 1) := by decide +kernel
theorem dJ2_length_9d52b_3 : decode cJ2_length_9d52b 3 = .ok (.ishr, 1) := by decide +kernel
theorem dJ2_length_9d52b_4 : decode cJ2_length_9d52b 4 = .ok (.ireturn, 1) := by decide +kernel
theorem dJ2_charAt_3b067_0 : decode cJ2_charAt_3b067 0 = .ok (.iload_n 1, 1) := by decide +kernel
theorem dJ2_charAt_3b067_1 : decode cJ2_charAt_3b067 1 = .ok (.aload_n 0, 1) := by decide +kernel
theorem dJ2_charAt_3b067_2 : decode cJ2_charAt_3b067 2 = .ok (.invokestatic 67, 3) := by decide +kernel
theorem dJ2_charAt_3b067_5 : decode cJ2_charAt_3b067 5 = .ok (.aload_n 0, 1) := by decide +kernel
theorem dJ2_charAt_3b067_6 : decode cJ2_charAt_3b067 6 = .ok (.iload_n 1, 1) := by decide +kernel
theorem dJ2_charAt_3b067_7 : decode cJ2_charAt_3b067 7 = .ok (.invokestatic 71, 3) := by decide +kernel
theorem dJ2_charAt_3b067_10 : decode cJ2_charAt_3b067 10 = .ok (.ireturn, 1) := by decide +kernel
theorem dJ2_checkIndex_2214a_0 : decode cJ2_checkIndex_2214a 0 = .ok (.iload_n 0, 1) := by decide +kernel
theorem dJ2_checkIndex_2214a_1 : decode cJ2_checkIndex_2214a 1 = .ok (.aload_n 1, 1) := by decide +kernel
theorem dJ2_checkIndex_2214a_2 : decode cJ2_checkIndex_2214a 2 = .ok (.invokestatic 48, 3) := by decide +kernel
theorem dJ2_checkIndex_2214a_5 : decode cJ2_checkIndex_2214a 5 = .ok (.invokestatic 414, 3) := by decide +kernel
theorem dJ2_checkIndex_2214a_8 : decode cJ2_checkIndex_2214a 8 = .ok (.return_, 1) := by decide +kernel
theorem dJ3_checkIndex_8e157_0 : decode cJ3_checkIndex_8e157 0 = .ok (.iload_n 0, 1) := by decide +kernel
theorem dJ3_checkIndex_8e157_1 : decode cJ3_checkIndex_8e157 1 = .ok (.ifCond .lt 8, 3) := by decide +kernel
theorem dJ3_checkIndex_8e157_4 : decode cJ3_checkIndex_8e157 4 = .ok (.iload_n 0, 1) := by decide +kernel
theorem dJ3_checkIndex_8e157_5 : decode cJ3_checkIndex_8e157 5 = .ok (.iload_n 1, 1) := by decide +kernel
theorem dJ3_checkIndex_8e157_6 : decode cJ3_checkIndex_8e157 6 = .ok (.if_icmp .lt 10, 3) := by decide +kernel
theorem dJ3_checkIndex_8e157_9 : decode cJ3_checkIndex_8e157 9 = .ok (.aload_n 2, 1) := by decide +kernel
theorem dJ3_checkIndex_8e157_10 : decode cJ3_checkIndex_8e157 10 = .ok (.iload_n 0, 1) := by decide +kernel
theorem dJ3_checkIndex_8e157_11 : decode cJ3_checkIndex_8e157 11 = .ok (.iload_n 1, 1) := by decide +kernel
theorem dJ3_checkIndex_8e157_12 : decode cJ3_checkIndex_8e157 12 = .ok (.invokestatic 95, 3) := by decide +kernel
theorem dJ3_checkIndex_8e157_15 : decode cJ3_checkIndex_8e157 15 = .ok (.athrow, 1) := by decide +kernel
theorem dJ3_checkIndex_8e157_16 : decode cJ3_checkIndex_8e157 16 = .ok (.iload_n 0, 1) := by decide +kernel
theorem dJ3_checkIndex_8e157_17 : decode cJ3_checkIndex_8e157 17 = .ok (.ireturn, 1) := by decide +kernel
theorem dL_purse_0 : decode cL_purse 0 = .ok (.aload_n 3, 1) := by decide +kernel
theorem dL_purse_1 : decode cL_purse 1 = .ok (.iconst 0, 1) := by decide +kernel
theorem dL_purse_2 : decode cL_purse 2 = .ok (.aload_n 0, 1) := by decide +kernel
theorem dL_purse_3 : decode cL_purse 3 = .ok (.iload_n 1, 1) := by decide +kernel
theorem dL_purse_4 : decode cL_purse 4 = .ok (.iload_n 2, 1) := by decide +kernel
theorem dL_purse_5 : decode cL_purse 5 = .ok (.invokevirtual 7, 3) := by decide +kernel
theorem dL_purse_8 : decode cL_purse 8 = .ok (.i2l, 1) := by decide +kernel
theorem dL_purse_9 : decode cL_purse 9 = .ok (.lastore, 1) := by decide +kernel
theorem dL_purse_10 : decode cL_purse 10 = .ok (.goto 7, 3) := by decide +kernel
theorem dL_purse_13 : decode cL_purse 13 = .ok (.astore 4, 2) := by decide +kernel
theorem dL_purse_15 : decode cL_purse 15 = .ok (.iconst 1, 1) := by decide +kernel
theorem dL_purse_16 : decode cL_purse 16 = .ok (.ireturn, 1) := by decide +kernel
theorem dL_purse_17 : decode cL_purse 17 = .ok (.iconst 0, 1) := by decide +kernel
theorem dL_purse_18 : decode cL_purse 18 = .ok (.ireturn, 1) := by decide +kernel
theorem dL_owned_0 : decode cL_owned 0 = .ok (.aload 5, 2) := by decide +kernel
theorem dL_owned_2 : decode cL_owned 2 = .ok (.iconst 0, 1) := by decide +kernel
theorem dL_owned_3 : decode cL_owned 3 = .ok (.aload_n 0, 1) := by decide +kernel
theorem dL_owned_4 : decode cL_owned 4 = .ok (.iload_n 1, 1) := by decide +kernel
theorem dL_owned_5 : decode cL_owned 5 = .ok (.iload_n 2, 1) := by decide +kernel
theorem dL_owned_6 : decode cL_owned 6 = .ok (.iload_n 3, 1) := by decide +kernel
theorem dL_owned_7 : decode cL_owned 7 = .ok (.iload 4, 2) := by decide +kernel
theorem dL_owned_9 : decode cL_owned 9 = .ok (.invokevirtual 15, 3) := by decide +kernel
theorem dL_owned_12 : decode cL_owned 12 = .ok (.lastore, 1) := by decide +kernel
theorem dL_owned_13 : decode cL_owned 13 = .ok (.goto 7, 3) := by decide +kernel
theorem dL_owned_16 : decode cL_owned 16 = .ok (.astore 6, 2) := by decide +kernel
theorem dL_owned_18 : decode cL_owned 18 = .ok (.iconst 1, 1) := by decide +kernel
theorem dL_owned_19 : decode cL_owned 19 = .ok (.ireturn, 1) := by decide +kernel
theorem dL_owned_20 : decode cL_owned 20 = .ok (.iconst 0, 1) := by decide +kernel
theorem dL_owned_21 : decode cL_owned 21 = .ok (.ireturn, 1) := by decide +kernel
theorem dL_law_0 : decode cL_law 0 = .ok (.new 8, 3) := by decide +kernel
theorem dL_law_3 : decode cL_law 3 = .ok (.dup, 1) := by decide +kernel
theorem dL_law_4 : decode cL_law 4 = .ok (.invokespecial 19, 3) := by decide +kernel
theorem dL_law_7 : decode cL_law 7 = .ok (.astore_n 1, 1) := by decide +kernel
theorem dL_law_8 : decode cL_law 8 = .ok (.new 20, 3) := by decide +kernel
theorem dL_law_11 : decode cL_law 11 = .ok (.dup, 1) := by decide +kernel
theorem dL_law_12 : decode cL_law 12 = .ok (.invokespecial 22, 3) := by decide +kernel
theorem dL_law_15 : decode cL_law 15 = .ok (.astore_n 2, 1) := by decide +kernel
theorem dL_law_16 : decode cL_law 16 = .ok (.iconst 1, 1) := by decide +kernel
theorem dL_law_17 : decode cL_law 17 = .ok (.newarray .long, 2) := by decide +kernel
theorem dL_law_19 : decode cL_law 19 = .ok (.astore_n 3, 1) := by decide +kernel
theorem dL_law_20 : decode cL_law 20 = .ok (.iconst 0, 1) := by decide +kernel
theorem dL_law_21 : decode cL_law 21 = .ok (.istore 4, 2) := by decide +kernel
theorem dL_law_23 : decode cL_law 23 = .ok (.iload 4, 2) := by decide +kernel
theorem dL_law_25 : decode cL_law 25 = .ok (.aload_n 0, 1) := by decide +kernel
theorem dL_law_26 : decode cL_law 26 = .ok (.arraylength, 1) := by decide +kernel
theorem dL_law_27 : decode cL_law 27 = .ok (.bipush 6, 2) := by decide +kernel
theorem dL_law_29 : decode cL_law 29 = .ok (.isub, 1) := by decide +kernel
theorem dL_law_30 : decode cL_law 30 = .ok (.if_icmp .gt 795, 3) := by decide +kernel
theorem dL_law_33 : decode cL_law 33 = .ok (.aload_n 0, 1) := by decide +kernel
theorem dL_law_34 : decode cL_law 34 = .ok (.iload 4, 2) := by decide +kernel
theorem dL_law_36 : decode cL_law 36 = .ok (.iaload, 1) := by decide +kernel
theorem dL_law_37 : decode cL_law 37 = .ok (.bipush 31, 2) := by decide +kernel
theorem dL_law_39 : decode cL_law 39 = .ok (.iand, 1) := by decide +kernel
theorem dL_law_40 : decode cL_law 40 = .ok (.tableswitch 779 0 17 #[88, 161, 186, 199, 212, 237, 274, 299, 324, 373, 422, 435, 472, 509, 577, 626, 663, 754], 88) := by decide +kernel
theorem dL_law_128 : decode cL_law 128 = .ok (.aload_n 1, 1) := by decide +kernel
theorem dL_law_129 : decode cL_law 129 = .ok (.aload_n 0, 1) := by decide +kernel
theorem dL_law_130 : decode cL_law 130 = .ok (.iload 4, 2) := by decide +kernel
theorem dL_law_132 : decode cL_law 132 = .ok (.iconst 1, 1) := by decide +kernel
theorem dL_law_133 : decode cL_law 133 = .ok (.iadd, 1) := by decide +kernel
theorem dL_law_134 : decode cL_law 134 = .ok (.iaload, 1) := by decide +kernel
theorem dL_law_135 : decode cL_law 135 = .ok (.aload_n 0, 1) := by decide +kernel
theorem dL_law_136 : decode cL_law 136 = .ok (.iload 4, 2) := by decide +kernel
theorem dL_law_138 : decode cL_law 138 = .ok (.iconst 2, 1) := by decide +kernel
theorem dL_law_139 : decode cL_law 139 = .ok (.iadd, 1) := by decide +kernel
theorem dL_law_140 : decode cL_law 140 = .ok (.iaload, 1) := by decide +kernel
theorem dL_law_141 : decode cL_law 141 = .ok (.aload_n 0, 1) := by decide +kernel
theorem dL_law_142 : decode cL_law 142 = .ok (.iload 4, 2) := by decide +kernel
theorem dL_law_144 : decode cL_law 144 = .ok (.iconst 3, 1) := by decide +kernel
theorem dL_law_145 : decode cL_law 145 = .ok (.iadd, 1) := by decide +kernel
theorem dL_law_146 : decode cL_law 146 = .ok (.iaload, 1) := by decide +kernel
theorem dL_law_147 : decode cL_law 147 = .ok (.aload_n 0, 1) := by decide +kernel
theorem dL_law_148 : decode cL_law 148 = .ok (.iload 4, 2) := by decide +kernel
theorem dL_law_150 : decode cL_law 150 = .ok (.iconst 4, 1) := by decide +kernel
theorem dL_law_151 : decode cL_law 151 = .ok (.iadd, 1) := by decide +kernel
theorem dL_law_152 : decode cL_law 152 = .ok (.iaload, 1) := by decide +kernel
theorem dL_law_153 : decode cL_law 153 = .ok (.aload_n 0, 1) := by decide +kernel
theorem dL_law_154 : decode cL_law 154 = .ok (.iload 4, 2) := by decide +kernel
theorem dL_law_156 : decode cL_law 156 = .ok (.iconst 5, 1) := by decide +kernel
theorem dL_law_157 : decode cL_law 157 = .ok (.iadd, 1) := by decide +kernel
theorem dL_law_158 : decode cL_law 158 = .ok (.iaload, 1) := by decide +kernel
theorem dL_law_159 : decode cL_law 159 = .ok (.invokevirtual 23, 3) := by decide +kernel
theorem dL_law_162 : decode cL_law 162 = .ok (.aload_n 2, 1) := by decide +kernel
theorem dL_law_163 : decode cL_law 163 = .ok (.aload_n 0, 1) := by decide +kernel
theorem dL_law_164 : decode cL_law 164 = .ok (.iload 4, 2) := by decide +kernel
theorem dL_law_166 : decode cL_law 166 = .ok (.iconst 1, 1) := by decide +kernel
theorem dL_law_167 : decode cL_law 167 = .ok (.iadd, 1) := by decide +kernel
theorem dL_law_168 : decode cL_law 168 = .ok (.iaload, 1) := by decide +kernel
theorem dL_law_169 : decode cL_law 169 = .ok (.aload_n 0, 1) := by decide +kernel
theorem dL_law_170 : decode cL_law 170 = .ok (.iload 4, 2) := by decide +kernel
theorem dL_law_172 : decode cL_law 172 = .ok (.iconst 2, 1) := by decide +kernel
theorem dL_law_173 : decode cL_law 173 = .ok (.iadd, 1) := by decide +kernel
theorem dL_law_174 : decode cL_law 174 = .ok (.iaload, 1) := by decide +kernel
theorem dL_law_175 : decode cL_law 175 = .ok (.aload_n 0, 1) := by decide +kernel
theorem dL_law_176 : decode cL_law 176 = .ok (.iload 4, 2) := by decide +kernel
theorem dL_law_178 : decode cL_law 178 = .ok (.iconst 3, 1) := by decide +kernel
theorem dL_law_179 : decode cL_law 179 = .ok (.iadd, 1) := by decide +kernel
theorem dL_law_180 : decode cL_law 180 = .ok (.iaload, 1) := by decide +kernel
theorem dL_law_181 : decode cL_law 181 = .ok (.aload_n 0, 1) := by decide +kernel
theorem dL_law_182 : decode cL_law 182 = .ok (.iload 4, 2) := by decide +kernel
theorem dL_law_184 : decode cL_law 184 = .ok (.iconst 4, 1) := by decide +kernel
theorem dL_law_185 : decode cL_law 185 = .ok (.iadd, 1) := by decide +kernel
theorem dL_law_186 : decode cL_law 186 = .ok (.iaload, 1) := by decide +kernel
theorem dL_law_187 : decode cL_law 187 = .ok (.aload_n 0, 1) := by decide +kernel
theorem dL_law_188 : decode cL_law 188 = .ok (.iload 4, 2) := by decide +kernel
theorem dL_law_190 : decode cL_law 190 = .ok (.iconst 5, 1) := by decide +kernel
theorem dL_law_191 : decode cL_law 191 = .ok (.iadd, 1) := by decide +kernel
theorem dL_law_192 : decode cL_law 192 = .ok (.iaload, 1) := by decide +kernel
theorem dL_law_193 : decode cL_law 193 = .ok (.invokevirtual 27, 3) := by decide +kernel
theorem dL_law_196 : decode cL_law 196 = .ok (.if_icmp .eq 623, 3) := by decide +kernel
theorem dL_law_199 : decode cL_law 199 = .ok (.iconst 0, 1) := by decide +kernel
theorem dL_law_200 : decode cL_law 200 = .ok (.ireturn, 1) := by decide +kernel
theorem dL_law_201 : decode cL_law 201 = .ok (.aload_n 1, 1) := by decide +kernel
theorem dL_law_202 : decode cL_law 202 = .ok (.aload_n 0, 1) := by decide +kernel
theorem dL_law_203 : decode cL_law 203 = .ok (.iload 4, 2) := by decide +kernel
theorem dL_law_205 : decode cL_law 205 = .ok (.iconst 1, 1) := by decide +kernel
theorem dL_law_206 : decode cL_law 206 = .ok (.iadd, 1) := by decide +kernel
theorem dL_law_207 : decode cL_law 207 = .ok (.iaload, 1) := by decide +kernel
theorem dL_law_208 : decode cL_law 208 = .ok (.invokevirtual 28, 3) := by decide +kernel
theorem dL_law_211 : decode cL_law 211 = .ok (.aload_n 2, 1) := by decide +kernel
theorem dL_law_212 : decode cL_law 212 = .ok (.aload_n 0, 1) := by decide +kernel
theorem dL_law_213 : decode cL_law 213 = .ok (.iload 4, 2) := by decide +kernel
theorem dL_law_215 : decode cL_law 215 = .ok (.iconst 1, 1) := by decide +kernel
theorem dL_law_216 : decode cL_law 216 = .ok (.iadd, 1) := by decide +kernel
theorem dL_law_217 : decode cL_law 217 = .ok (.iaload, 1) := by decide +kernel
theorem dL_law_218 : decode cL_law 218 = .ok (.invokevirtual 32, 3) := by decide +kernel
theorem dL_law_221 : decode cL_law 221 = .ok (.if_icmp .eq 598, 3) := by decide +kernel
theorem dL_law_224 : decode cL_law 224 = .ok (.iconst 0, 1) := by decide +kernel
theorem dL_law_225 : decode cL_law 225 = .ok (.ireturn, 1) := by decide +kernel
theorem dL_law_226 : decode cL_law 226 = .ok (.aload_n 1, 1) := by decide +kernel
theorem dL_law_227 : decode cL_law 227 = .ok (.invokevirtual 33, 3) := by decide +kernel
theorem dL_law_230 : decode cL_law 230 = .ok (.aload_n 2, 1) := by decide +kernel
theorem dL_law_231 : decode cL_law 231 = .ok (.invokevirtual 37, 3) := by decide +kernel
theorem dL_law_234 : decode cL_law 234 = .ok (.if_icmp .eq 585, 3) := by decide +kernel
theorem dL_law_237 : decode cL_law 237 = .ok (.iconst 0, 1) := by decide +kernel
theorem dL_law_238 : decode cL_law 238 = .ok (.ireturn, 1) := by decide +kernel
theorem dL_law_239 : decode cL_law 239 = .ok (.aload_n 1, 1) := by decide +kernel
theorem dL_law_240 : decode cL_law 240 = .ok (.invokevirtual 38, 3) := by decide +kernel
theorem dL_law_243 : decode cL_law 243 = .ok (.aload_n 2, 1) := by decide +kernel
theorem dL_law_244 : decode cL_law 244 = .ok (.invokevirtual 41, 3) := by decide +kernel
theorem dL_law_247 : decode cL_law 247 = .ok (.if_icmp .eq 572, 3) := by decide +kernel
theorem dL_law_250 : decode cL_law 250 = .ok (.iconst 0, 1) := by decide +kernel
theorem dL_law_251 : decode cL_law 251 = .ok (.ireturn, 1) := by decide +kernel
theorem dL_law_252 : decode cL_law 252 = .ok (.aload_n 1, 1) := by decide +kernel
theorem dL_law_253 : decode cL_law 253 = .ok (.aload_n 0, 1) := by decide +kernel
theorem dL_law_254 : decode cL_law 254 = .ok (.iload 4, 2) := by decide +kernel
theorem dL_law_256 : decode cL_law 256 = .ok (.iconst 1, 1) := by decide +kernel
theorem dL_law_257 : decode cL_law 257 = .ok (.iadd, 1) := by decide +kernel
theorem dL_law_258 : decode cL_law 258 = .ok (.iaload, 1) := by decide +kernel
theorem dL_law_259 : decode cL_law 259 = .ok (.invokevirtual 42, 3) := by decide +kernel
theorem dL_law_262 : decode cL_law 262 = .ok (.aload_n 2, 1) := by decide +kernel
theorem dL_law_263 : decode cL_law 263 = .ok (.aload_n 0, 1) := by decide +kernel
theorem dL_law_264 : decode cL_law 264 = .ok (.iload 4, 2) := by decide +kernel
theorem dL_law_266 : decode cL_law 266 = .ok (.iconst 1, 1) := by decide +kernel
theorem dL_law_267 : decode cL_law 267 = .ok (.iadd, 1) := by decide +kernel
theorem dL_law_268 : decode cL_law 268 = .ok (.iaload, 1) := by decide +kernel
theorem dL_law_269 : decode cL_law 269 = .ok (.invokevirtual 46, 3) := by decide +kernel
theorem dL_law_272 : decode cL_law 272 = .ok (.if_icmp .eq 547, 3) := by decide +kernel
theorem dL_law_275 : decode cL_law 275 = .ok (.iconst 0, 1) := by decide +kernel
theorem dL_law_276 : decode cL_law 276 = .ok (.ireturn, 1) := by decide +kernel
theorem dL_law_277 : decode cL_law 277 = .ok (.aload_n 1, 1) := by decide +kernel
theorem dL_law_278 : decode cL_law 278 = .ok (.aload_n 0, 1) := by decide +kernel
theorem dL_law_279 : decode cL_law 279 = .ok (.iload 4, 2) := by decide +kernel
theorem dL_law_281 : decode cL_law 281 = .ok (.iconst 1, 1) := by decide +kernel
theorem dL_law_282 : decode cL_law 282 = .ok (.iadd, 1) := by decide +kernel
theorem dL_law_283 : decode cL_law 283 = .ok (.iaload, 1) := by decide +kernel
theorem dL_law_284 : decode cL_law 284 = .ok (.aload_n 0, 1) := by decide +kernel
theorem dL_law_285 : decode cL_law 285 = .ok (.iload 4, 2) := by decide +kernel
theorem dL_law_287 : decode cL_law 287 = .ok (.iconst 2, 1) := by decide +kernel
theorem dL_law_288 : decode cL_law 288 = .ok (.iadd, 1) := by decide +kernel
theorem dL_law_289 : decode cL_law 289 = .ok (.iaload, 1) := by decide +kernel
theorem dL_law_290 : decode cL_law 290 = .ok (.invokevirtual 47, 3) := by decide +kernel
theorem dL_law_293 : decode cL_law 293 = .ok (.aload_n 2, 1) := by decide +kernel
theorem dL_law_294 : decode cL_law 294 = .ok (.aload_n 0, 1) := by decide +kernel
theorem dL_law_295 : decode cL_law 295 = .ok (.iload 4, 2) := by decide +kernel
theorem dL_law_297 : decode cL_law 297 = .ok (.iconst 1, 1) := by decide +kernel
theorem dL_law_298 : decode cL_law 298 = .ok (.iadd, 1) := by decide +kernel
theorem dL_law_299 : decode cL_law 299 = .ok (.iaload, 1) := by decide +kernel
theorem dL_law_300 : decode cL_law 300 = .ok (.aload_n 0, 1) := by decide +kernel
theorem dL_law_301 : decode cL_law 301 = .ok (.iload 4, 2) := by decide +kernel
theorem dL_law_303 : decode cL_law 303 = .ok (.iconst 2, 1) := by decide +kernel
theorem dL_law_304 : decode cL_law 304 = .ok (.iadd, 1) := by decide +kernel
theorem dL_law_305 : decode cL_law 305 = .ok (.iaload, 1) := by decide +kernel
theorem dL_law_306 : decode cL_law 306 = .ok (.invokevirtual 50, 3) := by decide +kernel
theorem dL_law_309 : decode cL_law 309 = .ok (.if_icmp .eq 510, 3) := by decide +kernel
theorem dL_law_312 : decode cL_law 312 = .ok (.iconst 0, 1) := by decide +kernel
theorem dL_law_313 : decode cL_law 313 = .ok (.ireturn, 1) := by decide +kernel
theorem dL_law_314 : decode cL_law 314 = .ok (.aload_n 1, 1) := by decide +kernel
theorem dL_law_315 : decode cL_law 315 = .ok (.aload_n 0, 1) := by decide +kernel
theorem dL_law_316 : decode cL_law 316 = .ok (.iload 4, 2) := by decide +kernel
theorem dL_law_318 : decode cL_law 318 = .ok (.iconst 1, 1) := by decide +kernel
theorem dL_law_319 : decode cL_law 319 = .ok (.iadd, 1) := by decide +kernel
theorem dL_law_320 : decode cL_law 320 = .ok (.iaload, 1) := by decide +kernel
theorem dL_law_321 : decode cL_law 321 = .ok (.invokevirtual 51, 3) := by decide +kernel
theorem dL_law_324 : decode cL_law 324 = .ok (.aload_n 2, 1) := by decide +kernel
theorem dL_law_325 : decode cL_law 325 = .ok (.aload_n 0, 1) := by decide +kernel
theorem dL_law_326 : decode cL_law 326 = .ok (.iload 4, 2) := by decide +kernel
theorem dL_law_328 : decode cL_law 328 = .ok (.iconst 1, 1) := by decide +kernel
theorem dL_law_329 : decode cL_law 329 = .ok (.iadd, 1) := by decide +kernel
theorem dL_law_330 : decode cL_law 330 = .ok (.iaload, 1) := by decide +kernel
theorem dL_law_331 : decode cL_law 331 = .ok (.invokevirtual 54, 3) := by decide +kernel
theorem dL_law_334 : decode cL_law 334 = .ok (.if_icmp .eq 485, 3) := by decide +kernel
theorem dL_law_337 : decode cL_law 337 = .ok (.iconst 0, 1) := by decide +kernel
theorem dL_law_338 : decode cL_law 338 = .ok (.ireturn, 1) := by decide +kernel
theorem dL_law_339 : decode cL_law 339 = .ok (.aload_n 1, 1) := by decide +kernel
theorem dL_law_340 : decode cL_law 340 = .ok (.aload_n 0, 1) := by decide +kernel
theorem dL_law_341 : decode cL_law 341 = .ok (.iload 4, 2) := by decide +kernel
theorem dL_law_343 : decode cL_law 343 = .ok (.iconst 1, 1) := by decide +kernel
theorem dL_law_344 : decode cL_law 344 = .ok (.iadd, 1) := by decide +kernel
theorem dL_law_345 : decode cL_law 345 = .ok (.iaload, 1) := by decide +kernel
theorem dL_law_346 : decode cL_law 346 = .ok (.invokevirtual 55, 3) := by decide +kernel
theorem dL_law_349 : decode cL_law 349 = .ok (.aload_n 2, 1) := by decide +kernel
theorem dL_law_350 : decode cL_law 350 = .ok (.aload_n 0, 1) := by decide +kernel
theorem dL_law_351 : decode cL_law 351 = .ok (.iload 4, 2) := by decide +kernel
theorem dL_law_353 : decode cL_law 353 = .ok (.iconst 1, 1) := by decide +kernel
theorem dL_law_354 : decode cL_law 354 = .ok (.iadd, 1) := by decide +kernel
theorem dL_law_355 : decode cL_law 355 = .ok (.iaload, 1) := by decide +kernel
theorem dL_law_356 : decode cL_law 356 = .ok (.invokevirtual 58, 3) := by decide +kernel
theorem dL_law_359 : decode cL_law 359 = .ok (.if_icmp .eq 460, 3) := by decide +kernel
theorem dL_law_362 : decode cL_law 362 = .ok (.iconst 0, 1) := by decide +kernel
theorem dL_law_363 : decode cL_law 363 = .ok (.ireturn, 1) := by decide +kernel
theorem dL_law_364 : decode cL_law 364 = .ok (.aload_n 1, 1) := by decide +kernel
theorem dL_law_365 : decode cL_law 365 = .ok (.aload_n 0, 1) := by decide +kernel
theorem dL_law_366 : decode cL_law 366 = .ok (.iload 4, 2) := by decide +kernel
theorem dL_law_368 : decode cL_law 368 = .ok (.iconst 1, 1) := by decide +kernel
theorem dL_law_369 : decode cL_law 369 = .ok (.iadd, 1) := by decide +kernel
theorem dL_law_370 : decode cL_law 370 = .ok (.iaload, 1) := by decide +kernel
theorem dL_law_371 : decode cL_law 371 = .ok (.aload_n 0, 1) := by decide +kernel
theorem dL_law_372 : decode cL_law 372 = .ok (.iload 4, 2) := by decide +kernel
theorem dL_law_374 : decode cL_law 374 = .ok (.iconst 2, 1) := by decide +kernel
theorem dL_law_375 : decode cL_law 375 = .ok (.iadd, 1) := by decide +kernel
theorem dL_law_376 : decode cL_law 376 = .ok (.iaload, 1) := by decide +kernel
theorem dL_law_377 : decode cL_law 377 = .ok (.aload_n 0, 1) := by decide +kernel
theorem dL_law_378 : decode cL_law 378 = .ok (.iload 4, 2) := by decide +kernel
theorem dL_law_380 : decode cL_law 380 = .ok (.iconst 3, 1) := by decide +kernel
theorem dL_law_381 : decode cL_law 381 = .ok (.iadd, 1) := by decide +kernel
theorem dL_law_382 : decode cL_law 382 = .ok (.iaload, 1) := by decide +kernel
theorem dL_law_383 : decode cL_law 383 = .ok (.invokevirtual 59, 3) := by decide +kernel
theorem dL_law_386 : decode cL_law 386 = .ok (.aload_n 2, 1) := by decide +kernel
theorem dL_law_387 : decode cL_law 387 = .ok (.aload_n 0, 1) := by decide +kernel
theorem dL_law_388 : decode cL_law 388 = .ok (.iload 4, 2) := by decide +kernel
theorem dL_law_390 : decode cL_law 390 = .ok (.iconst 1, 1) := by decide +kernel
theorem dL_law_391 : decode cL_law 391 = .ok (.iadd, 1) := by decide +kernel
theorem dL_law_392 : decode cL_law 392 = .ok (.iaload, 1) := by decide +kernel
theorem dL_law_393 : decode cL_law 393 = .ok (.aload_n 0, 1) := by decide +kernel
theorem dL_law_394 : decode cL_law 394 = .ok (.iload 4, 2) := by decide +kernel
theorem dL_law_396 : decode cL_law 396 = .ok (.iconst 2, 1) := by decide +kernel
theorem dL_law_397 : decode cL_law 397 = .ok (.iadd, 1) := by decide +kernel
theorem dL_law_398 : decode cL_law 398 = .ok (.iaload, 1) := by decide +kernel
theorem dL_law_399 : decode cL_law 399 = .ok (.aload_n 0, 1) := by decide +kernel
theorem dL_law_400 : decode cL_law 400 = .ok (.iload 4, 2) := by decide +kernel
theorem dL_law_402 : decode cL_law 402 = .ok (.iconst 3, 1) := by decide +kernel
theorem dL_law_403 : decode cL_law 403 = .ok (.iadd, 1) := by decide +kernel
theorem dL_law_404 : decode cL_law 404 = .ok (.iaload, 1) := by decide +kernel
theorem dL_law_405 : decode cL_law 405 = .ok (.invokevirtual 63, 3) := by decide +kernel
theorem dL_law_408 : decode cL_law 408 = .ok (.if_icmp .eq 411, 3) := by decide +kernel
theorem dL_law_411 : decode cL_law 411 = .ok (.iconst 0, 1) := by decide +kernel
theorem dL_law_412 : decode cL_law 412 = .ok (.ireturn, 1) := by decide +kernel
theorem dL_law_413 : decode cL_law 413 = .ok (.aload_n 1, 1) := by decide +kernel
theorem dL_law_414 : decode cL_law 414 = .ok (.aload_n 0, 1) := by decide +kernel
theorem dL_law_415 : decode cL_law 415 = .ok (.iload 4, 2) := by decide +kernel
theorem dL_law_417 : decode cL_law 417 = .ok (.iconst 1, 1) := by decide +kernel
theorem dL_law_418 : decode cL_law 418 = .ok (.iadd, 1) := by decide +kernel
theorem dL_law_419 : decode cL_law 419 = .ok (.iaload, 1) := by decide +kernel
theorem dL_law_420 : decode cL_law 420 = .ok (.aload_n 0, 1) := by decide +kernel
theorem dL_law_421 : decode cL_law 421 = .ok (.iload 4, 2) := by decide +kernel
theorem dL_law_423 : decode cL_law 423 = .ok (.iconst 2, 1) := by decide +kernel
theorem dL_law_424 : decode cL_law 424 = .ok (.iadd, 1) := by decide +kernel
theorem dL_law_425 : decode cL_law 425 = .ok (.iaload, 1) := by decide +kernel
theorem dL_law_426 : decode cL_law 426 = .ok (.aload_n 0, 1) := by decide +kernel
theorem dL_law_427 : decode cL_law 427 = .ok (.iload 4, 2) := by decide +kernel
theorem dL_law_429 : decode cL_law 429 = .ok (.iconst 3, 1) := by decide +kernel
theorem dL_law_430 : decode cL_law 430 = .ok (.iadd, 1) := by decide +kernel
theorem dL_law_431 : decode cL_law 431 = .ok (.iaload, 1) := by decide +kernel
theorem dL_law_432 : decode cL_law 432 = .ok (.invokevirtual 64, 3) := by decide +kernel
theorem dL_law_435 : decode cL_law 435 = .ok (.aload_n 2, 1) := by decide +kernel
theorem dL_law_436 : decode cL_law 436 = .ok (.aload_n 0, 1) := by decide +kernel
theorem dL_law_437 : decode cL_law 437 = .ok (.iload 4, 2) := by decide +kernel
theorem dL_law_439 : decode cL_law 439 = .ok (.iconst 1, 1) := by decide +kernel
theorem dL_law_440 : decode cL_law 440 = .ok (.iadd, 1) := by decide +kernel
theorem dL_law_441 : decode cL_law 441 = .ok (.iaload, 1) := by decide +kernel
theorem dL_law_442 : decode cL_law 442 = .ok (.aload_n 0, 1) := by decide +kernel
theorem dL_law_443 : decode cL_law 443 = .ok (.iload 4, 2) := by decide +kernel
theorem dL_law_445 : decode cL_law 445 = .ok (.iconst 2, 1) := by decide +kernel
theorem dL_law_446 : decode cL_law 446 = .ok (.iadd, 1) := by decide +kernel
theorem dL_law_447 : decode cL_law 447 = .ok (.iaload, 1) := by decide +kernel
theorem dL_law_448 : decode cL_law 448 = .ok (.aload_n 0, 1) := by decide +kernel
theorem dL_law_449 : decode cL_law 449 = .ok (.iload 4, 2) := by decide +kernel
theorem dL_law_451 : decode cL_law 451 = .ok (.iconst 3, 1) := by decide +kernel
theorem dL_law_452 : decode cL_law 452 = .ok (.iadd, 1) := by decide +kernel
theorem dL_law_453 : decode cL_law 453 = .ok (.iaload, 1) := by decide +kernel
theorem dL_law_454 : decode cL_law 454 = .ok (.invokevirtual 67, 3) := by decide +kernel
theorem dL_law_457 : decode cL_law 457 = .ok (.if_icmp .eq 362, 3) := by decide +kernel
theorem dL_law_460 : decode cL_law 460 = .ok (.iconst 0, 1) := by decide +kernel
theorem dL_law_461 : decode cL_law 461 = .ok (.ireturn, 1) := by decide +kernel
theorem dL_law_462 : decode cL_law 462 = .ok (.aload_n 1, 1) := by decide +kernel
theorem dL_law_463 : decode cL_law 463 = .ok (.invokevirtual 68, 3) := by decide +kernel
theorem dL_law_466 : decode cL_law 466 = .ok (.aload_n 2, 1) := by decide +kernel
theorem dL_law_467 : decode cL_law 467 = .ok (.invokevirtual 71, 3) := by decide +kernel
theorem dL_law_470 : decode cL_law 470 = .ok (.if_icmp .eq 349, 3) := by decide +kernel
theorem dL_law_473 : decode cL_law 473 = .ok (.iconst 0, 1) := by decide +kernel
theorem dL_law_474 : decode cL_law 474 = .ok (.ireturn, 1) := by decide +kernel
theorem dL_law_475 : decode cL_law 475 = .ok (.aload_n 1, 1) := by decide +kernel
theorem dL_law_476 : decode cL_law 476 = .ok (.aload_n 0, 1) := by decide +kernel
theorem dL_law_477 : decode cL_law 477 = .ok (.iload 4, 2) := by decide +kernel
theorem dL_law_479 : decode cL_law 479 = .ok (.iconst 1, 1) := by decide +kernel
theorem dL_law_480 : decode cL_law 480 = .ok (.iadd, 1) := by decide +kernel
theorem dL_law_481 : decode cL_law 481 = .ok (.iaload, 1) := by decide +kernel
theorem dL_law_482 : decode cL_law 482 = .ok (.aload_n 0, 1) := by decide +kernel
theorem dL_law_483 : decode cL_law 483 = .ok (.iload 4, 2) := by decide +kernel
theorem dL_law_485 : decode cL_law 485 = .ok (.iconst 2, 1) := by decide +kernel
theorem dL_law_486 : decode cL_law 486 = .ok (.iadd, 1) := by decide +kernel
theorem dL_law_487 : decode cL_law 487 = .ok (.iaload, 1) := by decide +kernel
theorem dL_law_488 : decode cL_law 488 = .ok (.invokevirtual 72, 3) := by decide +kernel
theorem dL_law_491 : decode cL_law 491 = .ok (.aload_n 2, 1) := by decide +kernel
theorem dL_law_492 : decode cL_law 492 = .ok (.aload_n 0, 1) := by decide +kernel
theorem dL_law_493 : decode cL_law 493 = .ok (.iload 4, 2) := by decide +kernel
theorem dL_law_495 : decode cL_law 495 = .ok (.iconst 1, 1) := by decide +kernel
theorem dL_law_496 : decode cL_law 496 = .ok (.iadd, 1) := by decide +kernel
theorem dL_law_497 : decode cL_law 497 = .ok (.iaload, 1) := by decide +kernel
theorem dL_law_498 : decode cL_law 498 = .ok (.aload_n 0, 1) := by decide +kernel
theorem dL_law_499 : decode cL_law 499 = .ok (.iload 4, 2) := by decide +kernel
theorem dL_law_501 : decode cL_law 501 = .ok (.iconst 2, 1) := by decide +kernel
theorem dL_law_502 : decode cL_law 502 = .ok (.iadd, 1) := by decide +kernel
theorem dL_law_503 : decode cL_law 503 = .ok (.iaload, 1) := by decide +kernel
theorem dL_law_504 : decode cL_law 504 = .ok (.invokevirtual 75, 3) := by decide +kernel
theorem dL_law_507 : decode cL_law 507 = .ok (.if_icmp .eq 312, 3) := by decide +kernel
theorem dL_law_510 : decode cL_law 510 = .ok (.iconst 0, 1) := by decide +kernel
theorem dL_law_511 : decode cL_law 511 = .ok (.ireturn, 1) := by decide +kernel
theorem dL_law_512 : decode cL_law 512 = .ok (.aload_n 1, 1) := by decide +kernel
theorem dL_law_513 : decode cL_law 513 = .ok (.aload_n 0, 1) := by decide +kernel
theorem dL_law_514 : decode cL_law 514 = .ok (.iload 4, 2) := by decide +kernel
theorem dL_law_516 : decode cL_law 516 = .ok (.iconst 1, 1) := by decide +kernel
theorem dL_law_517 : decode cL_law 517 = .ok (.iadd, 1) := by decide +kernel
theorem dL_law_518 : decode cL_law 518 = .ok (.iaload, 1) := by decide +kernel
theorem dL_law_519 : decode cL_law 519 = .ok (.aload_n 0, 1) := by decide +kernel
theorem dL_law_520 : decode cL_law 520 = .ok (.iload 4, 2) := by decide +kernel
theorem dL_law_522 : decode cL_law 522 = .ok (.iconst 2, 1) := by decide +kernel
theorem dL_law_523 : decode cL_law 523 = .ok (.iadd, 1) := by decide +kernel
theorem dL_law_524 : decode cL_law 524 = .ok (.iaload, 1) := by decide +kernel
theorem dL_law_525 : decode cL_law 525 = .ok (.invokevirtual 76, 3) := by decide +kernel
theorem dL_law_528 : decode cL_law 528 = .ok (.aload_n 2, 1) := by decide +kernel
theorem dL_law_529 : decode cL_law 529 = .ok (.aload_n 0, 1) := by decide +kernel
theorem dL_law_530 : decode cL_law 530 = .ok (.iload 4, 2) := by decide +kernel
theorem dL_law_532 : decode cL_law 532 = .ok (.iconst 1, 1) := by decide +kernel
theorem dL_law_533 : decode cL_law 533 = .ok (.iadd, 1) := by decide +kernel
theorem dL_law_534 : decode cL_law 534 = .ok (.iaload, 1) := by decide +kernel
theorem dL_law_535 : decode cL_law 535 = .ok (.aload_n 0, 1) := by decide +kernel
theorem dL_law_536 : decode cL_law 536 = .ok (.iload 4, 2) := by decide +kernel
theorem dL_law_538 : decode cL_law 538 = .ok (.iconst 2, 1) := by decide +kernel
theorem dL_law_539 : decode cL_law 539 = .ok (.iadd, 1) := by decide +kernel
theorem dL_law_540 : decode cL_law 540 = .ok (.iaload, 1) := by decide +kernel
theorem dL_law_541 : decode cL_law 541 = .ok (.invokevirtual 79, 3) := by decide +kernel
theorem dL_law_544 : decode cL_law 544 = .ok (.if_icmp .eq 275, 3) := by decide +kernel
theorem dL_law_547 : decode cL_law 547 = .ok (.iconst 0, 1) := by decide +kernel
theorem dL_law_548 : decode cL_law 548 = .ok (.ireturn, 1) := by decide +kernel
theorem dL_law_549 : decode cL_law 549 = .ok (.aload_n 1, 1) := by decide +kernel
theorem dL_law_550 : decode cL_law 550 = .ok (.aload_n 0, 1) := by decide +kernel
theorem dL_law_551 : decode cL_law 551 = .ok (.iload 4, 2) := by decide +kernel
theorem dL_law_553 : decode cL_law 553 = .ok (.iconst 1, 1) := by decide +kernel
theorem dL_law_554 : decode cL_law 554 = .ok (.iadd, 1) := by decide +kernel
theorem dL_law_555 : decode cL_law 555 = .ok (.iaload, 1) := by decide +kernel
theorem dL_law_556 : decode cL_law 556 = .ok (.aload_n 0, 1) := by decide +kernel
theorem dL_law_557 : decode cL_law 557 = .ok (.iload 4, 2) := by decide +kernel
theorem dL_law_559 : decode cL_law 559 = .ok (.iconst 2, 1) := by decide +kernel
theorem dL_law_560 : decode cL_law 560 = .ok (.iadd, 1) := by decide +kernel
theorem dL_law_561 : decode cL_law 561 = .ok (.iaload, 1) := by decide +kernel
theorem dL_law_562 : decode cL_law 562 = .ok (.aload_n 3, 1) := by decide +kernel
theorem dL_law_563 : decode cL_law 563 = .ok (.invokestatic 80, 3) := by decide +kernel
theorem dL_law_566 : decode cL_law 566 = .ok (.istore 5, 2) := by decide +kernel
theorem dL_law_568 : decode cL_law 568 = .ok (.aload_n 2, 1) := by decide +kernel
theorem dL_law_569 : decode cL_law 569 = .ok (.aload_n 0, 1) := by decide +kernel
theorem dL_law_570 : decode cL_law 570 = .ok (.iload 4, 2) := by decide +kernel
theorem dL_law_572 : decode cL_law 572 = .ok (.iconst 1, 1) := by decide +kernel
theorem dL_law_573 : decode cL_law 573 = .ok (.iadd, 1) := by decide +kernel
theorem dL_law_574 : decode cL_law 574 = .ok (.iaload, 1) := by decide +kernel
theorem dL_law_575 : decode cL_law 575 = .ok (.aload_n 0, 1) := by decide +kernel
theorem dL_law_576 : decode cL_law 576 = .ok (.iload 4, 2) := by decide +kernel
theorem dL_law_578 : decode cL_law 578 = .ok (.iconst 2, 1) := by decide +kernel
theorem dL_law_579 : decode cL_law 579 = .ok (.iadd, 1) := by decide +kernel
theorem dL_law_580 : decode cL_law 580 = .ok (.iaload, 1) := by decide +kernel
theorem dL_law_581 : decode cL_law 581 = .ok (.invokevirtual 85, 3) := by decide +kernel
theorem dL_law_584 : decode cL_law 584 = .ok (.istore 6, 2) := by decide +kernel
theorem dL_law_586 : decode cL_law 586 = .ok (.aload_n 2, 1) := by decide +kernel
theorem dL_law_587 : decode cL_law 587 = .ok (.invokevirtual 86, 3) := by decide +kernel
theorem dL_law_590 : decode cL_law 590 = .ok (.iload 5, 2) := by decide +kernel
theorem dL_law_592 : decode cL_law 592 = .ok (.if_icmp .eq 5, 3) := by decide +kernel
theorem dL_law_595 : decode cL_law 595 = .ok (.iconst 0, 1) := by decide +kernel
theorem dL_law_596 : decode cL_law 596 = .ok (.ireturn, 1) := by decide +kernel
theorem dL_law_597 : decode cL_law 597 = .ok (.iload 5, 2) := by decide +kernel
theorem dL_law_599 : decode cL_law 599 = .ok (.ifCond .ne 15, 3) := by decide +kernel
theorem dL_law_602 : decode cL_law 602 = .ok (.aload_n 3, 1) := by decide +kernel
theorem dL_law_603 : decode cL_law 603 = .ok (.iconst 0, 1) := by decide +kernel
theorem dL_law_604 : decode cL_law 604 = .ok (.laload, 1) := by decide +kernel
theorem dL_law_605 : decode cL_law 605 = .ok (.iload 6, 2) := by decide +kernel
theorem dL_law_607 : decode cL_law 607 = .ok (.i2l, 1) := by decide +kernel
theorem dL_law_608 : decode cL_law 608 = .ok (.lcmp, 1) := by decide +kernel
theorem dL_law_609 : decode cL_law 609 = .ok (.ifCond .eq 5, 3) := by decide +kernel
theorem dL_law_612 : decode cL_law 612 = .ok (.iconst 0, 1) := by decide +kernel
theorem dL_law_613 : decode cL_law 613 = .ok (.ireturn, 1) := by decide +kernel
theorem dL_law_614 : decode cL_law 614 = .ok (.goto 205, 3) := by decide +kernel
theorem dL_law_617 : decode cL_law 617 = .ok (.aload_n 1, 1) := by decide +kernel
theorem dL_law_618 : decode cL_law 618 = .ok (.aload_n 0, 1) := by decide +kernel
theorem dL_law_619 : decode cL_law 619 = .ok (.iload 4, 2) := by decide +kernel
theorem dL_law_621 : decode cL_law 621 = .ok (.iconst 1, 1) := by decide +kernel
theorem dL_law_622 : decode cL_law 622 = .ok (.iadd, 1) := by decide +kernel
theorem dL_law_623 : decode cL_law 623 = .ok (.iaload, 1) := by decide +kernel
theorem dL_law_624 : decode cL_law 624 = .ok (.aload_n 0, 1) := by decide +kernel
theorem dL_law_625 : decode cL_law 625 = .ok (.iload 4, 2) := by decide +kernel
theorem dL_law_627 : decode cL_law 627 = .ok (.iconst 2, 1) := by decide +kernel
theorem dL_law_628 : decode cL_law 628 = .ok (.iadd, 1) := by decide +kernel
theorem dL_law_629 : decode cL_law 629 = .ok (.iaload, 1) := by decide +kernel
theorem dL_law_630 : decode cL_law 630 = .ok (.aload_n 0, 1) := by decide +kernel
theorem dL_law_631 : decode cL_law 631 = .ok (.iload 4, 2) := by decide +kernel
theorem dL_law_633 : decode cL_law 633 = .ok (.iconst 3, 1) := by decide +kernel
theorem dL_law_634 : decode cL_law 634 = .ok (.iadd, 1) := by decide +kernel
theorem dL_law_635 : decode cL_law 635 = .ok (.iaload, 1) := by decide +kernel
theorem dL_law_636 : decode cL_law 636 = .ok (.invokevirtual 89, 3) := by decide +kernel
theorem dL_law_639 : decode cL_law 639 = .ok (.aload_n 2, 1) := by decide +kernel
theorem dL_law_640 : decode cL_law 640 = .ok (.aload_n 0, 1) := by decide +kernel
theorem dL_law_641 : decode cL_law 641 = .ok (.iload 4, 2) := by decide +kernel
theorem dL_law_643 : decode cL_law 643 = .ok (.iconst 1, 1) := by decide +kernel
theorem dL_law_644 : decode cL_law 644 = .ok (.iadd, 1) := by decide +kernel
theorem dL_law_645 : decode cL_law 645 = .ok (.iaload, 1) := by decide +kernel
theorem dL_law_646 : decode cL_law 646 = .ok (.aload_n 0, 1) := by decide +kernel
theorem dL_law_647 : decode cL_law 647 = .ok (.iload 4, 2) := by decide +kernel
theorem dL_law_649 : decode cL_law 649 = .ok (.iconst 2, 1) := by decide +kernel
theorem dL_law_650 : decode cL_law 650 = .ok (.iadd, 1) := by decide +kernel
theorem dL_law_651 : decode cL_law 651 = .ok (.iaload, 1) := by decide +kernel
theorem dL_law_652 : decode cL_law 652 = .ok (.aload_n 0, 1) := by decide +kernel
theorem dL_law_653 : decode cL_law 653 = .ok (.iload 4, 2) := by decide +kernel
theorem dL_law_655 : decode cL_law 655 = .ok (.iconst 3, 1) := by decide +kernel
theorem dL_law_656 : decode cL_law 656 = .ok (.iadd, 1) := by decide +kernel
theorem dL_law_657 : decode cL_law 657 = .ok (.iaload, 1) := by decide +kernel
theorem dL_law_658 : decode cL_law 658 = .ok (.invokevirtual 92, 3) := by decide +kernel
theorem dL_law_661 : decode cL_law 661 = .ok (.if_icmp .eq 158, 3) := by decide +kernel
theorem dL_law_664 : decode cL_law 664 = .ok (.iconst 0, 1) := by decide +kernel
theorem dL_law_665 : decode cL_law 665 = .ok (.ireturn, 1) := by decide +kernel
theorem dL_law_666 : decode cL_law 666 = .ok (.aload_n 1, 1) := by decide +kernel
theorem dL_law_667 : decode cL_law 667 = .ok (.aload_n 0, 1) := by decide +kernel
theorem dL_law_668 : decode cL_law 668 = .ok (.iload 4, 2) := by decide +kernel
theorem dL_law_670 : decode cL_law 670 = .ok (.iconst 1, 1) := by decide +kernel
theorem dL_law_671 : decode cL_law 671 = .ok (.iadd, 1) := by decide +kernel
theorem dL_law_672 : decode cL_law 672 = .ok (.iaload, 1) := by decide +kernel
theorem dL_law_673 : decode cL_law 673 = .ok (.aload_n 0, 1) := by decide +kernel
theorem dL_law_674 : decode cL_law 674 = .ok (.iload 4, 2) := by decide +kernel
theorem dL_law_676 : decode cL_law 676 = .ok (.iconst 2, 1) := by decide +kernel
theorem dL_law_677 : decode cL_law 677 = .ok (.iadd, 1) := by decide +kernel
theorem dL_law_678 : decode cL_law 678 = .ok (.iaload, 1) := by decide +kernel
theorem dL_law_679 : decode cL_law 679 = .ok (.invokevirtual 93, 3) := by decide +kernel
theorem dL_law_682 : decode cL_law 682 = .ok (.aload_n 2, 1) := by decide +kernel
theorem dL_law_683 : decode cL_law 683 = .ok (.aload_n 0, 1) := by decide +kernel
theorem dL_law_684 : decode cL_law 684 = .ok (.iload 4, 2) := by decide +kernel
theorem dL_law_686 : decode cL_law 686 = .ok (.iconst 1, 1) := by decide +kernel
theorem dL_law_687 : decode cL_law 687 = .ok (.iadd, 1) := by decide +kernel
theorem dL_law_688 : decode cL_law 688 = .ok (.iaload, 1) := by decide +kernel
theorem dL_law_689 : decode cL_law 689 = .ok (.aload_n 0, 1) := by decide +kernel
theorem dL_law_690 : decode cL_law 690 = .ok (.iload 4, 2) := by decide +kernel
theorem dL_law_692 : decode cL_law 692 = .ok (.iconst 2, 1) := by decide +kernel
theorem dL_law_693 : decode cL_law 693 = .ok (.iadd, 1) := by decide +kernel
theorem dL_law_694 : decode cL_law 694 = .ok (.iaload, 1) := by decide +kernel
theorem dL_law_695 : decode cL_law 695 = .ok (.invokevirtual 96, 3) := by decide +kernel
theorem dL_law_698 : decode cL_law 698 = .ok (.if_icmp .eq 121, 3) := by decide +kernel
theorem dL_law_701 : decode cL_law 701 = .ok (.iconst 0, 1) := by decide +kernel
theorem dL_law_702 : decode cL_law 702 = .ok (.ireturn, 1) := by decide +kernel
theorem dL_law_703 : decode cL_law 703 = .ok (.aload_n 1, 1) := by decide +kernel
theorem dL_law_704 : decode cL_law 704 = .ok (.aload_n 0, 1) := by decide +kernel
theorem dL_law_705 : decode cL_law 705 = .ok (.iload 4, 2) := by decide +kernel
theorem dL_law_707 : decode cL_law 707 = .ok (.iconst 1, 1) := by decide +kernel
theorem dL_law_708 : decode cL_law 708 = .ok (.iadd, 1) := by decide +kernel
theorem dL_law_709 : decode cL_law 709 = .ok (.iaload, 1) := by decide +kernel
theorem dL_law_710 : decode cL_law 710 = .ok (.aload_n 0, 1) := by decide +kernel
theorem dL_law_711 : decode cL_law 711 = .ok (.iload 4, 2) := by decide +kernel
theorem dL_law_713 : decode cL_law 713 = .ok (.iconst 2, 1) := by decide +kernel
theorem dL_law_714 : decode cL_law 714 = .ok (.iadd, 1) := by decide +kernel
theorem dL_law_715 : decode cL_law 715 = .ok (.iaload, 1) := by decide +kernel
theorem dL_law_716 : decode cL_law 716 = .ok (.aload_n 0, 1) := by decide +kernel
theorem dL_law_717 : decode cL_law 717 = .ok (.iload 4, 2) := by decide +kernel
theorem dL_law_719 : decode cL_law 719 = .ok (.iconst 3, 1) := by decide +kernel
theorem dL_law_720 : decode cL_law 720 = .ok (.iadd, 1) := by decide +kernel
theorem dL_law_721 : decode cL_law 721 = .ok (.iaload, 1) := by decide +kernel
theorem dL_law_722 : decode cL_law 722 = .ok (.aload_n 0, 1) := by decide +kernel
theorem dL_law_723 : decode cL_law 723 = .ok (.iload 4, 2) := by decide +kernel
theorem dL_law_725 : decode cL_law 725 = .ok (.iconst 4, 1) := by decide +kernel
theorem dL_law_726 : decode cL_law 726 = .ok (.iadd, 1) := by decide +kernel
theorem dL_law_727 : decode cL_law 727 = .ok (.iaload, 1) := by decide +kernel
theorem dL_law_728 : decode cL_law 728 = .ok (.aload_n 3, 1) := by decide +kernel
theorem dL_law_729 : decode cL_law 729 = .ok (.invokestatic 97, 3) := by decide +kernel
theorem dL_law_732 : decode cL_law 732 = .ok (.istore 5, 2) := by decide +kernel
theorem dL_law_734 : decode cL_law 734 = .ok (.aload_n 2, 1) := by decide +kernel
theorem dL_law_735 : decode cL_law 735 = .ok (.aload_n 0, 1) := by decide +kernel
theorem dL_law_736 : decode cL_law 736 = .ok (.iload 4, 2) := by decide +kernel
theorem dL_law_738 : decode cL_law 738 = .ok (.iconst 1, 1) := by decide +kernel
theorem dL_law_739 : decode cL_law 739 = .ok (.iadd, 1) := by decide +kernel
theorem dL_law_740 : decode cL_law 740 = .ok (.iaload, 1) := by decide +kernel
theorem dL_law_741 : decode cL_law 741 = .ok (.aload_n 0, 1) := by decide +kernel
theorem dL_law_742 : decode cL_law 742 = .ok (.iload 4, 2) := by decide +kernel
theorem dL_law_744 : decode cL_law 744 = .ok (.iconst 2, 1) := by decide +kernel
theorem dL_law_745 : decode cL_law 745 = .ok (.iadd, 1) := by decide +kernel
theorem dL_law_746 : decode cL_law 746 = .ok (.iaload, 1) := by decide +kernel
theorem dL_law_747 : decode cL_law 747 = .ok (.aload_n 0, 1) := by decide +kernel
theorem dL_law_748 : decode cL_law 748 = .ok (.iload 4, 2) := by decide +kernel
theorem dL_law_750 : decode cL_law 750 = .ok (.iconst 3, 1) := by decide +kernel
theorem dL_law_751 : decode cL_law 751 = .ok (.iadd, 1) := by decide +kernel
theorem dL_law_752 : decode cL_law 752 = .ok (.iaload, 1) := by decide +kernel
theorem dL_law_753 : decode cL_law 753 = .ok (.aload_n 0, 1) := by decide +kernel
theorem dL_law_754 : decode cL_law 754 = .ok (.iload 4, 2) := by decide +kernel
theorem dL_law_756 : decode cL_law 756 = .ok (.iconst 4, 1) := by decide +kernel
theorem dL_law_757 : decode cL_law 757 = .ok (.iadd, 1) := by decide +kernel
theorem dL_law_758 : decode cL_law 758 = .ok (.iaload, 1) := by decide +kernel
theorem dL_law_759 : decode cL_law 759 = .ok (.invokevirtual 100, 3) := by decide +kernel
theorem dL_law_762 : decode cL_law 762 = .ok (.lstore 6, 2) := by decide +kernel
theorem dL_law_764 : decode cL_law 764 = .ok (.aload_n 2, 1) := by decide +kernel
theorem dL_law_765 : decode cL_law 765 = .ok (.invokevirtual 86, 3) := by decide +kernel
theorem dL_law_768 : decode cL_law 768 = .ok (.iload 5, 2) := by decide +kernel
theorem dL_law_770 : decode cL_law 770 = .ok (.if_icmp .eq 5, 3) := by decide +kernel
theorem dL_law_773 : decode cL_law 773 = .ok (.iconst 0, 1) := by decide +kernel
theorem dL_law_774 : decode cL_law 774 = .ok (.ireturn, 1) := by decide +kernel
theorem dL_law_775 : decode cL_law 775 = .ok (.iload 5, 2) := by decide +kernel
theorem dL_law_777 : decode cL_law 777 = .ok (.ifCond .ne 14, 3) := by decide +kernel
theorem dL_law_780 : decode cL_law 780 = .ok (.aload_n 3, 1) := by decide +kernel
theorem dL_law_781 : decode cL_law 781 = .ok (.iconst 0, 1) := by decide +kernel
theorem dL_law_782 : decode cL_law 782 = .ok (.laload, 1) := by decide +kernel
theorem dL_law_783 : decode cL_law 783 = .ok (.lload 6, 2) := by decide +kernel
theorem dL_law_785 : decode cL_law 785 = .ok (.lcmp, 1) := by decide +kernel
theorem dL_law_786 : decode cL_law 786 = .ok (.ifCond .eq 5, 3) := by decide +kernel
theorem dL_law_789 : decode cL_law 789 = .ok (.iconst 0, 1) := by decide +kernel
theorem dL_law_790 : decode cL_law 790 = .ok (.ireturn, 1) := by decide +kernel
theorem dL_law_791 : decode cL_law 791 = .ok (.goto 28, 3) := by decide +kernel
theorem dL_law_794 : decode cL_law 794 = .ok (.aload_n 1, 1) := by decide +kernel
theorem dL_law_795 : decode cL_law 795 = .ok (.aload_n 0, 1) := by decide +kernel
theorem dL_law_796 : decode cL_law 796 = .ok (.iload 4, 2) := by decide +kernel
theorem dL_law_798 : decode cL_law 798 = .ok (.iconst 1, 1) := by decide +kernel
theorem dL_law_799 : decode cL_law 799 = .ok (.iadd, 1) := by decide +kernel
theorem dL_law_800 : decode cL_law 800 = .ok (.iaload, 1) := by decide +kernel
theorem dL_law_801 : decode cL_law 801 = .ok (.invokevirtual 101, 3) := by decide +kernel
theorem dL_law_804 : decode cL_law 804 = .ok (.aload_n 2, 1) := by decide +kernel
theorem dL_law_805 : decode cL_law 805 = .ok (.aload_n 0, 1) := by decide +kernel
theorem dL_law_806 : decode cL_law 806 = .ok (.iload 4, 2) := by decide +kernel
theorem dL_law_808 : decode cL_law 808 = .ok (.iconst 1, 1) := by decide +kernel
theorem dL_law_809 : decode cL_law 809 = .ok (.iadd, 1) := by decide +kernel
theorem dL_law_810 : decode cL_law 810 = .ok (.iaload, 1) := by decide +kernel
theorem dL_law_811 : decode cL_law 811 = .ok (.invokevirtual 104, 3) := by decide +kernel
theorem dL_law_814 : decode cL_law 814 = .ok (.if_icmp .eq 5, 3) := by decide +kernel
theorem dL_law_817 : decode cL_law 817 = .ok (.iconst 0, 1) := by decide +kernel
theorem dL_law_818 : decode cL_law 818 = .ok (.ireturn, 1) := by decide +kernel
theorem dL_law_819 : decode cL_law 819 = .ok (.iinc 4 6, 3) := by decide +kernel
theorem dL_law_822 : decode cL_law 822 = .ok (.goto (-799), 3) := by decide +kernel
theorem dL_law_825 : decode cL_law 825 = .ok (.iconst 1, 1) := by decide +kernel
theorem dL_law_826 : decode cL_law 826 = .ok (.ireturn, 1) := by decide +kernel
end
section
/-! A WALK OVER PURE DATA: jJ says of a world (cells), locals, pc and stack that the machine comes to its end from there; a row an instruction. -/
abbrev jX : Type := Program × Env × Room × State × MethodId × Array Value × List Frame × Method × Code × (State → Prop)
abbrev jD : Type := va_G × (Nat → ClassId)
abbrev jE : Type := (Nat → Prop) → State → Heap → Prop
def jtys (d : jD) : List (ClassId × FieldType) := [(d.2 0, .byte), (d.2 1, .int), (d.2 2, .object RX8), (d.2 3, .object RX4), (d.2 4, .object RX3), (d.2 5, .long)]
/-- facts of cells that no walk touches: they stay -/
def jKp (Ef : jE) : Prop := ∀ (A A' : Nat → Prop) (s U : State) (H : Heap), Ef A s s.heap → s.vm.Alike U.vm → U.heap = H → s.heap.size ≤ H.size → (∀ q : Nat, q < s.heap.size → ¬ A q → H[q]? = s.heap[q]?) → (∀ q : Nat, q < s.heap.size → A' q → A q) → Ef A' U H
def jJ (X : jX) (l : Launch) (d : jD) (A : Nat → Prop) (nL cells slots : Nat) (ws : va_W) (lv : List (Nat × Value)) (pc : Nat) (st : List Value) : Prop :=
  match X with
  | (p, e, R, s, m, args, below, meth, c, Q) => ∀ (ls : Array Slot) (H : Heap) (locs : List Loc), lv_has ls nL lv → va_P d.1 vwCl ws H → va_D A ws → va_S A s.heap H locs → W p l e R s m args below meth c H locs cells slots Q (F0 m pc ls st)
/-- what holds all along a walk -/
def jC (Ef : jE) (X : jX) (l : Launch) (d : jD) (A : Nat → Prop) (cc : ByteArray) (nL : Nat) (Ts : List Cond) (own : String) (rm : Room) (ret : Option FieldType) : Prop :=
  match X with
  | (p, e, R, s, m, args, below, meth, c, Q) => CallFix p m c cc nL s args Ts own ∧ va_K d.1 vwCl (jtys d) s ∧ (∀ q : Nat, s.heap.size ≤ q → A q) ∧ R = rm ∧ meth.sig.returnType = ret ∧ meth.locks = false ∧ Ef A s s.heap ∧ jKp Ef
def jB (d : jD) (A : Nat → Prop) (ws : va_W) (t : State) : Prop := va_P d.1 vwCl ws t.heap ∧ va_K d.1 vwCl (jtys d) t ∧ va_D A ws
def jPr (Ef : jE) (d : jD) (ws : va_W) (sz : Nat) (U : State) : Prop := U.heap.size = sz ∧ va_P d.1 vwCl ws U.heap ∧ va_K d.1 vwCl (jtys d) U ∧ va_D (fun _ => True) ws ∧ Ef (va_A ws sz) U U.heap
/-- contracts: an int (or boolean), a long, nothing, a reference or null -/
def jMi (Ef : jE) (d : jD) (l : Launch) (y : MethodName) (wy : List Cond) (rm : Room) (mc ms : Nat) (av : List Value) (ws : va_W) (post : Int32 → va_W → Prop) : Prop :=
  ∀ sz : Nat, Met l y wy rm (va_Pc av (jPr Ef d ws sz)) (va_Qi post (jB d (va_A ws sz)) (va_A ws sz)) mc ms (va_A ws sz)
def jMl (Ef : jE) (d : jD) (l : Launch) (y : MethodName) (wy : List Cond) (rm : Room) (mc ms : Nat) (av : List Value) (ws : va_W) (post : Int64 → va_W → Prop) : Prop :=
  ∀ sz : Nat, Met l y wy rm (va_Pc av (jPr Ef d ws sz)) (va_Ql post (jB d (va_A ws sz)) (va_A ws sz)) mc ms (va_A ws sz)
def jMv (Ef : jE) (d : jD) (l : Launch) (y : MethodName) (wy : List Cond) (rm : Room) (mc ms : Nat) (av : List Value) (ws : va_W) (post : va_W → Prop) : Prop :=
  ∀ sz : Nat, Met l y wy rm (va_Pc av (jPr Ef d ws sz)) (va_Qv post (jB d (va_A ws sz)) (va_A ws sz)) mc ms (va_A ws sz)
def jMq (Ef : jE) (d : jD) (l : Launch) (y : MethodName) (wy : List Cond) (rm : Room) (mc ms : Nat) (av : List Value) (ws : va_W) (post : Option Nat → va_W → Prop) : Prop :=
  ∀ sz : Nat, Met l y wy rm (va_Pc av (jPr Ef d ws sz)) (va_Qq post (jB d (va_A ws sz)) (va_A ws sz)) mc ms (va_A ws sz)
def jQi (X : jX) (d : jD) (A : Nat → Prop) (mc ms : Nat) (post : Int32 → va_W → Prop) : Prop :=
  match X with
  | (p, e, R, s, m, args, below, meth, c, Q) => Q = MQ below (va_Qi post (jB d A) A) args s mc ms A
def jQl (X : jX) (d : jD) (A : Nat → Prop) (mc ms : Nat) (post : Int64 → va_W → Prop) : Prop :=
  match X with
  | (p, e, R, s, m, args, below, meth, c, Q) => Q = MQ below (va_Ql post (jB d A) A) args s mc ms A
def jQv (X : jX) (d : jD) (A : Nat → Prop) (mc ms : Nat) (post : va_W → Prop) : Prop :=
  match X with
  | (p, e, R, s, m, args, below, meth, c, Q) => Q = MQ below (va_Qv post (jB d A) A) args s mc ms A
def jQq (X : jX) (d : jD) (A : Nat → Prop) (mc ms : Nat) (post : Option Nat → va_W → Prop) : Prop :=
  match X with
  | (p, e, R, s, m, args, below, meth, c, Q) => Q = MQ below (va_Qq post (jB d A) A) args s mc ms A
section JIN
variable {Ef : jE} {d : jD} {l : Launch} {y : MethodName} {wy ws' : List Cond} {rm : Room} {mc ms maxL : Nat} {av : List Value} {ws : va_W} {cc : ByteArray} {ret : Option FieldType}
theorem jMi.mk {post : Int32 → va_W → Prop} (hk : jKp Ef) (hy : plainName y.cls = true) (hw : wy = Cond.code y cc maxL ret :: ws') (hlen : (lg_sl av).length ≤ maxL) (body : ∀ (X : jX) (A : Nat → Prop), jC Ef X l d A cc maxL wy y.cls rm ret → jQi X d A mc ms post → jJ X l d A maxL 0 0 ws (lv_args 0 av) 0 []) : jMi Ef d l y wy rm mc ms av ws post := by
  intro sz
  refine Met.ofW (cc := cc) (maxL := maxL) (ret := ret) hy hw ?_
  intro p e s m args below meth c s₁ B hml hv
  obtain ⟨rfl, hsz, hP, hK, hD0, hE⟩ := hv
  subst hsz
  have hl := lv_entry av (n := maxL) hlen
  rw [lg_entry_eq]
  generalize (lg_sl av ++ List.replicate (maxL - (lg_sl av).length) Slot.unset).toArray = ls at hl ⊢
  exact body (p, e, rm, s, m, av.toArray, below, meth, c, _) (va_A ws s.heap.size) ⟨⟨B.exec, B.bytes, hml, findClass_of_methodNamed B.named, atoms_spec (ws := wy) B.pre⟩, hK, fun q h => Or.inr h, rfl, B.returns, B.notSynchronized, hE, hk⟩ rfl ls s.heap [] hl hP hD0.self va_S.rf
theorem jMl.mk {post : Int64 → va_W → Prop} (hk : jKp Ef) (hy : plainName y.cls = true) (hw : wy = Cond.code y cc maxL ret :: ws') (hlen : (lg_sl av).length ≤ maxL) (body : ∀ (X : jX) (A : Nat → Prop), jC Ef X l d A cc maxL wy y.cls rm ret → jQl X d A mc ms post → jJ X l d A maxL 0 0 ws (lv_args 0 av) 0 []) : jMl Ef d l y wy rm mc ms av ws post := by
  intro sz
  refine Met.ofW (cc := cc) (maxL := maxL) (ret := ret) hy hw ?_
  intro p e s m args below meth c s₁ B hml hv
  obtain ⟨rfl, hsz, hP, hK, hD0, hE⟩ := hv
  subst hsz
  have hl := lv_entry av (n := maxL) hlen
  rw [lg_entry_eq]
  generalize (lg_sl av ++ List.replicate (maxL - (lg_sl av).length) Slot.unset).toArray = ls at hl ⊢
  exact body (p, e, rm, s, m, av.toArray, below, meth, c, _) (va_A ws s.heap.size) ⟨⟨B.exec, B.bytes, hml, findClass_of_methodNamed B.named, atoms_spec (ws := wy) B.pre⟩, hK, fun q h => Or.inr h, rfl, B.returns, B.notSynchronized, hE, hk⟩ rfl ls s.heap [] hl hP hD0.self va_S.rf
theorem jMv.mk {post : va_W → Prop} (hk : jKp Ef) (hy : plainName y.cls = true) (hw : wy = Cond.code y cc maxL ret :: ws') (hlen : (lg_sl av).length ≤ maxL) (body : ∀ (X : jX) (A : Nat → Prop), jC Ef X l d A cc maxL wy y.cls rm ret → jQv X d A mc ms post → jJ X l d A maxL 0 0 ws (lv_args 0 av) 0 []) : jMv Ef d l y wy rm mc ms av ws post := by
  intro sz
  refine Met.ofW (cc := cc) (maxL := maxL) (ret := ret) hy hw ?_
  intro p e s m args below meth c s₁ B hml hv
  obtain ⟨rfl, hsz, hP, hK, hD0, hE⟩ := hv
  subst hsz
  have hl := lv_entry av (n := maxL) hlen
  rw [lg_entry_eq]
  generalize (lg_sl av ++ List.replicate (maxL - (lg_sl av).length) Slot.unset).toArray = ls at hl ⊢
  exact body (p, e, rm, s, m, av.toArray, below, meth, c, _) (va_A ws s.heap.size) ⟨⟨B.exec, B.bytes, hml, findClass_of_methodNamed B.named, atoms_spec (ws := wy) B.pre⟩, hK, fun q h => Or.inr h, rfl, B.returns, B.notSynchronized, hE, hk⟩ rfl ls s.heap [] hl hP hD0.self va_S.rf
theorem jMq.mk {post : Option Nat → va_W → Prop} (hk : jKp Ef) (hy : plainName y.cls = true) (hw : wy = Cond.code y cc maxL ret :: ws') (hlen : (lg_sl av).length ≤ maxL) (body : ∀ (X : jX) (A : Nat → Prop), jC Ef X l d A cc maxL wy y.cls rm ret → jQq X d A mc ms post → jJ X l d A maxL 0 0 ws (lv_args 0 av) 0 []) : jMq Ef d l y wy rm mc ms av ws post := by
  intro sz
  refine Met.ofW (cc := cc) (maxL := maxL) (ret := ret) hy hw ?_
  intro p e s m args below meth c s₁ B hml hv
  obtain ⟨rfl, hsz, hP, hK, hD0, hE⟩ := hv
  subst hsz
  have hl := lv_entry av (n := maxL) hlen
  rw [lg_entry_eq]
  generalize (lg_sl av ++ List.replicate (maxL - (lg_sl av).length) Slot.unset).toArray = ls at hl ⊢
  exact body (p, e, rm, s, m, av.toArray, below, meth, c, _) (va_A ws s.heap.size) ⟨⟨B.exec, B.bytes, hml, findClass_of_methodNamed B.named, atoms_spec (ws := wy) B.pre⟩, hK, fun q h => Or.inr h, rfl, B.returns, B.notSynchronized, hE, hk⟩ rfl ls s.heap [] hl hP hD0.self va_S.rf
end JIN
section JROWS
variable {Ef : jE} {X : jX} {l : Launch} {d : jD} {A : Nat → Prop} {cc : ByteArray} {nL cells slots : Nat} {Ts : List Cond} {own : String} {rm : Room} {ret : Option FieldType} {ws : va_W} {lv : List (Nat × Value)} {pc : Nat} {st : List Value}
theorem j_iconst (C : jC Ef X l d A cc nL Ts own rm ret) {n : Int} (v : Int32) (hdg : decode cc pc = .ok (.iconst n, 1)) (hv : Int32.ofInt n = v) (k : jJ X l d A nL cells slots ws lv (pc + 1) (.int v :: st)) : jJ X l d A nL cells slots ws lv pc st := by
  obtain ⟨p, e, R, s, m, args, below, meth, c, Q⟩ := X
  exact fun ls H locs hl hP hD hS => lv_iconst C.1.1 C.1.2.1 hdg hv (k ls H locs hl hP hD hS)
theorem j_bipush (C : jC Ef X l d A cc nL Ts own rm ret) {n : Int} (v : Int32) (hdg : decode cc pc = .ok (.bipush n, 2)) (hv : (Int8.ofInt n).toInt32 = v) (k : jJ X l d A nL cells slots ws lv (pc + 2) (.int v :: st)) : jJ X l d A nL cells slots ws lv pc st := by
  obtain ⟨p, e, R, s, m, args, below, meth, c, Q⟩ := X
  exact fun ls H locs hl hP hD hS => lv_bipush C.1.1 C.1.2.1 hdg hv (k ls H locs hl hP hD hS)
theorem j_sipush (C : jC Ef X l d A cc nL Ts own rm ret) {n : Int} (v : Int32) (hdg : decode cc pc = .ok (.sipush n, 3)) (hv : (Int16.ofInt n).toInt32 = v) (k : jJ X l d A nL cells slots ws lv (pc + 3) (.int v :: st)) : jJ X l d A nL cells slots ws lv pc st := by
  obtain ⟨p, e, R, s, m, args, below, meth, c, Q⟩ := X
  exact fun ls H locs hl hP hD hS => lv_sipush C.1.1 C.1.2.1 hdg hv (k ls H locs hl hP hD hS)
theorem j_lconst (C : jC Ef X l d A cc nL Ts own rm ret) {n : Fin 2} (v : Int64) (hdg : decode cc pc = .ok (.lconst n, 1)) (hv : Int64.ofNat (n : Nat) = v) (k : jJ X l d A nL cells slots ws lv (pc + 1) (.long v :: st)) : jJ X l d A nL cells slots ws lv pc st := by
  obtain ⟨p, e, R, s, m, args, below, meth, c, Q⟩ := X
  exact fun ls H locs hl hP hD hS => lv_lconst C.1.1 C.1.2.1 hdg hv (k ls H locs hl hP hD hS)
theorem j_ldc2 (C : jC Ef X l d A cc nL Ts own rm ret) {index : Nat} (v : Int64) (hm : Jvm.Cond.constantLong own index v ∈ Ts) (hdg : decode cc pc = .ok (.ldc2_w index, 3)) (k : jJ X l d A nL cells slots ws lv (pc + 3) (.long v :: st)) : jJ X l d A nL cells slots ws lv pc st := by
  obtain ⟨p, e, R, s, m, args, below, meth, c, Q⟩ := X
  exact fun ls H locs hl hP hD hS => lv_ldc2 C.1.1 C.1.2.1 C.1.2.2.2.1 (C.1.2.2.2.2 _ hm) hdg (k ls H locs hl hP hD hS)
theorem lvAt {ls : Array Slot} {n i : Nat} {v : Value} (h : lv_has ls n lv) (k : Nat) (hk : lv[k]? = some (i, v)) : ls[i]? = some (.val v) := lv_at h k hk
theorem j_iload_n (C : jC Ef X l d A cc nL Ts own rm ret) {n : Fin 4} {i : Nat} {x : Int32} (k : Nat) (hdg : decode cc pc = .ok (.iload_n n, 1)) (hi : (n : Nat) = i) (hk : lv[k]? = some (i, .int x)) (kk : jJ X l d A nL cells slots ws lv (pc + 1) (.int x :: st)) : jJ X l d A nL cells slots ws lv pc st := by
  obtain ⟨p, e, R, s, m, args, below, meth, c, Q⟩ := X
  exact fun ls H locs hl hP hD hS => lv_iload_n C.1.1 C.1.2.1 hdg hi (lvAt hl k hk) (kk ls H locs hl hP hD hS)
theorem j_iload (C : jC Ef X l d A cc nL Ts own rm ret) {i : Nat} {x : Int32} (k : Nat) (hdg : decode cc pc = .ok (.iload i, 2)) (hk : lv[k]? = some (i, .int x)) (kk : jJ X l d A nL cells slots ws lv (pc + 2) (.int x :: st)) : jJ X l d A nL cells slots ws lv pc st := by
  obtain ⟨p, e, R, s, m, args, below, meth, c, Q⟩ := X
  exact fun ls H locs hl hP hD hS => lv_iload C.1.1 C.1.2.1 hdg (lvAt hl k hk) (kk ls H locs hl hP hD hS)
theorem j_lload_n (C : jC Ef X l d A cc nL Ts own rm ret) {n : Fin 4} {i : Nat} {x : Int64} (k : Nat) (hdg : decode cc pc = .ok (.lload_n n, 1)) (hi : (n : Nat) = i) (hk : lv[k]? = some (i, .long x)) (kk : jJ X l d A nL cells slots ws lv (pc + 1) (.long x :: st)) : jJ X l d A nL cells slots ws lv pc st := by
  obtain ⟨p, e, R, s, m, args, below, meth, c, Q⟩ := X
  exact fun ls H locs hl hP hD hS => lv_lload_n C.1.1 C.1.2.1 hdg hi (lvAt hl k hk) (kk ls H locs hl hP hD hS)
theorem j_lload (C : jC Ef X l d A cc nL Ts own rm ret) {i : Nat} {x : Int64} (k : Nat) (hdg : decode cc pc = .ok (.lload i, 2)) (hk : lv[k]? = some (i, .long x)) (kk : jJ X l d A nL cells slots ws lv (pc + 2) (.long x :: st)) : jJ X l d A nL cells slots ws lv pc st := by
  obtain ⟨p, e, R, s, m, args, below, meth, c, Q⟩ := X
  exact fun ls H locs hl hP hD hS => lv_lload C.1.1 C.1.2.1 hdg (lvAt hl k hk) (kk ls H locs hl hP hD hS)
theorem j_aload_n (C : jC Ef X l d A cc nL Ts own rm ret) {n : Fin 4} {i : Nat} {x : Nat} (k : Nat) (hdg : decode cc pc = .ok (.aload_n n, 1)) (hi : (n : Nat) = i) (hk : lv[k]? = some (i, .ref x)) (kk : jJ X l d A nL cells slots ws lv (pc + 1) (.ref x :: st)) : jJ X l d A nL cells slots ws lv pc st := by
  obtain ⟨p, e, R, s, m, args, below, meth, c, Q⟩ := X
  exact fun ls H locs hl hP hD hS => lv_aload_n C.1.1 C.1.2.1 hdg hi (lvAt hl k hk) (kk ls H locs hl hP hD hS)
theorem j_aload (C : jC Ef X l d A cc nL Ts own rm ret) {i : Nat} {x : Nat} (k : Nat) (hdg : decode cc pc = .ok (.aload i, 2)) (hk : lv[k]? = some (i, .ref x)) (kk : jJ X l d A nL cells slots ws lv (pc + 2) (.ref x :: st)) : jJ X l d A nL cells slots ws lv pc st := by
  obtain ⟨p, e, R, s, m, args, below, meth, c, Q⟩ := X
  exact fun ls H locs hl hP hD hS => lv_aload C.1.1 C.1.2.1 hdg (lvAt hl k hk) (kk ls H locs hl hP hD hS)
theorem j_aload_nN (C : jC Ef X l d A cc nL Ts own rm ret) {n : Fin 4} {i : Nat} (k : Nat) (hdg : decode cc pc = .ok (.aload_n n, 1)) (hi : (n : Nat) = i) (hk : lv[k]? = some (i, .null)) (kk : jJ X l d A nL cells slots ws lv (pc + 1) (.null :: st)) : jJ X l d A nL cells slots ws lv pc st := by
  obtain ⟨p, e, R, s, m, args, below, meth, c, Q⟩ := X
  exact fun ls H locs hl hP hD hS => lv_aload_nN C.1.1 C.1.2.1 hdg hi (lvAt hl k hk) (kk ls H locs hl hP hD hS)
theorem j_aloadN (C : jC Ef X l d A cc nL Ts own rm ret) {i : Nat} (k : Nat) (hdg : decode cc pc = .ok (.aload i, 2)) (hk : lv[k]? = some (i, .null)) (kk : jJ X l d A nL cells slots ws lv (pc + 2) (.null :: st)) : jJ X l d A nL cells slots ws lv pc st := by
  obtain ⟨p, e, R, s, m, args, below, meth, c, Q⟩ := X
  exact fun ls H locs hl hP hD hS => lv_aloadN C.1.1 C.1.2.1 hdg (lvAt hl k hk) (kk ls H locs hl hP hD hS)
/-- the locals may be listed otherwise -/
theorem j_lv {lv' : List (Nat × Value)} (is : List Nat) (h : lv_pick lv is = lv') (k : jJ X l d A nL cells slots ws lv' pc st) : jJ X l d A nL cells slots ws lv pc st := by
  obtain ⟨p, e, R, s, m, args, below, meth, c, Q⟩ := X
  exact fun ls H locs hl hP hD hS => k ls H locs (lv_sub hl is h) hP hD hS
theorem j_istore_n (C : jC Ef X l d A cc nL Ts own rm ret) {n : Fin 4} {i : Nat} {x : Int32} (lv' : List (Nat × Value)) (is : List Nat) (hdg : decode cc pc = .ok (.istore_n n, 1)) (hi : (n : Nat) = i) (hn : i < nL) (hl' : lv_pick ((i, Value.int x) :: lv.filter (fun q => !(q.1 == i) && !(q.1 + 1 == i && q.2.category == 2))) is = lv') (kk : jJ X l d A nL cells slots ws lv' (pc + 1) st) : jJ X l d A nL cells slots ws lv pc (.int x :: st) := by
  obtain ⟨p, e, R, s, m, args, below, meth, c, Q⟩ := X
  exact fun ls H locs hl hP hD hS => lv_istore_n C.1.1 C.1.2.1 hdg hi hl hn rfl (fun ls' h => kk ls' H locs (lv_sub h is hl') hP hD hS)
theorem j_istore (C : jC Ef X l d A cc nL Ts own rm ret) {i : Nat} {x : Int32} (lv' : List (Nat × Value)) (is : List Nat) (hdg : decode cc pc = .ok (.istore i, 2)) (hn : i < nL) (hl' : lv_pick ((i, Value.int x) :: lv.filter (fun q => !(q.1 == i) && !(q.1 + 1 == i && q.2.category == 2))) is = lv') (kk : jJ X l d A nL cells slots ws lv' (pc + 2) st) : jJ X l d A nL cells slots ws lv pc (.int x :: st) := by
  obtain ⟨p, e, R, s, m, args, below, meth, c, Q⟩ := X
  exact fun ls H locs hl hP hD hS => lv_istore C.1.1 C.1.2.1 hdg hl hn rfl (fun ls' h => kk ls' H locs (lv_sub h is hl') hP hD hS)
theorem j_lstore_n (C : jC Ef X l d A cc nL Ts own rm ret) {n : Fin 4} {i : Nat} {x : Int64} (lv' : List (Nat × Value)) (is : List Nat) (hdg : decode cc pc = .ok (.lstore_n n, 1)) (hi : (n : Nat) = i) (hn : i + 1 < nL) (hl' : lv_pick ((i, Value.long x) :: lv.filter (fun q => !(q.1 == i) && (!(q.1 == i + 1) && !(q.1 + 1 == i && q.2.category == 2)))) is = lv') (kk : jJ X l d A nL cells slots ws lv' (pc + 1) st) : jJ X l d A nL cells slots ws lv pc (.long x :: st) := by
  obtain ⟨p, e, R, s, m, args, below, meth, c, Q⟩ := X
  exact fun ls H locs hl hP hD hS => lv_lstore_n C.1.1 C.1.2.1 hdg hi hl hn rfl (fun ls' h => kk ls' H locs (lv_sub h is hl') hP hD hS)
theorem j_lstore (C : jC Ef X l d A cc nL Ts own rm ret) {i : Nat} {x : Int64} (lv' : List (Nat × Value)) (is : List Nat) (hdg : decode cc pc = .ok (.lstore i, 2)) (hn : i + 1 < nL) (hl' : lv_pick ((i, Value.long x) :: lv.filter (fun q => !(q.1 == i) && (!(q.1 == i + 1) && !(q.1 + 1 == i && q.2.category == 2)))) is = lv') (kk : jJ X l d A nL cells slots ws lv' (pc + 2) st) : jJ X l d A nL cells slots ws lv pc (.long x :: st) := by
  obtain ⟨p, e, R, s, m, args, below, meth, c, Q⟩ := X
  exact fun ls H locs hl hP hD hS => lv_lstore C.1.1 C.1.2.1 hdg hl hn rfl (fun ls' h => kk ls' H locs (lv_sub h is hl') hP hD hS)
theorem j_astore_n (C : jC Ef X l d A cc nL Ts own rm ret) {n : Fin 4} {i : Nat} {x : Nat} (lv' : List (Nat × Value)) (is : List Nat) (hdg : decode cc pc = .ok (.astore_n n, 1)) (hi : (n : Nat) = i) (hn : i < nL) (hl' : lv_pick ((i, Value.ref x) :: lv.filter (fun q => !(q.1 == i) && !(q.1 + 1 == i && q.2.category == 2))) is = lv') (kk : jJ X l d A nL cells slots ws lv' (pc + 1) st) : jJ X l d A nL cells slots ws lv pc (.ref x :: st) := by
  obtain ⟨p, e, R, s, m, args, below, meth, c, Q⟩ := X
  exact fun ls H locs hl hP hD hS => lv_astore_n C.1.1 C.1.2.1 hdg hi hl hn rfl (fun ls' h => kk ls' H locs (lv_sub h is hl') hP hD hS)
theorem j_astore (C : jC Ef X l d A cc nL Ts own rm ret) {i : Nat} {x : Nat} (lv' : List (Nat × Value)) (is : List Nat) (hdg : decode cc pc = .ok (.astore i, 2)) (hn : i < nL) (hl' : lv_pick ((i, Value.ref x) :: lv.filter (fun q => !(q.1 == i) && !(q.1 + 1 == i && q.2.category == 2))) is = lv') (kk : jJ X l d A nL cells slots ws lv' (pc + 2) st) : jJ X l d A nL cells slots ws lv pc (.ref x :: st) := by
  obtain ⟨p, e, R, s, m, args, below, meth, c, Q⟩ := X
  exact fun ls H locs hl hP hD hS => lv_astore C.1.1 C.1.2.1 hdg hl hn rfl (fun ls' h => kk ls' H locs (lv_sub h is hl') hP hD hS)
theorem j_astore_nN (C : jC Ef X l d A cc nL Ts own rm ret) {n : Fin 4} {i : Nat} (lv' : List (Nat × Value)) (is : List Nat) (hdg : decode cc pc = .ok (.astore_n n, 1)) (hi : (n : Nat) = i) (hn : i < nL) (hl' : lv_pick ((i, Value.null) :: lv.filter (fun q => !(q.1 == i) && !(q.1 + 1 == i && q.2.category == 2))) is = lv') (kk : jJ X l d A nL cells slots ws lv' (pc + 1) st) : jJ X l d A nL cells slots ws lv pc (.null :: st) := by
  obtain ⟨p, e, R, s, m, args, below, meth, c, Q⟩ := X
  exact fun ls H locs hl hP hD hS => lv_astore_nN C.1.1 C.1.2.1 hdg hi hl hn rfl (fun ls' h => kk ls' H locs (lv_sub h is hl') hP hD hS)
theorem j_astoreN (C : jC Ef X l d A cc nL Ts own rm ret) {i : Nat} (lv' : List (Nat × Value)) (is : List Nat) (hdg : decode cc pc = .ok (.astore i, 2)) (hn : i < nL) (hl' : lv_pick ((i, Value.null) :: lv.filter (fun q => !(q.1 == i) && !(q.1 + 1 == i && q.2.category == 2))) is = lv') (kk : jJ X l d A nL cells slots ws lv' (pc + 2) st) : jJ X l d A nL cells slots ws lv pc (.null :: st) := by
  obtain ⟨p, e, R, s, m, args, below, meth, c, Q⟩ := X
  exact fun ls H locs hl hP hD hS => lv_astoreN C.1.1 C.1.2.1 hdg hl hn rfl (fun ls' h => kk ls' H locs (lv_sub h is hl') hP hD hS)
theorem j_iinc (C : jC Ef X l d A cc nL Ts own rm ret) {i : Nat} {n : Int} {x : Int32} (v : Int32) (lv' : List (Nat × Value)) (k : Nat) (is : List Nat) (hdg : decode cc pc = .ok (.iinc i n, 3)) (hk : lv[k]? = some (i, .int x)) (hv : x + Int32.ofInt n = v) (hn : i < nL) (hl' : lv_pick ((i, Value.int v) :: lv.filter (fun q => !(q.1 == i) && !(q.1 + 1 == i && q.2.category == 2))) is = lv') (kk : jJ X l d A nL cells slots ws lv' (pc + 3) st) : jJ X l d A nL cells slots ws lv pc st := by
  obtain ⟨p, e, R, s, m, args, below, meth, c, Q⟩ := X
  exact fun ls H locs hl hP hD hS => lv_iinc C.1.1 C.1.2.1 hdg hl hk hv hn rfl (fun ls' h => kk ls' H locs (lv_sub h is hl') hP hD hS)
theorem j_iadd (C : jC Ef X l d A cc nL Ts own rm ret) {x y : Int32} (hdg : decode cc pc = .ok (.iadd, 1)) (k : jJ X l d A nL cells slots ws lv (pc + 1) (.int (x + y) :: st)) : jJ X l d A nL cells slots ws lv pc (.int y :: .int x :: st) := by
  obtain ⟨p, e, R, s, m, args, below, meth, c, Q⟩ := X
  exact fun ls H locs hl hP hD hS => lv_iadd C.1.1 C.1.2.1 hdg (k ls H locs hl hP hD hS)
theorem j_isub (C : jC Ef X l d A cc nL Ts own rm ret) {x y : Int32} (hdg : decode cc pc = .ok (.isub, 1)) (k : jJ X l d A nL cells slots ws lv (pc + 1) (.int (x - y) :: st)) : jJ X l d A nL cells slots ws lv pc (.int y :: .int x :: st) := by
  obtain ⟨p, e, R, s, m, args, below, meth, c, Q⟩ := X
  exact fun ls H locs hl hP hD hS => lv_isub C.1.1 C.1.2.1 hdg (k ls H locs hl hP hD hS)
theorem j_imul (C : jC Ef X l d A cc nL Ts own rm ret) {x y : Int32} (hdg : decode cc pc = .ok (.imul, 1)) (k : jJ X l d A nL cells slots ws lv (pc + 1) (.int (x * y) :: st)) : jJ X l d A nL cells slots ws lv pc (.int y :: .int x :: st) := by
  obtain ⟨p, e, R, s, m, args, below, meth, c, Q⟩ := X
  exact fun ls H locs hl hP hD hS => lv_imul C.1.1 C.1.2.1 hdg (k ls H locs hl hP hD hS)
theorem j_iand (C : jC Ef X l d A cc nL Ts own rm ret) {x y : Int32} (hdg : decode cc pc = .ok (.iand, 1)) (k : jJ X l d A nL cells slots ws lv (pc + 1) (.int (x &&& y) :: st)) : jJ X l d A nL cells slots ws lv pc (.int y :: .int x :: st) := by
  obtain ⟨p, e, R, s, m, args, below, meth, c, Q⟩ := X
  exact fun ls H locs hl hP hD hS => lv_iand C.1.1 C.1.2.1 hdg (k ls H locs hl hP hD hS)
theorem j_ior (C : jC Ef X l d A cc nL Ts own rm ret) {x y : Int32} (hdg : decode cc pc = .ok (.ior, 1)) (k : jJ X l d A nL cells slots ws lv (pc + 1) (.int (x ||| y) :: st)) : jJ X l d A nL cells slots ws lv pc (.int y :: .int x :: st) := by
  obtain ⟨p, e, R, s, m, args, below, meth, c, Q⟩ := X
  exact fun ls H locs hl hP hD hS => lv_ior C.1.1 C.1.2.1 hdg (k ls H locs hl hP hD hS)
theorem j_ishl (C : jC Ef X l d A cc nL Ts own rm ret) {x y : Int32} (hdg : decode cc pc = .ok (.ishl, 1)) (k : jJ X l d A nL cells slots ws lv (pc + 1) (.int (x <<< (y &&& 31)) :: st)) : jJ X l d A nL cells slots ws lv pc (.int y :: .int x :: st) := by
  obtain ⟨p, e, R, s, m, args, below, meth, c, Q⟩ := X
  exact fun ls H locs hl hP hD hS => lv_ishl C.1.1 C.1.2.1 hdg (k ls H locs hl hP hD hS)
theorem j_ishr (C : jC Ef X l d A cc nL Ts own rm ret) {x y : Int32} (hdg : decode cc pc = .ok (.ishr, 1)) (k : jJ X l d A nL cells slots ws lv (pc + 1) (.int (x >>> (y &&& 31)) :: st)) : jJ X l d A nL cells slots ws lv pc (.int y :: .int x :: st) := by
  obtain ⟨p, e, R, s, m, args, below, meth, c, Q⟩ := X
  exact fun ls H locs hl hP hD hS => lv_ishr C.1.1 C.1.2.1 hdg (k ls H locs hl hP hD hS)
theorem j_idiv (C : jC Ef X l d A cc nL Ts own rm ret) {x y : Int32} (hdg : decode cc pc = .ok (.idiv, 1)) (hne : ¬ y = 0) (k : jJ X l d A nL cells slots ws lv (pc + 1) (.int (x / y) :: st)) : jJ X l d A nL cells slots ws lv pc (.int y :: .int x :: st) := by
  obtain ⟨p, e, R, s, m, args, below, meth, c, Q⟩ := X
  exact fun ls H locs hl hP hD hS => lv_idiv C.1.1 C.1.2.1 hdg hne (k ls H locs hl hP hD hS)
theorem j_irem (C : jC Ef X l d A cc nL Ts own rm ret) {x y : Int32} (hdg : decode cc pc = .ok (.irem, 1)) (hne : ¬ y = 0) (k : jJ X l d A nL cells slots ws lv (pc + 1) (.int (x - x / y * y) :: st)) : jJ X l d A nL cells slots ws lv pc (.int y :: .int x :: st) := by
  obtain ⟨p, e, R, s, m, args, below, meth, c, Q⟩ := X
  exact fun ls H locs hl hP hD hS => lv_irem C.1.1 C.1.2.1 hdg hne (k ls H locs hl hP hD hS)
theorem j_ladd (C : jC Ef X l d A cc nL Ts own rm ret) {x y : Int64} (hdg : decode cc pc = .ok (.ladd, 1)) (k : jJ X l d A nL cells slots ws lv (pc + 1) (.long (x + y) :: st)) : jJ X l d A nL cells slots ws lv pc (.long y :: .long x :: st) := by
  obtain ⟨p, e, R, s, m, args, below, meth, c, Q⟩ := X
  exact fun ls H locs hl hP hD hS => lv_ladd C.1.1 C.1.2.1 hdg (k ls H locs hl hP hD hS)
theorem j_lsub (C : jC Ef X l d A cc nL Ts own rm ret) {x y : Int64} (hdg : decode cc pc = .ok (.lsub, 1)) (k : jJ X l d A nL cells slots ws lv (pc + 1) (.long (x - y) :: st)) : jJ X l d A nL cells slots ws lv pc (.long y :: .long x :: st) := by
  obtain ⟨p, e, R, s, m, args, below, meth, c, Q⟩ := X
  exact fun ls H locs hl hP hD hS => lv_lsub C.1.1 C.1.2.1 hdg (k ls H locs hl hP hD hS)
theorem j_lmul (C : jC Ef X l d A cc nL Ts own rm ret) {x y : Int64} (hdg : decode cc pc = .ok (.lmul, 1)) (k : jJ X l d A nL cells slots ws lv (pc + 1) (.long (x * y) :: st)) : jJ X l d A nL cells slots ws lv pc (.long y :: .long x :: st) := by
  obtain ⟨p, e, R, s, m, args, below, meth, c, Q⟩ := X
  exact fun ls H locs hl hP hD hS => lv_lmul C.1.1 C.1.2.1 hdg (k ls H locs hl hP hD hS)
theorem j_ldiv (C : jC Ef X l d A cc nL Ts own rm ret) {x y : Int64} (hdg : decode cc pc = .ok (.ldiv, 1)) (hne : ¬ y = 0) (k : jJ X l d A nL cells slots ws lv (pc + 1) (.long (x / y) :: st)) : jJ X l d A nL cells slots ws lv pc (.long y :: .long x :: st) := by
  obtain ⟨p, e, R, s, m, args, below, meth, c, Q⟩ := X
  exact fun ls H locs hl hP hD hS => lv_ldiv C.1.1 C.1.2.1 hdg hne (k ls H locs hl hP hD hS)
theorem j_lrem (C : jC Ef X l d A cc nL Ts own rm ret) {x y : Int64} (hdg : decode cc pc = .ok (.lrem, 1)) (hne : ¬ y = 0) (k : jJ X l d A nL cells slots ws lv (pc + 1) (.long (x - x / y * y) :: st)) : jJ X l d A nL cells slots ws lv pc (.long y :: .long x :: st) := by
  obtain ⟨p, e, R, s, m, args, below, meth, c, Q⟩ := X
  exact fun ls H locs hl hP hD hS => lv_lrem C.1.1 C.1.2.1 hdg hne (k ls H locs hl hP hD hS)
theorem j_iushr (C : jC Ef X l d A cc nL Ts own rm ret) {x y : Int32} (hdg : decode cc pc = .ok (.iushr, 1)) (k : jJ X l d A nL cells slots ws lv (pc + 1) (.int ((x.toUInt32 >>> (y.toUInt32 &&& Int32.toUInt32 31)).toInt32) :: st)) : jJ X l d A nL cells slots ws lv pc (.int y :: .int x :: st) := by
  obtain ⟨p, e, R, s, m, args, below, meth, c, Q⟩ := X
  exact fun ls H locs hl hP hD hS => lv_iushr C.1.1 C.1.2.1 hdg rfl (k ls H locs hl hP hD hS)
theorem j_i2l (C : jC Ef X l d A cc nL Ts own rm ret) {x : Int32} (hdg : decode cc pc = .ok (.i2l, 1)) (k : jJ X l d A nL cells slots ws lv (pc + 1) (.long (x.toInt64) :: st)) : jJ X l d A nL cells slots ws lv pc (.int x :: st) := by
  obtain ⟨p, e, R, s, m, args, below, meth, c, Q⟩ := X
  exact fun ls H locs hl hP hD hS => lv_i2l C.1.1 C.1.2.1 hdg rfl (k ls H locs hl hP hD hS)
theorem j_i2b (C : jC Ef X l d A cc nL Ts own rm ret) {x : Int32} (hdg : decode cc pc = .ok (.i2b, 1)) (k : jJ X l d A nL cells slots ws lv (pc + 1) (.int (x.toInt8.toInt32) :: st)) : jJ X l d A nL cells slots ws lv pc (.int x :: st) := by
  obtain ⟨p, e, R, s, m, args, below, meth, c, Q⟩ := X
  exact fun ls H locs hl hP hD hS => lv_i2b C.1.1 C.1.2.1 hdg rfl (k ls H locs hl hP hD hS)
theorem j_lcmp (C : jC Ef X l d A cc nL Ts own rm ret) {x y : Int64} (hdg : decode cc pc = .ok (.lcmp, 1)) (k : jJ X l d A nL cells slots ws lv (pc + 1) (.int (lg_cmp x y) :: st)) : jJ X l d A nL cells slots ws lv pc (.long y :: .long x :: st) := by
  obtain ⟨p, e, R, s, m, args, below, meth, c, Q⟩ := X
  exact fun ls H locs hl hP hD hS => W.lcmp C.1.1 C.1.2.1 hdg (k ls H locs hl hP hD hS)
theorem j_dup (C : jC Ef X l d A cc nL Ts own rm ret) {va : Value} (hdg : decode cc pc = .ok (.dup, 1)) (hva : va.category = 1) (k : jJ X l d A nL cells slots ws lv (pc + 1) (va :: va :: st)) : jJ X l d A nL cells slots ws lv pc (va :: st) := by
  obtain ⟨p, e, R, s, m, args, below, meth, c, Q⟩ := X
  exact fun ls H locs hl hP hD hS => lv_dup C.1.1 C.1.2.1 hdg hva (k ls H locs hl hP hD hS)
theorem j_pop (C : jC Ef X l d A cc nL Ts own rm ret) {va : Value} (hdg : decode cc pc = .ok (.pop, 1)) (hva : va.category = 1) (k : jJ X l d A nL cells slots ws lv (pc + 1) st) : jJ X l d A nL cells slots ws lv pc (va :: st) := by
  obtain ⟨p, e, R, s, m, args, below, meth, c, Q⟩ := X
  exact fun ls H locs hl hP hD hS => lv_pop C.1.1 C.1.2.1 hdg hva (k ls H locs hl hP hD hS)
theorem j_dup_x1 (C : jC Ef X l d A cc nL Ts own rm ret) {va vb : Value} (hdg : decode cc pc = .ok (.dup_x1, 1)) (hva : va.category = 1) (hvb : vb.category = 1) (k : jJ X l d A nL cells slots ws lv (pc + 1) (va :: vb :: va :: st)) : jJ X l d A nL cells slots ws lv pc (va :: vb :: st) := by
  obtain ⟨p, e, R, s, m, args, below, meth, c, Q⟩ := X
  exact fun ls H locs hl hP hD hS => lv_dup_x1 C.1.1 C.1.2.1 hdg hva hvb (k ls H locs hl hP hD hS)
theorem j_dup2 (C : jC Ef X l d A cc nL Ts own rm ret) {va vb : Value} (hdg : decode cc pc = .ok (.dup2, 1)) (hva : va.category = 1) (hvb : vb.category = 1) (k : jJ X l d A nL cells slots ws lv (pc + 1) (va :: vb :: va :: vb :: st)) : jJ X l d A nL cells slots ws lv pc (va :: vb :: st) := by
  obtain ⟨p, e, R, s, m, args, below, meth, c, Q⟩ := X
  exact fun ls H locs hl hP hD hS => lv_dup2_11 C.1.1 C.1.2.1 hdg hva hvb (k ls H locs hl hP hD hS)
theorem j_null (C : jC Ef X l d A cc nL Ts own rm ret) (hdg : decode cc pc = .ok (.aconst_null, 1)) (k : jJ X l d A nL cells slots ws lv (pc + 1) (.null :: st)) : jJ X l d A nL cells slots ws lv pc st := by
  obtain ⟨p, e, R, s, m, args, below, meth, c, Q⟩ := X
  exact fun ls H locs hl hP hD hS => lv_null C.1.1 C.1.2.1 hdg (k ls H locs hl hP hD hS)
theorem j_goto (C : jC Ef X l d A cc nL Ts own rm ret) {off : Int} (tgt : Nat) (hdg : decode cc pc = .ok (.goto off, 3)) (ht : (pc : Int) + off = (tgt : Int)) (k : jJ X l d A nL cells slots ws lv tgt st) : jJ X l d A nL cells slots ws lv pc st := by
  obtain ⟨p, e, R, s, m, args, below, meth, c, Q⟩ := X
  exact fun ls H locs hl hP hD hS => lv_goto C.1.1 C.1.2.1 hdg ht (k ls H locs hl hP hD hS)
theorem j_ifnonnull (C : jC Ef X l d A cc nL Ts own rm ret) {x : Nat} {off : Int} (tgt : Nat) (hdg : decode cc pc = .ok (.ifnonnull off, 3)) (ht : (pc : Int) + off = (tgt : Int)) (k : jJ X l d A nL cells slots ws lv tgt st) : jJ X l d A nL cells slots ws lv pc (.ref x :: st) := by
  obtain ⟨p, e, R, s, m, args, below, meth, c, Q⟩ := X
  exact fun ls H locs hl hP hD hS => lv_ifnonnull C.1.1 C.1.2.1 hdg ht (k ls H locs hl hP hD hS)
theorem j_ifnull (C : jC Ef X l d A cc nL Ts own rm ret) {x : Nat} {off : Int} (hdg : decode cc pc = .ok (.ifnull off, 3)) (k : jJ X l d A nL cells slots ws lv (pc + 3) st) : jJ X l d A nL cells slots ws lv pc (.ref x :: st) := by
  obtain ⟨p, e, R, s, m, args, below, meth, c, Q⟩ := X
  exact fun ls H locs hl hP hD hS => lv_ifnull C.1.1 C.1.2.1 hdg (k ls H locs hl hP hD hS)
theorem j_ifnullN (C : jC Ef X l d A cc nL Ts own rm ret) {off : Int} (tgt : Nat) (hdg : decode cc pc = .ok (.ifnull off, 3)) (ht : (pc : Int) + off = (tgt : Int)) (k : jJ X l d A nL cells slots ws lv tgt st) : jJ X l d A nL cells slots ws lv pc (.null :: st) := by
  obtain ⟨p, e, R, s, m, args, below, meth, c, Q⟩ := X
  exact fun ls H locs hl hP hD hS => lv_ifnullN C.1.1 C.1.2.1 hdg ht (k ls H locs hl hP hD hS)
theorem j_ifnonnullN (C : jC Ef X l d A cc nL Ts own rm ret) {off : Int} (hdg : decode cc pc = .ok (.ifnonnull off, 3)) (k : jJ X l d A nL cells slots ws lv (pc + 3) st) : jJ X l d A nL cells slots ws lv pc (.null :: st) := by
  obtain ⟨p, e, R, s, m, args, below, meth, c, Q⟩ := X
  exact fun ls H locs hl hP hD hS => lv_ifnonnullN C.1.1 C.1.2.1 hdg (k ls H locs hl hP hD hS)
theorem j_if_eq (C : jC Ef X l d A cc nL Ts own rm ret) {x : Int32} {off : Int} (tgt : Nat) (hdg : decode cc pc = .ok (.ifCond .eq off, 3)) (ht : (pc : Int) + off = (tgt : Int)) (kt : x = 0 → jJ X l d A nL cells slots ws lv tgt st) (kf : ¬ x = 0 → jJ X l d A nL cells slots ws lv (pc + 3) st) : jJ X l d A nL cells slots ws lv pc (.int x :: st) := by
  obtain ⟨p, e, R, s, m, args, below, meth, c, Q⟩ := X
  exact fun ls H locs hl hP hD hS => lv_if_eq C.1.1 C.1.2.1 hdg ht (fun h => kt h ls H locs hl hP hD hS) (fun h => kf h ls H locs hl hP hD hS)
theorem j_icmp_eq (C : jC Ef X l d A cc nL Ts own rm ret) {x y : Int32} {off : Int} (tgt : Nat) (hdg : decode cc pc = .ok (.if_icmp .eq off, 3)) (ht : (pc : Int) + off = (tgt : Int)) (kt : x = y → jJ X l d A nL cells slots ws lv tgt st) (kf : ¬ x = y → jJ X l d A nL cells slots ws lv (pc + 3) st) : jJ X l d A nL cells slots ws lv pc (.int y :: .int x :: st) := by
  obtain ⟨p, e, R, s, m, args, below, meth, c, Q⟩ := X
  exact fun ls H locs hl hP hD hS => lv_icmp_eq C.1.1 C.1.2.1 hdg ht (fun h => kt h ls H locs hl hP hD hS) (fun h => kf h ls H locs hl hP hD hS)
theorem j_if_ne (C : jC Ef X l d A cc nL Ts own rm ret) {x : Int32} {off : Int} (tgt : Nat) (hdg : decode cc pc = .ok (.ifCond .ne off, 3)) (ht : (pc : Int) + off = (tgt : Int)) (kt : ¬ x = 0 → jJ X l d A nL cells slots ws lv tgt st) (kf : x = 0 → jJ X l d A nL cells slots ws lv (pc + 3) st) : jJ X l d A nL cells slots ws lv pc (.int x :: st) := by
  obtain ⟨p, e, R, s, m, args, below, meth, c, Q⟩ := X
  exact fun ls H locs hl hP hD hS => lv_if_ne C.1.1 C.1.2.1 hdg ht (fun h => kt h ls H locs hl hP hD hS) (fun h => kf h ls H locs hl hP hD hS)
theorem j_icmp_ne (C : jC Ef X l d A cc nL Ts own rm ret) {x y : Int32} {off : Int} (tgt : Nat) (hdg : decode cc pc = .ok (.if_icmp .ne off, 3)) (ht : (pc : Int) + off = (tgt : Int)) (kt : ¬ x = y → jJ X l d A nL cells slots ws lv tgt st) (kf : x = y → jJ X l d A nL cells slots ws lv (pc + 3) st) : jJ X l d A nL cells slots ws lv pc (.int y :: .int x :: st) := by
  obtain ⟨p, e, R, s, m, args, below, meth, c, Q⟩ := X
  exact fun ls H locs hl hP hD hS => lv_icmp_ne C.1.1 C.1.2.1 hdg ht (fun h => kt h ls H locs hl hP hD hS) (fun h => kf h ls H locs hl hP hD hS)
theorem j_if_lt (C : jC Ef X l d A cc nL Ts own rm ret) {x : Int32} {off : Int} (tgt : Nat) (hdg : decode cc pc = .ok (.ifCond .lt off, 3)) (ht : (pc : Int) + off = (tgt : Int)) (kt : x < 0 → jJ X l d A nL cells slots ws lv tgt st) (kf : ¬ x < 0 → jJ X l d A nL cells slots ws lv (pc + 3) st) : jJ X l d A nL cells slots ws lv pc (.int x :: st) := by
  obtain ⟨p, e, R, s, m, args, below, meth, c, Q⟩ := X
  exact fun ls H locs hl hP hD hS => lv_if_lt C.1.1 C.1.2.1 hdg ht (fun h => kt h ls H locs hl hP hD hS) (fun h => kf h ls H locs hl hP hD hS)
theorem j_icmp_lt (C : jC Ef X l d A cc nL Ts own rm ret) {x y : Int32} {off : Int} (tgt : Nat) (hdg : decode cc pc = .ok (.if_icmp .lt off, 3)) (ht : (pc : Int) + off = (tgt : Int)) (kt : x < y → jJ X l d A nL cells slots ws lv tgt st) (kf : ¬ x < y → jJ X l d A nL cells slots ws lv (pc + 3) st) : jJ X l d A nL cells slots ws lv pc (.int y :: .int x :: st) := by
  obtain ⟨p, e, R, s, m, args, below, meth, c, Q⟩ := X
  exact fun ls H locs hl hP hD hS => lv_icmp_lt C.1.1 C.1.2.1 hdg ht (fun h => kt h ls H locs hl hP hD hS) (fun h => kf h ls H locs hl hP hD hS)
theorem j_if_ge (C : jC Ef X l d A cc nL Ts own rm ret) {x : Int32} {off : Int} (tgt : Nat) (hdg : decode cc pc = .ok (.ifCond .ge off, 3)) (ht : (pc : Int) + off = (tgt : Int)) (kt : 0 ≤ x → jJ X l d A nL cells slots ws lv tgt st) (kf : ¬ 0 ≤ x → jJ X l d A nL cells slots ws lv (pc + 3) st) : jJ X l d A nL cells slots ws lv pc (.int x :: st) := by
  obtain ⟨p, e, R, s, m, args, below, meth, c, Q⟩ := X
  exact fun ls H locs hl hP hD hS => lv_if_ge C.1.1 C.1.2.1 hdg ht (fun h => kt h ls H locs hl hP hD hS) (fun h => kf h ls H locs hl hP hD hS)
theorem j_icmp_ge (C : jC Ef X l d A cc nL Ts own rm ret) {x y : Int32} {off : Int} (tgt : Nat) (hdg : decode cc pc = .ok (.if_icmp .ge off, 3)) (ht : (pc : Int) + off = (tgt : Int)) (kt : y ≤ x → jJ X l d A nL cells slots ws lv tgt st) (kf : ¬ y ≤ x → jJ X l d A nL cells slots ws lv (pc + 3) st) : jJ X l d A nL cells slots ws lv pc (.int y :: .int x :: st) := by
  obtain ⟨p, e, R, s, m, args, below, meth, c, Q⟩ := X
  exact fun ls H locs hl hP hD hS => lv_icmp_ge C.1.1 C.1.2.1 hdg ht (fun h => kt h ls H locs hl hP hD hS) (fun h => kf h ls H locs hl hP hD hS)
theorem j_if_gt (C : jC Ef X l d A cc nL Ts own rm ret) {x : Int32} {off : Int} (tgt : Nat) (hdg : decode cc pc = .ok (.ifCond .gt off, 3)) (ht : (pc : Int) + off = (tgt : Int)) (kt : 0 < x → jJ X l d A nL cells slots ws lv tgt st) (kf : ¬ 0 < x → jJ X l d A nL cells slots ws lv (pc + 3) st) : jJ X l d A nL cells slots ws lv pc (.int x :: st) := by
  obtain ⟨p, e, R, s, m, args, below, meth, c, Q⟩ := X
  exact fun ls H locs hl hP hD hS => lv_if_gt C.1.1 C.1.2.1 hdg ht (fun h => kt h ls H locs hl hP hD hS) (fun h => kf h ls H locs hl hP hD hS)
theorem j_icmp_gt (C : jC Ef X l d A cc nL Ts own rm ret) {x y : Int32} {off : Int} (tgt : Nat) (hdg : decode cc pc = .ok (.if_icmp .gt off, 3)) (ht : (pc : Int) + off = (tgt : Int)) (kt : y < x → jJ X l d A nL cells slots ws lv tgt st) (kf : ¬ y < x → jJ X l d A nL cells slots ws lv (pc + 3) st) : jJ X l d A nL cells slots ws lv pc (.int y :: .int x :: st) := by
  obtain ⟨p, e, R, s, m, args, below, meth, c, Q⟩ := X
  exact fun ls H locs hl hP hD hS => lv_icmp_gt C.1.1 C.1.2.1 hdg ht (fun h => kt h ls H locs hl hP hD hS) (fun h => kf h ls H locs hl hP hD hS)
theorem j_if_le (C : jC Ef X l d A cc nL Ts own rm ret) {x : Int32} {off : Int} (tgt : Nat) (hdg : decode cc pc = .ok (.ifCond .le off, 3)) (ht : (pc : Int) + off = (tgt : Int)) (kt : x ≤ 0 → jJ X l d A nL cells slots ws lv tgt st) (kf : ¬ x ≤ 0 → jJ X l d A nL cells slots ws lv (pc + 3) st) : jJ X l d A nL cells slots ws lv pc (.int x :: st) := by
  obtain ⟨p, e, R, s, m, args, below, meth, c, Q⟩ := X
  exact fun ls H locs hl hP hD hS => lv_if_le C.1.1 C.1.2.1 hdg ht (fun h => kt h ls H locs hl hP hD hS) (fun h => kf h ls H locs hl hP hD hS)
theorem j_icmp_le (C : jC Ef X l d A cc nL Ts own rm ret) {x y : Int32} {off : Int} (tgt : Nat) (hdg : decode cc pc = .ok (.if_icmp .le off, 3)) (ht : (pc : Int) + off = (tgt : Int)) (kt : x ≤ y → jJ X l d A nL cells slots ws lv tgt st) (kf : ¬ x ≤ y → jJ X l d A nL cells slots ws lv (pc + 3) st) : jJ X l d A nL cells slots ws lv pc (.int y :: .int x :: st) := by
  obtain ⟨p, e, R, s, m, args, below, meth, c, Q⟩ := X
  exact fun ls H locs hl hP hD hS => lv_icmp_le C.1.1 C.1.2.1 hdg ht (fun h => kt h ls H locs hl hP hD hS) (fun h => kf h ls H locs hl hP hD hS)
theorem j_tableIn (C : jC Ef X l d A cc nL Ts own rm ret) {dflt lo hi : Int} {offs : Array Int} {len : Nat} {x : Int32} {off : Int} (tgt : Nat) (hdg : decode cc pc = .ok (.tableswitch dflt lo hi offs, len)) (h1 : ¬ x.toInt < lo) (h2 : ¬ hi < x.toInt) (ho : offs[(x.toInt - lo).toNat]? = some off) (ht : (pc : Int) + off = (tgt : Int)) (k : jJ X l d A nL cells slots ws lv tgt st) : jJ X l d A nL cells slots ws lv pc (.int x :: st) := by
  obtain ⟨p, e, R, s, m, args, below, meth, c, Q⟩ := X
  exact fun ls H locs hl hP hD hS => lv_tableIn C.1.1 C.1.2.1 hdg h1 h2 ho ht (k ls H locs hl hP hD hS)
theorem j_tableOut (C : jC Ef X l d A cc nL Ts own rm ret) {dflt lo hi : Int} {offs : Array Int} {len : Nat} {x : Int32} (tgt : Nat) (hdg : decode cc pc = .ok (.tableswitch dflt lo hi offs, len)) (h : x.toInt < lo ∨ hi < x.toInt) (ht : (pc : Int) + dflt = (tgt : Int)) (k : jJ X l d A nL cells slots ws lv tgt st) : jJ X l d A nL cells slots ws lv pc (.int x :: st) := by
  obtain ⟨p, e, R, s, m, args, below, meth, c, Q⟩ := X
  exact fun ls H locs hl hP hD hS => lv_tableOut C.1.1 C.1.2.1 hdg h ht (k ls H locs hl hP hD hS)
theorem j_widen {k1 n1 : Nat} (hk : cells ≤ k1) (hn : slots ≤ n1) (k : jJ X l d A nL k1 n1 ws lv pc st) : jJ X l d A nL cells slots ws lv pc st := by
  obtain ⟨p, e, R, s, m, args, below, meth, c, Q⟩ := X
  exact fun ls H locs hl hP hD hS => W.widen hk hn (k ls H locs hl hP hD hS)
theorem j_ws {ws2 : va_W} (h : ws = ws2) (k : jJ X l d A nL cells slots ws2 lv pc st) : jJ X l d A nL cells slots ws lv pc st := h ▸ k
theorem j_st {st2 : List Value} (h : st = st2) (k : jJ X l d A nL cells slots ws lv pc st2) : jJ X l d A nL cells slots ws lv pc st := h ▸ k
theorem j_lvq {lv2 : List (Nat × Value)} (h : lv = lv2) (k : jJ X l d A nL cells slots ws lv2 pc st) : jJ X l d A nL cells slots ws lv pc st := h ▸ k
theorem j_get (C : jC Ef X l d A cc nL Ts own rm ret) {a ci idx : Nat} {fs : List Value} {v : Value} {Cn : String} {T : u_T} {N : Nat} (hin : ∀ w ∈ u_ws Cn T N, w ∈ Ts) (q0 k : Nat) (he : ws[q0]? = some (a, .inr (ci, fs))) (hc : vwCl[ci]? = some (Cn, T, N)) (hk : k < N) (hlink : Cond.fieldLink own idx (T k).1 (T k).2.1 (T k).2.2.1 ∈ Ts) (hv : fs[k]? = some v) (hdg : decode cc pc = .ok (.getfield idx, 3)) (kk : jJ X l d A nL cells slots ws lv (pc + 3) (v :: st)) : jJ X l d A nL cells slots ws lv pc (.ref a :: st) := by
  obtain ⟨p, e, R, s, m, args, below, meth, c, Q⟩ := X
  exact fun ls H locs hl hP hD hS => va_get C.1.1 C.1.2.1 C.1.2.2.2.2 hin C.1.2.2.2.1 C.2.1 hP q0 he hc k hk (C.1.2.2.2.2 _ hlink) (fun _ h => h) hv hdg (kk ls H locs hl hP hD hS)
theorem j_put (C : jC Ef X l d A cc nL Ts own rm ret) {a ci idx : Nat} {fs : List Value} {v : Value} {Cn : String} {T : u_T} {N : Nat} {ty0 : Nat → FieldType} {ty : FieldType} {ws2 : va_W} (hin : ∀ w ∈ u_ws Cn T N, w ∈ Ts) (hty : ∀ k, k < N → parseFieldDescriptor (T k).2.2.1 = some (ty0 k)) (hnm : ∀ a, a < N → ∀ b, b < N → a ≠ b → (T a).2.1 ≠ (T b).2.1) (q0 k : Nat) (he : ws[q0]? = some (a, .inr (ci, fs))) (hc : vwCl[ci]? = some (Cn, T, N)) (hk : k < N) (hlink : Cond.fieldLink own idx (T k).1 (T k).2.1 (T k).2.2.1 ∈ Ts) (hfin : (T k).2.2.2 = false) (hd : ty0 k = ty) (hn : narrow ty v = v) (hfit : fits ty v = true) (hlf : k < fs.length) (hw : ws.set q0 (a, .inr (ci, fs.set k v)) = ws2) (hdg : decode cc pc = .ok (.putfield idx, 3)) (kk : jJ X l d A nL cells slots ws2 lv (pc + 3) st) : jJ X l d A nL cells slots ws lv pc (v :: .ref a :: st) := by
  obtain ⟨p, e, R, s, m, args, below, meth, c, Q⟩ := X
  subst hw
  exact fun ls H locs hl hP hD hS => va_put C.1.1 C.1.2.1 C.1.2.2.2.2 hin ty0 hty hnm C.1.2.2.2.1 C.2.1 hP hD hS q0 he hc k hk (C.1.2.2.2.2 _ hlink) (fun _ h => h) hfin (hd ▸ hty k hk) hn hfit hlf hdg (fun H1 locs1 hP hD hS => kk ls H1 locs1 hl hP hD hS)
theorem j_getN (C : jC Ef X l d A cc nL Ts own rm ret) {a ci idx : Nat} {fs : List Value} {v : Value} {Cn : String} {T : u_T} {N : Nat} {host : String} (hin : ∀ w ∈ u_ws Cn T N, w ∈ Ts) (q0 k : Nat) (he : ws[q0]? = some (a, .inr (ci, fs))) (hc : vwCl[ci]? = some (Cn, T, N)) (hk : k < N) (hlink : Cond.fieldLinkNest own idx (T k).1 (T k).2.1 (T k).2.2.1 host ∈ Ts) (hv : fs[k]? = some v) (hdg : decode cc pc = .ok (.getfield idx, 3)) (kk : jJ X l d A nL cells slots ws lv (pc + 3) (v :: st)) : jJ X l d A nL cells slots ws lv pc (.ref a :: st) := by
  obtain ⟨p, e, R, s, m, args, below, meth, c, Q⟩ := X
  exact fun ls H locs hl hP hD hS => va_getN C.1.1 C.1.2.1 C.1.2.2.2.2 hin C.1.2.2.2.1 C.2.1 hP q0 he hc k hk (C.1.2.2.2.2 _ hlink) (fun _ h => h) hv hdg (kk ls H locs hl hP hD hS)
theorem j_putN (C : jC Ef X l d A cc nL Ts own rm ret) {a ci idx : Nat} {fs : List Value} {v : Value} {Cn : String} {T : u_T} {N : Nat} {ty0 : Nat → FieldType} {ty : FieldType} {ws2 : va_W} {host : String} (hin : ∀ w ∈ u_ws Cn T N, w ∈ Ts) (hty : ∀ k, k < N → parseFieldDescriptor (T k).2.2.1 = some (ty0 k)) (hnm : ∀ a, a < N → ∀ b, b < N → a ≠ b → (T a).2.1 ≠ (T b).2.1) (q0 k : Nat) (he : ws[q0]? = some (a, .inr (ci, fs))) (hc : vwCl[ci]? = some (Cn, T, N)) (hk : k < N) (hlink : Cond.fieldLinkNest own idx (T k).1 (T k).2.1 (T k).2.2.1 host ∈ Ts) (hfin : (T k).2.2.2 = false) (hd : ty0 k = ty) (hn : narrow ty v = v) (hfit : fits ty v = true) (hlf : k < fs.length) (hw : ws.set q0 (a, .inr (ci, fs.set k v)) = ws2) (hdg : decode cc pc = .ok (.putfield idx, 3)) (kk : jJ X l d A nL cells slots ws2 lv (pc + 3) st) : jJ X l d A nL cells slots ws lv pc (v :: .ref a :: st) := by
  obtain ⟨p, e, R, s, m, args, below, meth, c, Q⟩ := X
  subst hw
  exact fun ls H locs hl hP hD hS => va_putN C.1.1 C.1.2.1 C.1.2.2.2.2 hin ty0 hty hnm C.1.2.2.2.1 C.2.1 hP hD hS q0 he hc k hk (C.1.2.2.2.2 _ hlink) (fun _ h => h) hfin (hd ▸ hty k hk) hn hfit hlf hdg (fun H1 locs1 hP hD hS => kk ls H1 locs1 hl hP hD hS)
theorem j_iald (C : jC Ef X l d A cc nL Ts own rm ret) {a n : Nat} {f : Nat → Int32} {i : Int32} (q0 j : Nat) (he : ws[q0]? = some (a, .inl (d.2 1, n, .inl f))) (hi : i = nI j) (hj : j < n) (hn : n < 2 ^ 31) (hdg : decode cc pc = .ok (.iaload, 1)) (kk : jJ X l d A nL cells slots ws lv (pc + 1) (.int (f j) :: st)) : jJ X l d A nL cells slots ws lv pc (.int i :: .ref a :: st) := by
  obtain ⟨p, e, R, s, m, args, below, meth, c, Q⟩ := X
  subst hi
  exact fun ls H locs hl hP hD hS => va_iald C.1.1 C.1.2.1 C.2.1 hP q0 1 he rfl (vp_in_nI hj hn) hdg (by rw [nI_clamp (Nat.lt_trans hj hn)]; exact kk ls H locs hl hP hD hS)
theorem j_bald (C : jC Ef X l d A cc nL Ts own rm ret) {a n : Nat} {f : Nat → Int32} {i : Int32} (q0 j : Nat) (he : ws[q0]? = some (a, .inl (d.2 0, n, .inl f))) (hi : i = nI j) (hj : j < n) (hn : n < 2 ^ 31) (hdg : decode cc pc = .ok (.baload, 1)) (kk : jJ X l d A nL cells slots ws lv (pc + 1) (.int (f j) :: st)) : jJ X l d A nL cells slots ws lv pc (.int i :: .ref a :: st) := by
  obtain ⟨p, e, R, s, m, args, below, meth, c, Q⟩ := X
  subst hi
  exact fun ls H locs hl hP hD hS => va_bald C.1.1 C.1.2.1 C.2.1 hP q0 0 he rfl (vp_in_nI hj hn) hdg (by rw [nI_clamp (Nat.lt_trans hj hn)]; exact kk ls H locs hl hP hD hS)
theorem j_iast (C : jC Ef X l d A cc nL Ts own rm ret) {a n : Nat} {f : Nat → Int32} {i x : Int32} {ws2 : va_W} (q0 j : Nat) (he : ws[q0]? = some (a, .inl (d.2 1, n, .inl f))) (hi : i = nI j) (hj : j < n) (hn : n < 2 ^ 31) (hw : ws.set q0 (a, .inl (d.2 1, n, .inl (upd f j x))) = ws2) (hdg : decode cc pc = .ok (.iastore, 1)) (kk : jJ X l d A nL cells slots ws2 lv (pc + 1) st) : jJ X l d A nL cells slots ws lv pc (.int x :: .int i :: .ref a :: st) := by
  obtain ⟨p, e, R, s, m, args, below, meth, c, Q⟩ := X
  subst hi; subst hw
  intro ls H locs hl hP hD hS
  refine va_iast C.1.1 C.1.2.1 C.2.1 hP hD hS q0 1 he rfl (vp_in_nI hj hn) hdg (fun H1 locs1 hP hD hS => ?_)
  rw [nI_clamp (Nat.lt_trans hj hn)] at hP hD
  exact kk ls H1 locs1 hl hP hD hS
theorem j_bast (C : jC Ef X l d A cc nL Ts own rm ret) {a n : Nat} {f : Nat → Int32} {i x : Int32} {ws2 : va_W} (q0 j : Nat) (he : ws[q0]? = some (a, .inl (d.2 0, n, .inl f))) (hi : i = nI j) (hj : j < n) (hn : n < 2 ^ 31) (hw : ws.set q0 (a, .inl (d.2 0, n, .inl (upd f j (vp_nar .byte x)))) = ws2) (hdg : decode cc pc = .ok (.bastore, 1)) (kk : jJ X l d A nL cells slots ws2 lv (pc + 1) st) : jJ X l d A nL cells slots ws lv pc (.int x :: .int i :: .ref a :: st) := by
  obtain ⟨p, e, R, s, m, args, below, meth, c, Q⟩ := X
  subst hi; subst hw
  intro ls H locs hl hP hD hS
  refine va_bast C.1.1 C.1.2.1 C.2.1 hP hD hS q0 0 he rfl (vp_in_nI hj hn) hdg (fun H1 locs1 hP hD hS => ?_)
  rw [nI_clamp (Nat.lt_trans hj hn)] at hP hD
  exact kk ls H1 locs1 hl hP hD hS
theorem j_lald (C : jC Ef X l d A cc nL Ts own rm ret) {a n : Nat} {f : Nat → Int64} {i : Int32} (q0 j : Nat) (he : ws[q0]? = some (a, .inl (d.2 5, n, .inr (.inl f)))) (hi : i = nI j) (hj : j < n) (hn : n < 2 ^ 31) (hdg : decode cc pc = .ok (.laload, 1)) (kk : jJ X l d A nL cells slots ws lv (pc + 1) (.long (f j) :: st)) : jJ X l d A nL cells slots ws lv pc (.int i :: .ref a :: st) := by
  obtain ⟨p, e, R, s, m, args, below, meth, c, Q⟩ := X
  subst hi
  exact fun ls H locs hl hP hD hS => va_lald C.1.1 C.1.2.1 C.2.1 hP q0 5 he rfl (vp_in_nI hj hn) hdg (by rw [nI_clamp (Nat.lt_trans hj hn)]; exact kk ls H locs hl hP hD hS)
theorem j_last (C : jC Ef X l d A cc nL Ts own rm ret) {a n : Nat} {f : Nat → Int64} {i : Int32} {x : Int64} {ws2 : va_W} (q0 j : Nat) (he : ws[q0]? = some (a, .inl (d.2 5, n, .inr (.inl f)))) (hi : i = nI j) (hj : j < n) (hn : n < 2 ^ 31) (hw : ws.set q0 (a, .inl (d.2 5, n, .inr (.inl (vp_updL f j x)))) = ws2) (hdg : decode cc pc = .ok (.lastore, 1)) (kk : jJ X l d A nL cells slots ws2 lv (pc + 1) st) : jJ X l d A nL cells slots ws lv pc (.long x :: .int i :: .ref a :: st) := by
  obtain ⟨p, e, R, s, m, args, below, meth, c, Q⟩ := X
  subst hi; subst hw
  intro ls H locs hl hP hD hS
  refine va_last C.1.1 C.1.2.1 C.2.1 hP hD hS q0 5 he rfl (vp_in_nI hj hn) hdg (fun H1 locs1 hP hD hS => ?_)
  rw [nI_clamp (Nat.lt_trans hj hn)] at hP hD
  exact kk ls H1 locs1 hl hP hD hS
theorem j_aldq (C : jC Ef X l d A cc nL Ts own rm ret) {a n : Nat} {f : Nat → Option Nat} {i : Int32} {Cn : String} (q0 t0 j : Nat) {cA : ClassId} (he : ws[q0]? = some (a, .inl (cA, n, .inr (.inr (.inr (.inr f)))))) (ht : (jtys d)[t0]? = some (cA, .object Cn)) (hi : i = nI j) (hj : j < n) (hn : n < 2 ^ 31) (hdg : decode cc pc = .ok (.aaload, 1)) (kk : jJ X l d A nL cells slots ws lv (pc + 1) (va_rf (f j) :: st)) : jJ X l d A nL cells slots ws lv pc (.int i :: .ref a :: st) := by
  obtain ⟨p, e, R, s, m, args, below, meth, c, Q⟩ := X
  subst hi
  exact fun ls H locs hl hP hD hS => va_aldq C.1.1 C.1.2.1 C.2.1 hP q0 t0 he ht (vp_in_nI hj hn) hdg (by rw [nI_clamp (Nat.lt_trans hj hn)]; exact kk ls H locs hl hP hD hS)
theorem j_astq (C : jC Ef X l d A cc nL Ts own rm ret) {a n v : Nat} {f : Nat → Option Nat} {i : Int32} {r : vw_C} {vs : List Value} {ws2 : va_W} (q0 t0 qk ci j : Nat) {cA : ClassId} (he : ws[q0]? = some (a, .inl (cA, n, .inr (.inr (.inr (.inr f)))))) (ht : (jtys d)[t0]? = some (cA, .object r.1)) (hv : ws[qk]? = some (v, .inr (ci, vs))) (hc : vwCl[ci]? = some r) (hi : i = nI j) (hj : j < n) (hn : n < 2 ^ 31) (hw : ws.set q0 (a, .inl (cA, n, .inr (.inr (.inr (.inr (va_up f j (some v))))))) = ws2) (hdg : decode cc pc = .ok (.aastore, 1)) (kk : jJ X l d A nL cells slots ws2 lv (pc + 1) st) : jJ X l d A nL cells slots ws lv pc (.ref v :: .int i :: .ref a :: st) := by
  obtain ⟨p, e, R, s, m, args, below, meth, c, Q⟩ := X
  subst hi; subst hw
  intro ls H locs hl hP hD hS
  refine va_astq C.1.1 C.1.2.1 C.2.1 hP hD hS q0 t0 qk ci he ht hv hc (vp_in_nI hj hn) hdg (fun H1 locs1 hP hD hS => ?_)
  rw [nI_clamp (Nat.lt_trans hj hn)] at hP hD
  exact kk ls H1 locs1 hl hP hD hS
theorem j_alen (C : jC Ef X l d A cc nL Ts own rm ret) {a : Nat} {x : vp_A} {cA : ClassId} {ty : FieldType} (q0 t0 : Nat) (v : Int32) (he : ws[q0]? = some (a, .inl (cA, x))) (ht : (jtys d)[t0]? = some (cA, ty)) (hv : Int32.ofNat x.1 = v) (hdg : decode cc pc = .ok (.arraylength, 1)) (kk : jJ X l d A nL cells slots ws lv (pc + 1) (.int v :: st)) : jJ X l d A nL cells slots ws lv pc (.ref a :: st) := by
  obtain ⟨p, e, R, s, m, args, below, meth, c, Q⟩ := X
  exact fun ls H locs hl hP hD hS => va_alen C.1.1 C.1.2.1 C.2.1 hP q0 t0 he ht hv hdg (kk ls H locs hl hP hD hS)
theorem j_mmax (C : jC Ef X l d A cc nL Ts own rm ret) {idx : Nat} {x y : Int32} (hlink : Cond.methodLink own idx Lib.Math.max.name ∈ Ts) (hstat : Cond.static Lib.Math.max.name ∈ Ts) (hini : Cond.initialized "java/lang/Math" ∈ Ts) (hcode : Cond.code Lib.Math.max.name Lib.Math.max.code 2 (some .int) ∈ Ts) (hR : 1 ≤ rm.frames ∧ 21 ≤ rm.locals) (hst : (st.map fun v => v.category).sum ≤ 8) (hc : cells ≤ rm.cells ∧ slots ≤ rm.slots) (hdg : decode cc pc = .ok (.invokestatic idx, 3)) (kk : jJ X l d A nL cells slots ws lv (pc + 3) (.int (if x < y then y else x) :: st)) : jJ X l d A nL cells slots ws lv pc (.int y :: .int x :: st) := by
  obtain ⟨p, e, R, s, m, args, below, meth, c, Q⟩ := X
  intro ls H locs hl hP hD hS
  have hr : R = rm := C.2.2.2.1
  subst hr
  exact va_mmax C.1.1 C.1.2.1 (C.1.2.2.1.trans hl.1.symm) C.1.2.2.2.1 (C.1.2.2.2.2 _ hlink) (C.1.2.2.2.2 _ hstat) (C.1.2.2.2.2 _ hini) (C.1.2.2.2.2 _ hcode) hR.1 (by omega) hc.1 hc.2 hdg (kk ls H locs hl hP hD hS)
theorem j_mmin (C : jC Ef X l d A cc nL Ts own rm ret) {idx : Nat} {x y : Int32} (hlink : Cond.methodLink own idx Lib.Math.min.name ∈ Ts) (hstat : Cond.static Lib.Math.min.name ∈ Ts) (hini : Cond.initialized "java/lang/Math" ∈ Ts) (hcode : Cond.code Lib.Math.min.name Lib.Math.min.code 2 (some .int) ∈ Ts) (hR : 1 ≤ rm.frames ∧ 21 ≤ rm.locals) (hst : (st.map fun v => v.category).sum ≤ 8) (hc : cells ≤ rm.cells ∧ slots ≤ rm.slots) (hdg : decode cc pc = .ok (.invokestatic idx, 3)) (kk : jJ X l d A nL cells slots ws lv (pc + 3) (.int (if y < x then y else x) :: st)) : jJ X l d A nL cells slots ws lv pc (.int y :: .int x :: st) := by
  obtain ⟨p, e, R, s, m, args, below, meth, c, Q⟩ := X
  intro ls H locs hl hP hD hS
  have hr : R = rm := C.2.2.2.1
  subst hr
  exact va_mmin C.1.1 C.1.2.1 (C.1.2.2.1.trans hl.1.symm) C.1.2.2.2.1 (C.1.2.2.2.2 _ hlink) (C.1.2.2.2.2 _ hstat) (C.1.2.2.2.2 _ hini) (C.1.2.2.2.2 _ hcode) hR.1 (by omega) hc.1 hc.2 hdg (kk ls H locs hl hP hD hS)
theorem j_iret {v : Int32} {post : Int32 → va_W → Prop} (C : jC Ef X l d A cc nL Ts own rm (some .int)) (hQ : jQi X d A cells slots post) (hdg : decode cc pc = .ok (.ireturn, 1)) (hp : post v ws) : jJ X l d A nL cells slots ws lv pc [.int v] := by
  obtain ⟨p, e, R, s, m, args, below, meth, c, Q⟩ := X
  intro ls H locs hl hP hD hS
  have hq : Q = _ := hQ
  subst hq
  exact W.iret C.1.1 C.1.2.1 C.2.2.2.2.1 (fun t ht hW => ⟨⟨v, ws, rfl, hp, by rw [ht]; exact hP, va_K.moved hW.alike C.2.1, hD⟩, hS.F ht⟩) hS.2.2 hdg C.2.2.2.2.2.1
theorem j_zret {v : Int32} {post : Int32 → va_W → Prop} {ty : FieldType} (C : jC Ef X l d A cc nL Ts own rm (some ty)) (hQ : jQi X d A cells slots post) (hn : narrow ty (.int v) = .int v) (hdg : decode cc pc = .ok (.ireturn, 1)) (hp : post v ws) : jJ X l d A nL cells slots ws lv pc [.int v] := by
  obtain ⟨p, e, R, s, m, args, below, meth, c, Q⟩ := X
  intro ls H locs hl hP hD hS
  have hq : Q = _ := hQ
  subst hq
  exact W.zret C.1.1 C.1.2.1 C.2.2.2.2.1 hn (fun t ht hW => ⟨⟨v, ws, rfl, hp, by rw [ht]; exact hP, va_K.moved hW.alike C.2.1, hD⟩, hS.F ht⟩) hS.2.2 hdg C.2.2.2.2.2.1
theorem j_lret {v : Int64} {post : Int64 → va_W → Prop} (C : jC Ef X l d A cc nL Ts own rm (some .long)) (hQ : jQl X d A cells slots post) (hdg : decode cc pc = .ok (.lreturn, 1)) (hp : post v ws) : jJ X l d A nL cells slots ws lv pc [.long v] := by
  obtain ⟨p, e, R, s, m, args, below, meth, c, Q⟩ := X
  intro ls H locs hl hP hD hS
  have hq : Q = _ := hQ
  subst hq
  exact W.lret C.1.1 C.1.2.1 C.2.2.2.2.1 (fun t ht hW => ⟨⟨v, ws, rfl, hp, by rw [ht]; exact hP, va_K.moved hW.alike C.2.1, hD⟩, hS.F ht⟩) hS.2.2 hdg C.2.2.2.2.2.1
theorem j_vret {post : va_W → Prop} (C : jC Ef X l d A cc nL Ts own rm none) (hQ : jQv X d A cells slots post) (hdg : decode cc pc = .ok (.return_, 1)) (hp : post ws) : jJ X l d A nL cells slots ws lv pc [] := by
  obtain ⟨p, e, R, s, m, args, below, meth, c, Q⟩ := X
  intro ls H locs hl hP hD hS
  have hq : Q = _ := hQ
  subst hq
  exact W.vret C.1.1 C.1.2.1 C.2.2.2.2.1 (fun t ht hW => ⟨⟨ws, rfl, hp, by rw [ht]; exact hP, va_K.moved hW.alike C.2.1, hD⟩, hS.F ht⟩) hS.2.2 hdg C.2.2.2.2.2.1
end JROWS
end
section
theorem jfb {Ef : jE} (hk : jKp Ef) {d : jD} {av : List Value} {ws : va_W} {sz : Nat} : FrameBlind (va_Pc av (jPr Ef d ws sz)) := fun a U g mk q => by
  obtain ⟨q0, q1, qP, qK, qD, qE⟩ := q
  exact ⟨q0, q1, qP, va_K.moved (u := U) (U := U.calling g mk a) (Vm.Alike.refl U.vm) qK, qD, hk _ _ U (U.calling g mk a) U.heap qE (Vm.Alike.refl U.vm) rfl (Nat.le_refl _) (fun _ _ _ => rfl) (fun _ _ h => h)⟩
theorem jpr {Ef : jE} (hk : jKp Ef) {d : jD} {av : List Value} {ws wc : va_W} {A A' : Nat → Prop} {s : State} {H : Heap} {locs : List Loc} (hK : va_K d.1 vwCl (jtys d) s) (hE : Ef A s s.heap) (hP : va_P d.1 vwCl wc H) (hD : va_D A wc) (hS : va_S A s.heap H locs) : ∀ U : State, U.heap = H → s.WarmedH U.vm → va_Pc av (jPr Ef d wc H.size) av.toArray U := fun U hU hW => by
  refine ⟨rfl, by rw [hU], by rw [hU]; exact hP, va_K.moved hW.alike hK, hD.weaken (fun _ _ _ _ => trivial), ?_⟩
  rw [hU]
  refine hk A _ s U H hE hW.alike hU hS.1 hS.2.1 (fun q h1 h2 => ?_)
  rcases h2 with ⟨k, e, h⟩ | h
  · exact hD.2 k _ h
  · have := hS.1
    omega
theorem jfree {A : Nat → Prop} {s : State} {wc : va_W} {H : Heap} {locs : List Loc} (hA : ∀ q : Nat, s.heap.size ≤ q → A q) (hD : va_D A wc) (hS : va_S A s.heap H locs) : ∀ q, va_A wc H.size q → A q := fun q h => by
  rcases h with ⟨k, e, h⟩ | h
  · exact hD.2 k _ h
  · exact hA q (Nat.le_trans hS.1 h)
theorem jap_P {D : va_G} {cl : List vw_C} {a b c : va_W} {H : Heap} (h : va_P D cl (a ++ b ++ c) H) : va_P D cl a H ∧ va_P D cl b H ∧ va_P D cl c H := by
  have hm : ∀ q ∈ a ++ b ++ c, va_at D cl q H := fun q hq => by
    obtain ⟨i, hi⟩ := List.getElem?_of_mem hq
    exact h i q hi
  exact ⟨fun k q hk => hm q (by simp [List.mem_of_getElem? hk]), fun k q hk => hm q (by simp [List.mem_of_getElem? hk]), fun k q hk => hm q (by simp [List.mem_of_getElem? hk])⟩
theorem ap_a {a b c : va_W} {k : Nat} {q : Nat × va_E} (h : a[k]? = some q) : (a ++ b ++ c)[k]? = some q := by
  have hl : k < a.length := (List.getElem?_eq_some_iff.mp h).1
  rw [List.append_assoc, List.getElem?_append_left hl]
  exact h
theorem ap_b {a b c : va_W} {k : Nat} {q : Nat × va_E} (h : b[k]? = some q) : (a ++ b ++ c)[a.length + k]? = some q := by
  have hl : k < b.length := (List.getElem?_eq_some_iff.mp h).1
  rw [List.append_assoc, List.getElem?_append_right (by omega), Nat.add_sub_cancel_left, List.getElem?_append_left hl]
  exact h
theorem ap_c {a b c : va_W} {k : Nat} {q : Nat × va_E} (h : c[k]? = some q) : (a ++ b ++ c)[a.length + b.length + k]? = some q := by
  rw [List.getElem?_append_right (by rw [List.length_append]; omega), List.length_append, Nat.add_sub_cancel_left]
  exact h
theorem jap_D {A : Nat → Prop} {a b c : va_W} (h : va_D A (a ++ b ++ c)) : va_D A b := by
  refine ⟨fun i j p q hi hj hpq => ?_, fun k q hk => h.2 (a.length + k) q (ap_b hk)⟩
  have := h.1 (a.length + i) (a.length + j) p q (ap_b hi) (ap_b hj) hpq
  omega
/-- the rest of a world stays, and is apart from what a callee gives back -/
theorem jframe {D : va_G} {cl : List vw_C} {A : Nat → Prop} {a b b' c : va_W} {H H1 : Heap} (hP : va_P D cl (a ++ b ++ c) H) (hD : va_D A (a ++ b ++ c)) (hF : ∀ q, va_A b H.size q → A q) (hk : ∀ q : Nat, q < H.size → ¬ va_A b H.size q → H1[q]? = H[q]?) (hP1 : va_P D cl b' H1) (hD1 : va_D (va_A b H.size) b') : va_P D cl (a ++ b' ++ c) H1 ∧ va_D A (a ++ b' ++ c) := by
  obtain ⟨ha, hb, hc⟩ := jap_P hP
  have out : ∀ (i : Nat) (q : Nat × va_E), (a ++ b ++ c)[i]? = some q → (i < a.length ∨ a.length + b.length ≤ i) → ¬ va_A b H.size q.1 := by
    intro i q hi hr hq
    rcases hq with ⟨k, e, h⟩ | h
    · have hkl : k < b.length := (List.getElem?_eq_some_iff.mp h).1
      have := hD.1 i (a.length + k) q (q.1, e) hi (ap_b h) rfl
      omega
    · have := (hP i q hi).lt
      omega
  have oa : ∀ (i : Nat) (q : Nat × va_E), a[i]? = some q → ¬ va_A b H.size q.1 := fun i q h => out i q (ap_a h) (Or.inl (List.getElem?_eq_some_iff.mp h).1)
  have oc : ∀ (i : Nat) (q : Nat × va_E), c[i]? = some q → ¬ va_A b H.size q.1 := fun i q h => out (a.length + b.length + i) q (ap_c h) (Or.inr (by omega))
  refine ⟨va_P.app (va_P.app (ha.kept (fun k q hq => hk _ (ha k q hq).lt (oa k q hq))) hP1) (hc.kept (fun k q hq => hk _ (hc k q hq).lt (oc k q hq))), ?_⟩
  have hDa : va_D A a := jap_D (a := []) (c := b ++ c) (by simpa using hD)
  have hDc : va_D A c := jap_D (a := a ++ b) (c := []) (by simpa using hD)
  have hDb : va_D A b' := hD1.weaken (fun k q _ h => hF q.1 h)
  refine va_D.app (va_D.app hDa hDb (fun i j p q hi hj hpq => oa i p hi (by rw [hpq]; exact hD1.2 j q hj))) hDc (fun i j p q hi hj hpq => ?_)
  rcases List.mem_append.mp (List.mem_of_getElem? hi) with h | h
  · obtain ⟨i2, hi2⟩ := List.getElem?_of_mem h
    have hl : i2 < a.length := (List.getElem?_eq_some_iff.mp hi2).1
    have := hD.1 i2 (a.length + b.length + j) p q (ap_a hi2) (ap_c hj) hpq
    omega
  · obtain ⟨i2, hi2⟩ := List.getElem?_of_mem h
    exact oc j q hj (by rw [← hpq]; exact hD1.2 i2 p hi2)
section JCALL
variable {Ef : jE} {X : jX} {l : Launch} {d : jD} {A : Nat → Prop} {cc bytes : ByteArray} {nL cells slots maxL : Nat} {Ts wy w' : List Cond} {own : String} {rm rmc : Room} {ret ret' : Option FieldType} {ws : va_W} {lv : List (Nat × Value)} {pc : Nat} {st st0 : List Value} {y : MethodName} {mc ms idx : Nat} {As : List Value}
theorem j_callV_i (C : jC Ef X l d A cc nL Ts own rm ret) (nA : Nat) {post : Int32 → va_W → Prop} {b ci N : Nat} {fs : List Value} {Cn : String} {T : u_T} (q0 : Nat) (hM : jMi Ef d l y wy rmc mc ms (.ref b :: As) ws post) (he : ws[q0]? = some (b, .inr (ci, fs))) (hc : vwCl[ci]? = some (Cn, T, N)) (hG : GoodIn Ts (wsV own idx Cn y wy)) (hw : wy = Cond.code y bytes maxL ret' :: w') (hrc : rmc.cells = mc) (hrs : rmc.slots = ms) (hd : y.cls = Cn ∧ y.cls ≠ "java/lang/invoke/MethodHandle" ∧ y.cls ≠ "java/lang/invoke/VarHandle" ∧ (parseMethodDescriptor y.desc).map (fun d => d.parameters.length) = some nA) (hR : rmc.frames + 1 ≤ rm.frames ∧ 8 + (maxL + 11) + rmc.locals ≤ rm.locals) (hroom : cells + mc ≤ rm.cells ∧ slots + ms ≤ rm.slots) (hnA : As.length = nA) (hst : st0 = As.reverse ++ .ref b :: st) (hcat : (st.map fun v => v.category).sum ≤ 8) (hdg : decode cc pc = .ok (.invokevirtual idx, 3)) (kk : ∀ (r : Int32) (u : va_W), post r u → jJ X l d A nL (cells + mc) (slots + ms) u lv (pc + 3) (.int r :: st)) : jJ X l d A nL cells slots ws lv pc st0 := by
  obtain ⟨p, e, R, s, m, args, below, meth, c, Q⟩ := X
  intro ls H locs hl hP hD hS
  have hr : R = rm := C.2.2.2.1
  subst hr
  have hPc := hP
  have hDc := hD
  have hFc := jfree C.2.2.1 hDc hS
  refine va_calli (va_runV (C := Cn) (As := As) (rest := st) C.1 (hM H.size) (cwV nA C.1.2.2.2.2 hG hw hrc hrs hd hR) ⟨jfb C.2.2.2.2.2.2.2, va_recv C.2.1 hPc (ci := ci) (q0 := q0) hc he, jpr C.2.2.2.2.2.2.2 (A' := A) (ws := ws) C.2.1 C.2.2.2.2.2.2.1 hPc hDc hS⟩ rfl hnA hl.1 hst (lv_room hcat) hdg hroom) hS (fun q _ h => hFc q h) hFc (fun r u t H1 locs1 ht hvm hw2 hB hz1 hk1 hS1 => ?_)
  obtain ⟨hP1, hK1, hD1⟩ := hB
  rw [ht] at hP1
  exact kk r u hw2 ls H1 locs1 hl hP1 (hD1.weaken (fun k q _ h => hFc q.1 h)) hS1
theorem j_callV_iF (C : jC Ef X l d A cc nL Ts own rm ret) (nA : Nat) {post : Int32 → va_W → Prop} {b ci N : Nat} {fs : List Value} {Cn : String} {T : u_T} (q0 : Nat) {wa wc wb : va_W} (hws : ws = wa ++ wc ++ wb) (hM : jMi Ef d l y wy rmc mc ms (.ref b :: As) wc post) (he : wc[q0]? = some (b, .inr (ci, fs))) (hc : vwCl[ci]? = some (Cn, T, N)) (hG : GoodIn Ts (wsV own idx Cn y wy)) (hw : wy = Cond.code y bytes maxL ret' :: w') (hrc : rmc.cells = mc) (hrs : rmc.slots = ms) (hd : y.cls = Cn ∧ y.cls ≠ "java/lang/invoke/MethodHandle" ∧ y.cls ≠ "java/lang/invoke/VarHandle" ∧ (parseMethodDescriptor y.desc).map (fun d => d.parameters.length) = some nA) (hR : rmc.frames + 1 ≤ rm.frames ∧ 8 + (maxL + 11) + rmc.locals ≤ rm.locals) (hroom : cells + mc ≤ rm.cells ∧ slots + ms ≤ rm.slots) (hnA : As.length = nA) (hst : st0 = As.reverse ++ .ref b :: st) (hcat : (st.map fun v => v.category).sum ≤ 8) (hdg : decode cc pc = .ok (.invokevirtual idx, 3)) (kk : ∀ (r : Int32) (u : va_W), post r u → jJ X l d A nL (cells + mc) (slots + ms) (wa ++ u ++ wb) lv (pc + 3) (.int r :: st)) : jJ X l d A nL cells slots ws lv pc st0 := by
  obtain ⟨p, e, R, s, m, args, below, meth, c, Q⟩ := X
  intro ls H locs hl hP hD hS
  have hr : R = rm := C.2.2.2.1
  subst hr
  subst hws
  have hPc := (jap_P hP).2.1
  have hDc := jap_D hD
  have hFc := jfree C.2.2.1 hDc hS
  refine va_calli (va_runV (C := Cn) (As := As) (rest := st) C.1 (hM H.size) (cwV nA C.1.2.2.2.2 hG hw hrc hrs hd hR) ⟨jfb C.2.2.2.2.2.2.2, va_recv C.2.1 hPc (ci := ci) (q0 := q0) hc he, jpr C.2.2.2.2.2.2.2 (A' := A) (ws := wc) C.2.1 C.2.2.2.2.2.2.1 hPc hDc hS⟩ rfl hnA hl.1 hst (lv_room hcat) hdg hroom) hS (fun q _ h => hFc q h) hFc (fun r u t H1 locs1 ht hvm hw2 hB hz1 hk1 hS1 => ?_)
  obtain ⟨hP1, hK1, hD1⟩ := hB
  rw [ht] at hP1
  obtain ⟨hP2, hD2⟩ := jframe hP hD hFc hk1 hP1 hD1
  exact kk r u hw2 ls H1 locs1 hl hP2 hD2 hS1
theorem j_callV_l (C : jC Ef X l d A cc nL Ts own rm ret) (nA : Nat) {post : Int64 → va_W → Prop} {b ci N : Nat} {fs : List Value} {Cn : String} {T : u_T} (q0 : Nat) (hM : jMl Ef d l y wy rmc mc ms (.ref b :: As) ws post) (he : ws[q0]? = some (b, .inr (ci, fs))) (hc : vwCl[ci]? = some (Cn, T, N)) (hG : GoodIn Ts (wsV own idx Cn y wy)) (hw : wy = Cond.code y bytes maxL ret' :: w') (hrc : rmc.cells = mc) (hrs : rmc.slots = ms) (hd : y.cls = Cn ∧ y.cls ≠ "java/lang/invoke/MethodHandle" ∧ y.cls ≠ "java/lang/invoke/VarHandle" ∧ (parseMethodDescriptor y.desc).map (fun d => d.parameters.length) = some nA) (hR : rmc.frames + 1 ≤ rm.frames ∧ 8 + (maxL + 11) + rmc.locals ≤ rm.locals) (hroom : cells + mc ≤ rm.cells ∧ slots + ms ≤ rm.slots) (hnA : As.length = nA) (hst : st0 = As.reverse ++ .ref b :: st) (hcat : (st.map fun v => v.category).sum ≤ 8) (hdg : decode cc pc = .ok (.invokevirtual idx, 3)) (kk : ∀ (r : Int64) (u : va_W), post r u → jJ X l d A nL (cells + mc) (slots + ms) u lv (pc + 3) (.long r :: st)) : jJ X l d A nL cells slots ws lv pc st0 := by
  obtain ⟨p, e, R, s, m, args, below, meth, c, Q⟩ := X
  intro ls H locs hl hP hD hS
  have hr : R = rm := C.2.2.2.1
  subst hr
  have hPc := hP
  have hDc := hD
  have hFc := jfree C.2.2.1 hDc hS
  refine va_calll (va_runV (C := Cn) (As := As) (rest := st) C.1 (hM H.size) (cwV nA C.1.2.2.2.2 hG hw hrc hrs hd hR) ⟨jfb C.2.2.2.2.2.2.2, va_recv C.2.1 hPc (ci := ci) (q0 := q0) hc he, jpr C.2.2.2.2.2.2.2 (A' := A) (ws := ws) C.2.1 C.2.2.2.2.2.2.1 hPc hDc hS⟩ rfl hnA hl.1 hst (lv_room hcat) hdg hroom) hS (fun q _ h => hFc q h) hFc (fun r u t H1 locs1 ht hvm hw2 hB hz1 hk1 hS1 => ?_)
  obtain ⟨hP1, hK1, hD1⟩ := hB
  rw [ht] at hP1
  exact kk r u hw2 ls H1 locs1 hl hP1 (hD1.weaken (fun k q _ h => hFc q.1 h)) hS1
theorem j_callV_lF (C : jC Ef X l d A cc nL Ts own rm ret) (nA : Nat) {post : Int64 → va_W → Prop} {b ci N : Nat} {fs : List Value} {Cn : String} {T : u_T} (q0 : Nat) {wa wc wb : va_W} (hws : ws = wa ++ wc ++ wb) (hM : jMl Ef d l y wy rmc mc ms (.ref b :: As) wc post) (he : wc[q0]? = some (b, .inr (ci, fs))) (hc : vwCl[ci]? = some (Cn, T, N)) (hG : GoodIn Ts (wsV own idx Cn y wy)) (hw : wy = Cond.code y bytes maxL ret' :: w') (hrc : rmc.cells = mc) (hrs : rmc.slots = ms) (hd : y.cls = Cn ∧ y.cls ≠ "java/lang/invoke/MethodHandle" ∧ y.cls ≠ "java/lang/invoke/VarHandle" ∧ (parseMethodDescriptor y.desc).map (fun d => d.parameters.length) = some nA) (hR : rmc.frames + 1 ≤ rm.frames ∧ 8 + (maxL + 11) + rmc.locals ≤ rm.locals) (hroom : cells + mc ≤ rm.cells ∧ slots + ms ≤ rm.slots) (hnA : As.length = nA) (hst : st0 = As.reverse ++ .ref b :: st) (hcat : (st.map fun v => v.category).sum ≤ 8) (hdg : decode cc pc = .ok (.invokevirtual idx, 3)) (kk : ∀ (r : Int64) (u : va_W), post r u → jJ X l d A nL (cells + mc) (slots + ms) (wa ++ u ++ wb) lv (pc + 3) (.long r :: st)) : jJ X l d A nL cells slots ws lv pc st0 := by
  obtain ⟨p, e, R, s, m, args, below, meth, c, Q⟩ := X
  intro ls H locs hl hP hD hS
  have hr : R = rm := C.2.2.2.1
  subst hr
  subst hws
  have hPc := (jap_P hP).2.1
  have hDc := jap_D hD
  have hFc := jfree C.2.2.1 hDc hS
  refine va_calll (va_runV (C := Cn) (As := As) (rest := st) C.1 (hM H.size) (cwV nA C.1.2.2.2.2 hG hw hrc hrs hd hR) ⟨jfb C.2.2.2.2.2.2.2, va_recv C.2.1 hPc (ci := ci) (q0 := q0) hc he, jpr C.2.2.2.2.2.2.2 (A' := A) (ws := wc) C.2.1 C.2.2.2.2.2.2.1 hPc hDc hS⟩ rfl hnA hl.1 hst (lv_room hcat) hdg hroom) hS (fun q _ h => hFc q h) hFc (fun r u t H1 locs1 ht hvm hw2 hB hz1 hk1 hS1 => ?_)
  obtain ⟨hP1, hK1, hD1⟩ := hB
  rw [ht] at hP1
  obtain ⟨hP2, hD2⟩ := jframe hP hD hFc hk1 hP1 hD1
  exact kk r u hw2 ls H1 locs1 hl hP2 hD2 hS1
theorem j_callV_v (C : jC Ef X l d A cc nL Ts own rm ret) (nA : Nat) {post : va_W → Prop} {b ci N : Nat} {fs : List Value} {Cn : String} {T : u_T} (q0 : Nat) (hM : jMv Ef d l y wy rmc mc ms (.ref b :: As) ws post) (he : ws[q0]? = some (b, .inr (ci, fs))) (hc : vwCl[ci]? = some (Cn, T, N)) (hG : GoodIn Ts (wsV own idx Cn y wy)) (hw : wy = Cond.code y bytes maxL ret' :: w') (hrc : rmc.cells = mc) (hrs : rmc.slots = ms) (hd : y.cls = Cn ∧ y.cls ≠ "java/lang/invoke/MethodHandle" ∧ y.cls ≠ "java/lang/invoke/VarHandle" ∧ (parseMethodDescriptor y.desc).map (fun d => d.parameters.length) = some nA) (hR : rmc.frames + 1 ≤ rm.frames ∧ 8 + (maxL + 11) + rmc.locals ≤ rm.locals) (hroom : cells + mc ≤ rm.cells ∧ slots + ms ≤ rm.slots) (hnA : As.length = nA) (hst : st0 = As.reverse ++ .ref b :: st) (hcat : (st.map fun v => v.category).sum ≤ 8) (hdg : decode cc pc = .ok (.invokevirtual idx, 3)) (kk : ∀ (u : va_W), post u → jJ X l d A nL (cells + mc) (slots + ms) u lv (pc + 3) st) : jJ X l d A nL cells slots ws lv pc st0 := by
  obtain ⟨p, e, R, s, m, args, below, meth, c, Q⟩ := X
  intro ls H locs hl hP hD hS
  have hr : R = rm := C.2.2.2.1
  subst hr
  have hPc := hP
  have hDc := hD
  have hFc := jfree C.2.2.1 hDc hS
  refine va_callv (va_runV (C := Cn) (As := As) (rest := st) C.1 (hM H.size) (cwV nA C.1.2.2.2.2 hG hw hrc hrs hd hR) ⟨jfb C.2.2.2.2.2.2.2, va_recv C.2.1 hPc (ci := ci) (q0 := q0) hc he, jpr C.2.2.2.2.2.2.2 (A' := A) (ws := ws) C.2.1 C.2.2.2.2.2.2.1 hPc hDc hS⟩ rfl hnA hl.1 hst (lv_room hcat) hdg hroom) hS (fun q _ h => hFc q h) hFc (fun u t H1 locs1 ht hvm hw2 hB hz1 hk1 hS1 => ?_)
  obtain ⟨hP1, hK1, hD1⟩ := hB
  rw [ht] at hP1
  exact kk u hw2 ls H1 locs1 hl hP1 (hD1.weaken (fun k q _ h => hFc q.1 h)) hS1
theorem j_callV_vF (C : jC Ef X l d A cc nL Ts own rm ret) (nA : Nat) {post : va_W → Prop} {b ci N : Nat} {fs : List Value} {Cn : String} {T : u_T} (q0 : Nat) {wa wc wb : va_W} (hws : ws = wa ++ wc ++ wb) (hM : jMv Ef d l y wy rmc mc ms (.ref b :: As) wc post) (he : wc[q0]? = some (b, .inr (ci, fs))) (hc : vwCl[ci]? = some (Cn, T, N)) (hG : GoodIn Ts (wsV own idx Cn y wy)) (hw : wy = Cond.code y bytes maxL ret' :: w') (hrc : rmc.cells = mc) (hrs : rmc.slots = ms) (hd : y.cls = Cn ∧ y.cls ≠ "java/lang/invoke/MethodHandle" ∧ y.cls ≠ "java/lang/invoke/VarHandle" ∧ (parseMethodDescriptor y.desc).map (fun d => d.parameters.length) = some nA) (hR : rmc.frames + 1 ≤ rm.frames ∧ 8 + (maxL + 11) + rmc.locals ≤ rm.locals) (hroom : cells + mc ≤ rm.cells ∧ slots + ms ≤ rm.slots) (hnA : As.length = nA) (hst : st0 = As.reverse ++ .ref b :: st) (hcat : (st.map fun v => v.category).sum ≤ 8) (hdg : decode cc pc = .ok (.invokevirtual idx, 3)) (kk : ∀ (u : va_W), post u → jJ X l d A nL (cells + mc) (slots + ms) (wa ++ u ++ wb) lv (pc + 3) st) : jJ X l d A nL cells slots ws lv pc st0 := by
  obtain ⟨p, e, R, s, m, args, below, meth, c, Q⟩ := X
  intro ls H locs hl hP hD hS
  have hr : R = rm := C.2.2.2.1
  subst hr
  subst hws
  have hPc := (jap_P hP).2.1
  have hDc := jap_D hD
  have hFc := jfree C.2.2.1 hDc hS
  refine va_callv (va_runV (C := Cn) (As := As) (rest := st) C.1 (hM H.size) (cwV nA C.1.2.2.2.2 hG hw hrc hrs hd hR) ⟨jfb C.2.2.2.2.2.2.2, va_recv C.2.1 hPc (ci := ci) (q0 := q0) hc he, jpr C.2.2.2.2.2.2.2 (A' := A) (ws := wc) C.2.1 C.2.2.2.2.2.2.1 hPc hDc hS⟩ rfl hnA hl.1 hst (lv_room hcat) hdg hroom) hS (fun q _ h => hFc q h) hFc (fun u t H1 locs1 ht hvm hw2 hB hz1 hk1 hS1 => ?_)
  obtain ⟨hP1, hK1, hD1⟩ := hB
  rw [ht] at hP1
  obtain ⟨hP2, hD2⟩ := jframe hP hD hFc hk1 hP1 hD1
  exact kk u hw2 ls H1 locs1 hl hP2 hD2 hS1
theorem j_callV_q (C : jC Ef X l d A cc nL Ts own rm ret) (nA : Nat) {post : Option Nat → va_W → Prop} {b ci N : Nat} {fs : List Value} {Cn : String} {T : u_T} (q0 : Nat) (hM : jMq Ef d l y wy rmc mc ms (.ref b :: As) ws post) (he : ws[q0]? = some (b, .inr (ci, fs))) (hc : vwCl[ci]? = some (Cn, T, N)) (hG : GoodIn Ts (wsV own idx Cn y wy)) (hw : wy = Cond.code y bytes maxL ret' :: w') (hrc : rmc.cells = mc) (hrs : rmc.slots = ms) (hd : y.cls = Cn ∧ y.cls ≠ "java/lang/invoke/MethodHandle" ∧ y.cls ≠ "java/lang/invoke/VarHandle" ∧ (parseMethodDescriptor y.desc).map (fun d => d.parameters.length) = some nA) (hR : rmc.frames + 1 ≤ rm.frames ∧ 8 + (maxL + 11) + rmc.locals ≤ rm.locals) (hroom : cells + mc ≤ rm.cells ∧ slots + ms ≤ rm.slots) (hnA : As.length = nA) (hst : st0 = As.reverse ++ .ref b :: st) (hcat : (st.map fun v => v.category).sum ≤ 8) (hdg : decode cc pc = .ok (.invokevirtual idx, 3)) (kk : ∀ (r : Option Nat) (u : va_W), post r u → jJ X l d A nL (cells + mc) (slots + ms) u lv (pc + 3) (va_rf r :: st)) : jJ X l d A nL cells slots ws lv pc st0 := by
  obtain ⟨p, e, R, s, m, args, below, meth, c, Q⟩ := X
  intro ls H locs hl hP hD hS
  have hr : R = rm := C.2.2.2.1
  subst hr
  have hPc := hP
  have hDc := hD
  have hFc := jfree C.2.2.1 hDc hS
  refine va_callq (va_runV (C := Cn) (As := As) (rest := st) C.1 (hM H.size) (cwV nA C.1.2.2.2.2 hG hw hrc hrs hd hR) ⟨jfb C.2.2.2.2.2.2.2, va_recv C.2.1 hPc (ci := ci) (q0 := q0) hc he, jpr C.2.2.2.2.2.2.2 (A' := A) (ws := ws) C.2.1 C.2.2.2.2.2.2.1 hPc hDc hS⟩ rfl hnA hl.1 hst (lv_room hcat) hdg hroom) hS (fun q _ h => hFc q h) hFc (fun r u t H1 locs1 ht hvm hw2 hB hz1 hk1 hS1 => ?_)
  obtain ⟨hP1, hK1, hD1⟩ := hB
  rw [ht] at hP1
  exact kk r u hw2 ls H1 locs1 hl hP1 (hD1.weaken (fun k q _ h => hFc q.1 h)) hS1
theorem j_callV_qF (C : jC Ef X l d A cc nL Ts own rm ret) (nA : Nat) {post : Option Nat → va_W → Prop} {b ci N : Nat} {fs : List Value} {Cn : String} {T : u_T} (q0 : Nat) {wa wc wb : va_W} (hws : ws = wa ++ wc ++ wb) (hM : jMq Ef d l y wy rmc mc ms (.ref b :: As) wc post) (he : wc[q0]? = some (b, .inr (ci, fs))) (hc : vwCl[ci]? = some (Cn, T, N)) (hG : GoodIn Ts (wsV own idx Cn y wy)) (hw : wy = Cond.code y bytes maxL ret' :: w') (hrc : rmc.cells = mc) (hrs : rmc.slots = ms) (hd : y.cls = Cn ∧ y.cls ≠ "java/lang/invoke/MethodHandle" ∧ y.cls ≠ "java/lang/invoke/VarHandle" ∧ (parseMethodDescriptor y.desc).map (fun d => d.parameters.length) = some nA) (hR : rmc.frames + 1 ≤ rm.frames ∧ 8 + (maxL + 11) + rmc.locals ≤ rm.locals) (hroom : cells + mc ≤ rm.cells ∧ slots + ms ≤ rm.slots) (hnA : As.length = nA) (hst : st0 = As.reverse ++ .ref b :: st) (hcat : (st.map fun v => v.category).sum ≤ 8) (hdg : decode cc pc = .ok (.invokevirtual idx, 3)) (kk : ∀ (r : Option Nat) (u : va_W), post r u → jJ X l d A nL (cells + mc) (slots + ms) (wa ++ u ++ wb) lv (pc + 3) (va_rf r :: st)) : jJ X l d A nL cells slots ws lv pc st0 := by
  obtain ⟨p, e, R, s, m, args, below, meth, c, Q⟩ := X
  intro ls H locs hl hP hD hS
  have hr : R = rm := C.2.2.2.1
  subst hr
  subst hws
  have hPc := (jap_P hP).2.1
  have hDc := jap_D hD
  have hFc := jfree C.2.2.1 hDc hS
  refine va_callq (va_runV (C := Cn) (As := As) (rest := st) C.1 (hM H.size) (cwV nA C.1.2.2.2.2 hG hw hrc hrs hd hR) ⟨jfb C.2.2.2.2.2.2.2, va_recv C.2.1 hPc (ci := ci) (q0 := q0) hc he, jpr C.2.2.2.2.2.2.2 (A' := A) (ws := wc) C.2.1 C.2.2.2.2.2.2.1 hPc hDc hS⟩ rfl hnA hl.1 hst (lv_room hcat) hdg hroom) hS (fun q _ h => hFc q h) hFc (fun r u t H1 locs1 ht hvm hw2 hB hz1 hk1 hS1 => ?_)
  obtain ⟨hP1, hK1, hD1⟩ := hB
  rw [ht] at hP1
  obtain ⟨hP2, hD2⟩ := jframe hP hD hFc hk1 hP1 hD1
  exact kk r u hw2 ls H1 locs1 hl hP2 hD2 hS1
theorem j_callVN_i (C : jC Ef X l d A cc nL Ts own rm ret) (nA : Nat) {post : Int32 → va_W → Prop} {b ci N : Nat} {fs : List Value} {Cn : String} {T : u_T} (q0 : Nat) (hM : jMi Ef d l y wy rmc mc ms (.ref b :: As) ws post) (he : ws[q0]? = some (b, .inr (ci, fs))) (hc : vwCl[ci]? = some (Cn, T, N)) {host : String} (hG : GoodIn Ts wy) (hlk : Cond.methodLinkNest own idx y host ∈ Ts) (hini : Cond.initialized y.cls ∈ Ts) (hinst : Cond.instanceMethod y ∈ Ts) (hsel : Cond.selects Cn y y ∈ Ts) (hw : wy = Cond.code y bytes maxL ret' :: w') (hrc : rmc.cells = mc) (hrs : rmc.slots = ms) (hd : y.cls ≠ "java/lang/invoke/MethodHandle" ∧ y.cls ≠ "java/lang/invoke/VarHandle" ∧ (parseMethodDescriptor y.desc).map (fun d => d.parameters.length) = some nA) (hR : rmc.frames + 1 ≤ rm.frames ∧ 8 + (maxL + 11) + rmc.locals ≤ rm.locals) (hroom : cells + mc ≤ rm.cells ∧ slots + ms ≤ rm.slots) (hnA : As.length = nA) (hst : st0 = As.reverse ++ .ref b :: st) (hcat : (st.map fun v => v.category).sum ≤ 8) (hdg : decode cc pc = .ok (.invokevirtual idx, 3)) (kk : ∀ (r : Int32) (u : va_W), post r u → jJ X l d A nL (cells + mc) (slots + ms) u lv (pc + 3) (.int r :: st)) : jJ X l d A nL cells slots ws lv pc st0 := by
  obtain ⟨p, e, R, s, m, args, below, meth, c, Q⟩ := X
  intro ls H locs hl hP hD hS
  have hr : R = rm := C.2.2.2.1
  subst hr
  have hPc := hP
  have hDc := hD
  have hFc := jfree C.2.2.1 hDc hS
  refine va_calli (va_runVN (C := Cn) (As := As) (rest := st) C.1 (hM H.size) ⟨va_cnB nA C.1.2.2.2.2 hG hw hrc hrs (va_tabs rfl rfl (C.1.2.2.2.2 _ hlk)) (C.1.2.2.2.2 _ hini) hd hR, C.1.2.2.2.2 _ hinst, C.1.2.2.2.2 _ hsel⟩ ⟨jfb C.2.2.2.2.2.2.2, va_recv C.2.1 hPc (ci := ci) (q0 := q0) hc he, jpr C.2.2.2.2.2.2.2 (A' := A) (ws := ws) C.2.1 C.2.2.2.2.2.2.1 hPc hDc hS⟩ rfl hnA hl.1 hst (lv_room hcat) hdg hroom) hS (fun q _ h => hFc q h) hFc (fun r u t H1 locs1 ht hvm hw2 hB hz1 hk1 hS1 => ?_)
  obtain ⟨hP1, hK1, hD1⟩ := hB
  rw [ht] at hP1
  exact kk r u hw2 ls H1 locs1 hl hP1 (hD1.weaken (fun k q _ h => hFc q.1 h)) hS1
theorem j_callVN_iF (C : jC Ef X l d A cc nL Ts own rm ret) (nA : Nat) {post : Int32 → va_W → Prop} {b ci N : Nat} {fs : List Value} {Cn : String} {T : u_T} (q0 : Nat) {wa wc wb : va_W} (hws : ws = wa ++ wc ++ wb) (hM : jMi Ef d l y wy rmc mc ms (.ref b :: As) wc post) (he : wc[q0]? = some (b, .inr (ci, fs))) (hc : vwCl[ci]? = some (Cn, T, N)) {host : String} (hG : GoodIn Ts wy) (hlk : Cond.methodLinkNest own idx y host ∈ Ts) (hini : Cond.initialized y.cls ∈ Ts) (hinst : Cond.instanceMethod y ∈ Ts) (hsel : Cond.selects Cn y y ∈ Ts) (hw : wy = Cond.code y bytes maxL ret' :: w') (hrc : rmc.cells = mc) (hrs : rmc.slots = ms) (hd : y.cls ≠ "java/lang/invoke/MethodHandle" ∧ y.cls ≠ "java/lang/invoke/VarHandle" ∧ (parseMethodDescriptor y.desc).map (fun d => d.parameters.length) = some nA) (hR : rmc.frames + 1 ≤ rm.frames ∧ 8 + (maxL + 11) + rmc.locals ≤ rm.locals) (hroom : cells + mc ≤ rm.cells ∧ slots + ms ≤ rm.slots) (hnA : As.length = nA) (hst : st0 = As.reverse ++ .ref b :: st) (hcat : (st.map fun v => v.category).sum ≤ 8) (hdg : decode cc pc = .ok (.invokevirtual idx, 3)) (kk : ∀ (r : Int32) (u : va_W), post r u → jJ X l d A nL (cells + mc) (slots + ms) (wa ++ u ++ wb) lv (pc + 3) (.int r :: st)) : jJ X l d A nL cells slots ws lv pc st0 := by
  obtain ⟨p, e, R, s, m, args, below, meth, c, Q⟩ := X
  intro ls H locs hl hP hD hS
  have hr : R = rm := C.2.2.2.1
  subst hr
  subst hws
  have hPc := (jap_P hP).2.1
  have hDc := jap_D hD
  have hFc := jfree C.2.2.1 hDc hS
  refine va_calli (va_runVN (C := Cn) (As := As) (rest := st) C.1 (hM H.size) ⟨va_cnB nA C.1.2.2.2.2 hG hw hrc hrs (va_tabs rfl rfl (C.1.2.2.2.2 _ hlk)) (C.1.2.2.2.2 _ hini) hd hR, C.1.2.2.2.2 _ hinst, C.1.2.2.2.2 _ hsel⟩ ⟨jfb C.2.2.2.2.2.2.2, va_recv C.2.1 hPc (ci := ci) (q0 := q0) hc he, jpr C.2.2.2.2.2.2.2 (A' := A) (ws := wc) C.2.1 C.2.2.2.2.2.2.1 hPc hDc hS⟩ rfl hnA hl.1 hst (lv_room hcat) hdg hroom) hS (fun q _ h => hFc q h) hFc (fun r u t H1 locs1 ht hvm hw2 hB hz1 hk1 hS1 => ?_)
  obtain ⟨hP1, hK1, hD1⟩ := hB
  rw [ht] at hP1
  obtain ⟨hP2, hD2⟩ := jframe hP hD hFc hk1 hP1 hD1
  exact kk r u hw2 ls H1 locs1 hl hP2 hD2 hS1
theorem j_callVN_l (C : jC Ef X l d A cc nL Ts own rm ret) (nA : Nat) {post : Int64 → va_W → Prop} {b ci N : Nat} {fs : List Value} {Cn : String} {T : u_T} (q0 : Nat) (hM : jMl Ef d l y wy rmc mc ms (.ref b :: As) ws post) (he : ws[q0]? = some (b, .inr (ci, fs))) (hc : vwCl[ci]? = some (Cn, T, N)) {host : String} (hG : GoodIn Ts wy) (hlk : Cond.methodLinkNest own idx y host ∈ Ts) (hini : Cond.initialized y.cls ∈ Ts) (hinst : Cond.instanceMethod y ∈ Ts) (hsel : Cond.selects Cn y y ∈ Ts) (hw : wy = Cond.code y bytes maxL ret' :: w') (hrc : rmc.cells = mc) (hrs : rmc.slots = ms) (hd : y.cls ≠ "java/lang/invoke/MethodHandle" ∧ y.cls ≠ "java/lang/invoke/VarHandle" ∧ (parseMethodDescriptor y.desc).map (fun d => d.parameters.length) = some nA) (hR : rmc.frames + 1 ≤ rm.frames ∧ 8 + (maxL + 11) + rmc.locals ≤ rm.locals) (hroom : cells + mc ≤ rm.cells ∧ slots + ms ≤ rm.slots) (hnA : As.length = nA) (hst : st0 = As.reverse ++ .ref b :: st) (hcat : (st.map fun v => v.category).sum ≤ 8) (hdg : decode cc pc = .ok (.invokevirtual idx, 3)) (kk : ∀ (r : Int64) (u : va_W), post r u → jJ X l d A nL (cells + mc) (slots + ms) u lv (pc + 3) (.long r :: st)) : jJ X l d A nL cells slots ws lv pc st0 := by
  obtain ⟨p, e, R, s, m, args, below, meth, c, Q⟩ := X
  intro ls H locs hl hP hD hS
  have hr : R = rm := C.2.2.2.1
  subst hr
  have hPc := hP
  have hDc := hD
  have hFc := jfree C.2.2.1 hDc hS
  refine va_calll (va_runVN (C := Cn) (As := As) (rest := st) C.1 (hM H.size) ⟨va_cnB nA C.1.2.2.2.2 hG hw hrc hrs (va_tabs rfl rfl (C.1.2.2.2.2 _ hlk)) (C.1.2.2.2.2 _ hini) hd hR, C.1.2.2.2.2 _ hinst, C.1.2.2.2.2 _ hsel⟩ ⟨jfb C.2.2.2.2.2.2.2, va_recv C.2.1 hPc (ci := ci) (q0 := q0) hc he, jpr C.2.2.2.2.2.2.2 (A' := A) (ws := ws) C.2.1 C.2.2.2.2.2.2.1 hPc hDc hS⟩ rfl hnA hl.1 hst (lv_room hcat) hdg hroom) hS (fun q _ h => hFc q h) hFc (fun r u t H1 locs1 ht hvm hw2 hB hz1 hk1 hS1 => ?_)
  obtain ⟨hP1, hK1, hD1⟩ := hB
  rw [ht] at hP1
  exact kk r u hw2 ls H1 locs1 hl hP1 (hD1.weaken (fun k q _ h => hFc q.1 h)) hS1
theorem j_callVN_lF (C : jC Ef X l d A cc nL Ts own rm ret) (nA : Nat) {post : Int64 → va_W → Prop} {b ci N : Nat} {fs : List Value} {Cn : String} {T : u_T} (q0 : Nat) {wa wc wb : va_W} (hws : ws = wa ++ wc ++ wb) (hM : jMl Ef d l y wy rmc mc ms (.ref b :: As) wc post) (he : wc[q0]? = some (b, .inr (ci, fs))) (hc : vwCl[ci]? = some (Cn, T, N)) {host : String} (hG : GoodIn Ts wy) (hlk : Cond.methodLinkNest own idx y host ∈ Ts) (hini : Cond.initialized y.cls ∈ Ts) (hinst : Cond.instanceMethod y ∈ Ts) (hsel : Cond.selects Cn y y ∈ Ts) (hw : wy = Cond.code y bytes maxL ret' :: w') (hrc : rmc.cells = mc) (hrs : rmc.slots = ms) (hd : y.cls ≠ "java/lang/invoke/MethodHandle" ∧ y.cls ≠ "java/lang/invoke/VarHandle" ∧ (parseMethodDescriptor y.desc).map (fun d => d.parameters.length) = some nA) (hR : rmc.frames + 1 ≤ rm.frames ∧ 8 + (maxL + 11) + rmc.locals ≤ rm.locals) (hroom : cells + mc ≤ rm.cells ∧ slots + ms ≤ rm.slots) (hnA : As.length = nA) (hst : st0 = As.reverse ++ .ref b :: st) (hcat : (st.map fun v => v.category).sum ≤ 8) (hdg : decode cc pc = .ok (.invokevirtual idx, 3)) (kk : ∀ (r : Int64) (u : va_W), post r u → jJ X l d A nL (cells + mc) (slots + ms) (wa ++ u ++ wb) lv (pc + 3) (.long r :: st)) : jJ X l d A nL cells slots ws lv pc st0 := by
  obtain ⟨p, e, R, s, m, args, below, meth, c, Q⟩ := X
  intro ls H locs hl hP hD hS
  have hr : R = rm := C.2.2.2.1
  subst hr
  subst hws
  have hPc := (jap_P hP).2.1
  have hDc := jap_D hD
  have hFc := jfree C.2.2.1 hDc hS
  refine va_calll (va_runVN (C := Cn) (As := As) (rest := st) C.1 (hM H.size) ⟨va_cnB nA C.1.2.2.2.2 hG hw hrc hrs (va_tabs rfl rfl (C.1.2.2.2.2 _ hlk)) (C.1.2.2.2.2 _ hini) hd hR, C.1.2.2.2.2 _ hinst, C.1.2.2.2.2 _ hsel⟩ ⟨jfb C.2.2.2.2.2.2.2, va_recv C.2.1 hPc (ci := ci) (q0 := q0) hc he, jpr C.2.2.2.2.2.2.2 (A' := A) (ws := wc) C.2.1 C.2.2.2.2.2.2.1 hPc hDc hS⟩ rfl hnA hl.1 hst (lv_room hcat) hdg hroom) hS (fun q _ h => hFc q h) hFc (fun r u t H1 locs1 ht hvm hw2 hB hz1 hk1 hS1 => ?_)
  obtain ⟨hP1, hK1, hD1⟩ := hB
  rw [ht] at hP1
  obtain ⟨hP2, hD2⟩ := jframe hP hD hFc hk1 hP1 hD1
  exact kk r u hw2 ls H1 locs1 hl hP2 hD2 hS1
theorem j_callVN_v (C : jC Ef X l d A cc nL Ts own rm ret) (nA : Nat) {post : va_W → Prop} {b ci N : Nat} {fs : List Value} {Cn : String} {T : u_T} (q0 : Nat) (hM : jMv Ef d l y wy rmc mc ms (.ref b :: As) ws post) (he : ws[q0]? = some (b, .inr (ci, fs))) (hc : vwCl[ci]? = some (Cn, T, N)) {host : String} (hG : GoodIn Ts wy) (hlk : Cond.methodLinkNest own idx y host ∈ Ts) (hini : Cond.initialized y.cls ∈ Ts) (hinst : Cond.instanceMethod y ∈ Ts) (hsel : Cond.selects Cn y y ∈ Ts) (hw : wy = Cond.code y bytes maxL ret' :: w') (hrc : rmc.cells = mc) (hrs : rmc.slots = ms) (hd : y.cls ≠ "java/lang/invoke/MethodHandle" ∧ y.cls ≠ "java/lang/invoke/VarHandle" ∧ (parseMethodDescriptor y.desc).map (fun d => d.parameters.length) = some nA) (hR : rmc.frames + 1 ≤ rm.frames ∧ 8 + (maxL + 11) + rmc.locals ≤ rm.locals) (hroom : cells + mc ≤ rm.cells ∧ slots + ms ≤ rm.slots) (hnA : As.length = nA) (hst : st0 = As.reverse ++ .ref b :: st) (hcat : (st.map fun v => v.category).sum ≤ 8) (hdg : decode cc pc = .ok (.invokevirtual idx, 3)) (kk : ∀ (u : va_W), post u → jJ X l d A nL (cells + mc) (slots + ms) u lv (pc + 3) st) : jJ X l d A nL cells slots ws lv pc st0 := by
  obtain ⟨p, e, R, s, m, args, below, meth, c, Q⟩ := X
  intro ls H locs hl hP hD hS
  have hr : R = rm := C.2.2.2.1
  subst hr
  have hPc := hP
  have hDc := hD
  have hFc := jfree C.2.2.1 hDc hS
  refine va_callv (va_runVN (C := Cn) (As := As) (rest := st) C.1 (hM H.size) ⟨va_cnB nA C.1.2.2.2.2 hG hw hrc hrs (va_tabs rfl rfl (C.1.2.2.2.2 _ hlk)) (C.1.2.2.2.2 _ hini) hd hR, C.1.2.2.2.2 _ hinst, C.1.2.2.2.2 _ hsel⟩ ⟨jfb C.2.2.2.2.2.2.2, va_recv C.2.1 hPc (ci := ci) (q0 := q0) hc he, jpr C.2.2.2.2.2.2.2 (A' := A) (ws := ws) C.2.1 C.2.2.2.2.2.2.1 hPc hDc hS⟩ rfl hnA hl.1 hst (lv_room hcat) hdg hroom) hS (fun q _ h => hFc q h) hFc (fun u t H1 locs1 ht hvm hw2 hB hz1 hk1 hS1 => ?_)
  obtain ⟨hP1, hK1, hD1⟩ := hB
  rw [ht] at hP1
  exact kk u hw2 ls H1 locs1 hl hP1 (hD1.weaken (fun k q _ h => hFc q.1 h)) hS1
theorem j_callVN_vF (C : jC Ef X l d A cc nL Ts own rm ret) (nA : Nat) {post : va_W → Prop} {b ci N : Nat} {fs : List Value} {Cn : String} {T : u_T} (q0 : Nat) {wa wc wb : va_W} (hws : ws = wa ++ wc ++ wb) (hM : jMv Ef d l y wy rmc mc ms (.ref b :: As) wc post) (he : wc[q0]? = some (b, .inr (ci, fs))) (hc : vwCl[ci]? = some (Cn, T, N)) {host : String} (hG : GoodIn Ts wy) (hlk : Cond.methodLinkNest own idx y host ∈ Ts) (hini : Cond.initialized y.cls ∈ Ts) (hinst : Cond.instanceMethod y ∈ Ts) (hsel : Cond.selects Cn y y ∈ Ts) (hw : wy = Cond.code y bytes maxL ret' :: w') (hrc : rmc.cells = mc) (hrs : rmc.slots = ms) (hd : y.cls ≠ "java/lang/invoke/MethodHandle" ∧ y.cls ≠ "java/lang/invoke/VarHandle" ∧ (parseMethodDescriptor y.desc).map (fun d => d.parameters.length) = some nA) (hR : rmc.frames + 1 ≤ rm.frames ∧ 8 + (maxL + 11) + rmc.locals ≤ rm.locals) (hroom : cells + mc ≤ rm.cells ∧ slots + ms ≤ rm.slots) (hnA : As.length = nA) (hst : st0 = As.reverse ++ .ref b :: st) (hcat : (st.map fun v => v.category).sum ≤ 8) (hdg : decode cc pc = .ok (.invokevirtual idx, 3)) (kk : ∀ (u : va_W), post u → jJ X l d A nL (cells + mc) (slots + ms) (wa ++ u ++ wb) lv (pc + 3) st) : jJ X l d A nL cells slots ws lv pc st0 := by
  obtain ⟨p, e, R, s, m, args, below, meth, c, Q⟩ := X
  intro ls H locs hl hP hD hS
  have hr : R = rm := C.2.2.2.1
  subst hr
  subst hws
  have hPc := (jap_P hP).2.1
  have hDc := jap_D hD
  have hFc := jfree C.2.2.1 hDc hS
  refine va_callv (va_runVN (C := Cn) (As := As) (rest := st) C.1 (hM H.size) ⟨va_cnB nA C.1.2.2.2.2 hG hw hrc hrs (va_tabs rfl rfl (C.1.2.2.2.2 _ hlk)) (C.1.2.2.2.2 _ hini) hd hR, C.1.2.2.2.2 _ hinst, C.1.2.2.2.2 _ hsel⟩ ⟨jfb C.2.2.2.2.2.2.2, va_recv C.2.1 hPc (ci := ci) (q0 := q0) hc he, jpr C.2.2.2.2.2.2.2 (A' := A) (ws := wc) C.2.1 C.2.2.2.2.2.2.1 hPc hDc hS⟩ rfl hnA hl.1 hst (lv_room hcat) hdg hroom) hS (fun q _ h => hFc q h) hFc (fun u t H1 locs1 ht hvm hw2 hB hz1 hk1 hS1 => ?_)
  obtain ⟨hP1, hK1, hD1⟩ := hB
  rw [ht] at hP1
  obtain ⟨hP2, hD2⟩ := jframe hP hD hFc hk1 hP1 hD1
  exact kk u hw2 ls H1 locs1 hl hP2 hD2 hS1
theorem j_callVN_q (C : jC Ef X l d A cc nL Ts own rm ret) (nA : Nat) {post : Option Nat → va_W → Prop} {b ci N : Nat} {fs : List Value} {Cn : String} {T : u_T} (q0 : Nat) (hM : jMq Ef d l y wy rmc mc ms (.ref b :: As) ws post) (he : ws[q0]? = some (b, .inr (ci, fs))) (hc : vwCl[ci]? = some (Cn, T, N)) {host : String} (hG : GoodIn Ts wy) (hlk : Cond.methodLinkNest own idx y host ∈ Ts) (hini : Cond.initialized y.cls ∈ Ts) (hinst : Cond.instanceMethod y ∈ Ts) (hsel : Cond.selects Cn y y ∈ Ts) (hw : wy = Cond.code y bytes maxL ret' :: w') (hrc : rmc.cells = mc) (hrs : rmc.slots = ms) (hd : y.cls ≠ "java/lang/invoke/MethodHandle" ∧ y.cls ≠ "java/lang/invoke/VarHandle" ∧ (parseMethodDescriptor y.desc).map (fun d => d.parameters.length) = some nA) (hR : rmc.frames + 1 ≤ rm.frames ∧ 8 + (maxL + 11) + rmc.locals ≤ rm.locals) (hroom : cells + mc ≤ rm.cells ∧ slots + ms ≤ rm.slots) (hnA : As.length = nA) (hst : st0 = As.reverse ++ .ref b :: st) (hcat : (st.map fun v => v.category).sum ≤ 8) (hdg : decode cc pc = .ok (.invokevirtual idx, 3)) (kk : ∀ (r : Option Nat) (u : va_W), post r u → jJ X l d A nL (cells + mc) (slots + ms) u lv (pc + 3) (va_rf r :: st)) : jJ X l d A nL cells slots ws lv pc st0 := by
  obtain ⟨p, e, R, s, m, args, below, meth, c, Q⟩ := X
  intro ls H locs hl hP hD hS
  have hr : R = rm := C.2.2.2.1
  subst hr
  have hPc := hP
  have hDc := hD
  have hFc := jfree C.2.2.1 hDc hS
  refine va_callq (va_runVN (C := Cn) (As := As) (rest := st) C.1 (hM H.size) ⟨va_cnB nA C.1.2.2.2.2 hG hw hrc hrs (va_tabs rfl rfl (C.1.2.2.2.2 _ hlk)) (C.1.2.2.2.2 _ hini) hd hR, C.1.2.2.2.2 _ hinst, C.1.2.2.2.2 _ hsel⟩ ⟨jfb C.2.2.2.2.2.2.2, va_recv C.2.1 hPc (ci := ci) (q0 := q0) hc he, jpr C.2.2.2.2.2.2.2 (A' := A) (ws := ws) C.2.1 C.2.2.2.2.2.2.1 hPc hDc hS⟩ rfl hnA hl.1 hst (lv_room hcat) hdg hroom) hS (fun q _ h => hFc q h) hFc (fun r u t H1 locs1 ht hvm hw2 hB hz1 hk1 hS1 => ?_)
  obtain ⟨hP1, hK1, hD1⟩ := hB
  rw [ht] at hP1
  exact kk r u hw2 ls H1 locs1 hl hP1 (hD1.weaken (fun k q _ h => hFc q.1 h)) hS1
theorem j_callVN_qF (C : jC Ef X l d A cc nL Ts own rm ret) (nA : Nat) {post : Option Nat → va_W → Prop} {b ci N : Nat} {fs : List Value} {Cn : String} {T : u_T} (q0 : Nat) {wa wc wb : va_W} (hws : ws = wa ++ wc ++ wb) (hM : jMq Ef d l y wy rmc mc ms (.ref b :: As) wc post) (he : wc[q0]? = some (b, .inr (ci, fs))) (hc : vwCl[ci]? = some (Cn, T, N)) {host : String} (hG : GoodIn Ts wy) (hlk : Cond.methodLinkNest own idx y host ∈ Ts) (hini : Cond.initialized y.cls ∈ Ts) (hinst : Cond.instanceMethod y ∈ Ts) (hsel : Cond.selects Cn y y ∈ Ts) (hw : wy = Cond.code y bytes maxL ret' :: w') (hrc : rmc.cells = mc) (hrs : rmc.slots = ms) (hd : y.cls ≠ "java/lang/invoke/MethodHandle" ∧ y.cls ≠ "java/lang/invoke/VarHandle" ∧ (parseMethodDescriptor y.desc).map (fun d => d.parameters.length) = some nA) (hR : rmc.frames + 1 ≤ rm.frames ∧ 8 + (maxL + 11) + rmc.locals ≤ rm.locals) (hroom : cells + mc ≤ rm.cells ∧ slots + ms ≤ rm.slots) (hnA : As.length = nA) (hst : st0 = As.reverse ++ .ref b :: st) (hcat : (st.map fun v => v.category).sum ≤ 8) (hdg : decode cc pc = .ok (.invokevirtual idx, 3)) (kk : ∀ (r : Option Nat) (u : va_W), post r u → jJ X l d A nL (cells + mc) (slots + ms) (wa ++ u ++ wb) lv (pc + 3) (va_rf r :: st)) : jJ X l d A nL cells slots ws lv pc st0 := by
  obtain ⟨p, e, R, s, m, args, below, meth, c, Q⟩ := X
  intro ls H locs hl hP hD hS
  have hr : R = rm := C.2.2.2.1
  subst hr
  subst hws
  have hPc := (jap_P hP).2.1
  have hDc := jap_D hD
  have hFc := jfree C.2.2.1 hDc hS
  refine va_callq (va_runVN (C := Cn) (As := As) (rest := st) C.1 (hM H.size) ⟨va_cnB nA C.1.2.2.2.2 hG hw hrc hrs (va_tabs rfl rfl (C.1.2.2.2.2 _ hlk)) (C.1.2.2.2.2 _ hini) hd hR, C.1.2.2.2.2 _ hinst, C.1.2.2.2.2 _ hsel⟩ ⟨jfb C.2.2.2.2.2.2.2, va_recv C.2.1 hPc (ci := ci) (q0 := q0) hc he, jpr C.2.2.2.2.2.2.2 (A' := A) (ws := wc) C.2.1 C.2.2.2.2.2.2.1 hPc hDc hS⟩ rfl hnA hl.1 hst (lv_room hcat) hdg hroom) hS (fun q _ h => hFc q h) hFc (fun r u t H1 locs1 ht hvm hw2 hB hz1 hk1 hS1 => ?_)
  obtain ⟨hP1, hK1, hD1⟩ := hB
  rw [ht] at hP1
  obtain ⟨hP2, hD2⟩ := jframe hP hD hFc hk1 hP1 hD1
  exact kk r u hw2 ls H1 locs1 hl hP2 hD2 hS1
theorem j_callS_i (C : jC Ef X l d A cc nL Ts own rm ret) (nA : Nat) {post : Int32 → va_W → Prop} (hM : jMi Ef d l y wy rmc mc ms As ws post) (hG : GoodIn Ts (wsS own idx y wy)) (hw : wy = Cond.code y bytes maxL ret' :: w') (hrc : rmc.cells = mc) (hrs : rmc.slots = ms) (hd : y.cls = own ∧ y.cls ≠ "java/lang/invoke/MethodHandle" ∧ y.cls ≠ "java/lang/invoke/VarHandle" ∧ (parseMethodDescriptor y.desc).map (fun d => d.parameters.length) = some nA) (hR : rmc.frames + 1 ≤ rm.frames ∧ 8 + (maxL + 11) + rmc.locals ≤ rm.locals) (hroom : cells + mc ≤ rm.cells ∧ slots + ms ≤ rm.slots) (hnA : As.length = nA) (hst : st0 = As.reverse ++ st) (hcat : (st.map fun v => v.category).sum ≤ 8) (hdg : decode cc pc = .ok (.invokestatic idx, 3)) (kk : ∀ (r : Int32) (u : va_W), post r u → jJ X l d A nL (cells + mc) (slots + ms) u lv (pc + 3) (.int r :: st)) : jJ X l d A nL cells slots ws lv pc st0 := by
  obtain ⟨p, e, R, s, m, args, below, meth, c, Q⟩ := X
  intro ls H locs hl hP hD hS
  have hr : R = rm := C.2.2.2.1
  subst hr
  have hPc := hP
  have hDc := hD
  have hFc := jfree C.2.2.1 hDc hS
  refine va_calli (va_runS (As := As) (rest := st) C.1 (hM H.size) (cwS nA C.1.2.2.2.2 hG hw hrc hrs hd hR) ⟨jfb C.2.2.2.2.2.2.2, jpr C.2.2.2.2.2.2.2 (A' := A) (ws := ws) C.2.1 C.2.2.2.2.2.2.1 hPc hDc hS⟩ rfl hnA hl.1 hst (lv_room hcat) hdg hroom) hS (fun q _ h => hFc q h) hFc (fun r u t H1 locs1 ht hvm hw2 hB hz1 hk1 hS1 => ?_)
  obtain ⟨hP1, hK1, hD1⟩ := hB
  rw [ht] at hP1
  exact kk r u hw2 ls H1 locs1 hl hP1 (hD1.weaken (fun k q _ h => hFc q.1 h)) hS1
theorem j_callS_iF (C : jC Ef X l d A cc nL Ts own rm ret) (nA : Nat) {post : Int32 → va_W → Prop} {wa wc wb : va_W} (hws : ws = wa ++ wc ++ wb) (hM : jMi Ef d l y wy rmc mc ms As wc post) (hG : GoodIn Ts (wsS own idx y wy)) (hw : wy = Cond.code y bytes maxL ret' :: w') (hrc : rmc.cells = mc) (hrs : rmc.slots = ms) (hd : y.cls = own ∧ y.cls ≠ "java/lang/invoke/MethodHandle" ∧ y.cls ≠ "java/lang/invoke/VarHandle" ∧ (parseMethodDescriptor y.desc).map (fun d => d.parameters.length) = some nA) (hR : rmc.frames + 1 ≤ rm.frames ∧ 8 + (maxL + 11) + rmc.locals ≤ rm.locals) (hroom : cells + mc ≤ rm.cells ∧ slots + ms ≤ rm.slots) (hnA : As.length = nA) (hst : st0 = As.reverse ++ st) (hcat : (st.map fun v => v.category).sum ≤ 8) (hdg : decode cc pc = .ok (.invokestatic idx, 3)) (kk : ∀ (r : Int32) (u : va_W), post r u → jJ X l d A nL (cells + mc) (slots + ms) (wa ++ u ++ wb) lv (pc + 3) (.int r :: st)) : jJ X l d A nL cells slots ws lv pc st0 := by
  obtain ⟨p, e, R, s, m, args, below, meth, c, Q⟩ := X
  intro ls H locs hl hP hD hS
  have hr : R = rm := C.2.2.2.1
  subst hr
  subst hws
  have hPc := (jap_P hP).2.1
  have hDc := jap_D hD
  have hFc := jfree C.2.2.1 hDc hS
  refine va_calli (va_runS (As := As) (rest := st) C.1 (hM H.size) (cwS nA C.1.2.2.2.2 hG hw hrc hrs hd hR) ⟨jfb C.2.2.2.2.2.2.2, jpr C.2.2.2.2.2.2.2 (A' := A) (ws := wc) C.2.1 C.2.2.2.2.2.2.1 hPc hDc hS⟩ rfl hnA hl.1 hst (lv_room hcat) hdg hroom) hS (fun q _ h => hFc q h) hFc (fun r u t H1 locs1 ht hvm hw2 hB hz1 hk1 hS1 => ?_)
  obtain ⟨hP1, hK1, hD1⟩ := hB
  rw [ht] at hP1
  obtain ⟨hP2, hD2⟩ := jframe hP hD hFc hk1 hP1 hD1
  exact kk r u hw2 ls H1 locs1 hl hP2 hD2 hS1
theorem j_callS_l (C : jC Ef X l d A cc nL Ts own rm ret) (nA : Nat) {post : Int64 → va_W → Prop} (hM : jMl Ef d l y wy rmc mc ms As ws post) (hG : GoodIn Ts (wsS own idx y wy)) (hw : wy = Cond.code y bytes maxL ret' :: w') (hrc : rmc.cells = mc) (hrs : rmc.slots = ms) (hd : y.cls = own ∧ y.cls ≠ "java/lang/invoke/MethodHandle" ∧ y.cls ≠ "java/lang/invoke/VarHandle" ∧ (parseMethodDescriptor y.desc).map (fun d => d.parameters.length) = some nA) (hR : rmc.frames + 1 ≤ rm.frames ∧ 8 + (maxL + 11) + rmc.locals ≤ rm.locals) (hroom : cells + mc ≤ rm.cells ∧ slots + ms ≤ rm.slots) (hnA : As.length = nA) (hst : st0 = As.reverse ++ st) (hcat : (st.map fun v => v.category).sum ≤ 8) (hdg : decode cc pc = .ok (.invokestatic idx, 3)) (kk : ∀ (r : Int64) (u : va_W), post r u → jJ X l d A nL (cells + mc) (slots + ms) u lv (pc + 3) (.long r :: st)) : jJ X l d A nL cells slots ws lv pc st0 := by
  obtain ⟨p, e, R, s, m, args, below, meth, c, Q⟩ := X
  intro ls H locs hl hP hD hS
  have hr : R = rm := C.2.2.2.1
  subst hr
  have hPc := hP
  have hDc := hD
  have hFc := jfree C.2.2.1 hDc hS
  refine va_calll (va_runS (As := As) (rest := st) C.1 (hM H.size) (cwS nA C.1.2.2.2.2 hG hw hrc hrs hd hR) ⟨jfb C.2.2.2.2.2.2.2, jpr C.2.2.2.2.2.2.2 (A' := A) (ws := ws) C.2.1 C.2.2.2.2.2.2.1 hPc hDc hS⟩ rfl hnA hl.1 hst (lv_room hcat) hdg hroom) hS (fun q _ h => hFc q h) hFc (fun r u t H1 locs1 ht hvm hw2 hB hz1 hk1 hS1 => ?_)
  obtain ⟨hP1, hK1, hD1⟩ := hB
  rw [ht] at hP1
  exact kk r u hw2 ls H1 locs1 hl hP1 (hD1.weaken (fun k q _ h => hFc q.1 h)) hS1
theorem j_callS_lF (C : jC Ef X l d A cc nL Ts own rm ret) (nA : Nat) {post : Int64 → va_W → Prop} {wa wc wb : va_W} (hws : ws = wa ++ wc ++ wb) (hM : jMl Ef d l y wy rmc mc ms As wc post) (hG : GoodIn Ts (wsS own idx y wy)) (hw : wy = Cond.code y bytes maxL ret' :: w') (hrc : rmc.cells = mc) (hrs : rmc.slots = ms) (hd : y.cls = own ∧ y.cls ≠ "java/lang/invoke/MethodHandle" ∧ y.cls ≠ "java/lang/invoke/VarHandle" ∧ (parseMethodDescriptor y.desc).map (fun d => d.parameters.length) = some nA) (hR : rmc.frames + 1 ≤ rm.frames ∧ 8 + (maxL + 11) + rmc.locals ≤ rm.locals) (hroom : cells + mc ≤ rm.cells ∧ slots + ms ≤ rm.slots) (hnA : As.length = nA) (hst : st0 = As.reverse ++ st) (hcat : (st.map fun v => v.category).sum ≤ 8) (hdg : decode cc pc = .ok (.invokestatic idx, 3)) (kk : ∀ (r : Int64) (u : va_W), post r u → jJ X l d A nL (cells + mc) (slots + ms) (wa ++ u ++ wb) lv (pc + 3) (.long r :: st)) : jJ X l d A nL cells slots ws lv pc st0 := by
  obtain ⟨p, e, R, s, m, args, below, meth, c, Q⟩ := X
  intro ls H locs hl hP hD hS
  have hr : R = rm := C.2.2.2.1
  subst hr
  subst hws
  have hPc := (jap_P hP).2.1
  have hDc := jap_D hD
  have hFc := jfree C.2.2.1 hDc hS
  refine va_calll (va_runS (As := As) (rest := st) C.1 (hM H.size) (cwS nA C.1.2.2.2.2 hG hw hrc hrs hd hR) ⟨jfb C.2.2.2.2.2.2.2, jpr C.2.2.2.2.2.2.2 (A' := A) (ws := wc) C.2.1 C.2.2.2.2.2.2.1 hPc hDc hS⟩ rfl hnA hl.1 hst (lv_room hcat) hdg hroom) hS (fun q _ h => hFc q h) hFc (fun r u t H1 locs1 ht hvm hw2 hB hz1 hk1 hS1 => ?_)
  obtain ⟨hP1, hK1, hD1⟩ := hB
  rw [ht] at hP1
  obtain ⟨hP2, hD2⟩ := jframe hP hD hFc hk1 hP1 hD1
  exact kk r u hw2 ls H1 locs1 hl hP2 hD2 hS1
theorem j_callS_v (C : jC Ef X l d A cc nL Ts own rm ret) (nA : Nat) {post : va_W → Prop} (hM : jMv Ef d l y wy rmc mc ms As ws post) (hG : GoodIn Ts (wsS own idx y wy)) (hw : wy = Cond.code y bytes maxL ret' :: w') (hrc : rmc.cells = mc) (hrs : rmc.slots = ms) (hd : y.cls = own ∧ y.cls ≠ "java/lang/invoke/MethodHandle" ∧ y.cls ≠ "java/lang/invoke/VarHandle" ∧ (parseMethodDescriptor y.desc).map (fun d => d.parameters.length) = some nA) (hR : rmc.frames + 1 ≤ rm.frames ∧ 8 + (maxL + 11) + rmc.locals ≤ rm.locals) (hroom : cells + mc ≤ rm.cells ∧ slots + ms ≤ rm.slots) (hnA : As.length = nA) (hst : st0 = As.reverse ++ st) (hcat : (st.map fun v => v.category).sum ≤ 8) (hdg : decode cc pc = .ok (.invokestatic idx, 3)) (kk : ∀ (u : va_W), post u → jJ X l d A nL (cells + mc) (slots + ms) u lv (pc + 3) st) : jJ X l d A nL cells slots ws lv pc st0 := by
  obtain ⟨p, e, R, s, m, args, below, meth, c, Q⟩ := X
  intro ls H locs hl hP hD hS
  have hr : R = rm := C.2.2.2.1
  subst hr
  have hPc := hP
  have hDc := hD
  have hFc := jfree C.2.2.1 hDc hS
  refine va_callv (va_runS (As := As) (rest := st) C.1 (hM H.size) (cwS nA C.1.2.2.2.2 hG hw hrc hrs hd hR) ⟨jfb C.2.2.2.2.2.2.2, jpr C.2.2.2.2.2.2.2 (A' := A) (ws := ws) C.2.1 C.2.2.2.2.2.2.1 hPc hDc hS⟩ rfl hnA hl.1 hst (lv_room hcat) hdg hroom) hS (fun q _ h => hFc q h) hFc (fun u t H1 locs1 ht hvm hw2 hB hz1 hk1 hS1 => ?_)
  obtain ⟨hP1, hK1, hD1⟩ := hB
  rw [ht] at hP1
  exact kk u hw2 ls H1 locs1 hl hP1 (hD1.weaken (fun k q _ h => hFc q.1 h)) hS1
theorem j_callS_vF (C : jC Ef X l d A cc nL Ts own rm ret) (nA : Nat) {post : va_W → Prop} {wa wc wb : va_W} (hws : ws = wa ++ wc ++ wb) (hM : jMv Ef d l y wy rmc mc ms As wc post) (hG : GoodIn Ts (wsS own idx y wy)) (hw : wy = Cond.code y bytes maxL ret' :: w') (hrc : rmc.cells = mc) (hrs : rmc.slots = ms) (hd : y.cls = own ∧ y.cls ≠ "java/lang/invoke/MethodHandle" ∧ y.cls ≠ "java/lang/invoke/VarHandle" ∧ (parseMethodDescriptor y.desc).map (fun d => d.parameters.length) = some nA) (hR : rmc.frames + 1 ≤ rm.frames ∧ 8 + (maxL + 11) + rmc.locals ≤ rm.locals) (hroom : cells + mc ≤ rm.cells ∧ slots + ms ≤ rm.slots) (hnA : As.length = nA) (hst : st0 = As.reverse ++ st) (hcat : (st.map fun v => v.category).sum ≤ 8) (hdg : decode cc pc = .ok (.invokestatic idx, 3)) (kk : ∀ (u : va_W), post u → jJ X l d A nL (cells + mc) (slots + ms) (wa ++ u ++ wb) lv (pc + 3) st) : jJ X l d A nL cells slots ws lv pc st0 := by
  obtain ⟨p, e, R, s, m, args, below, meth, c, Q⟩ := X
  intro ls H locs hl hP hD hS
  have hr : R = rm := C.2.2.2.1
  subst hr
  subst hws
  have hPc := (jap_P hP).2.1
  have hDc := jap_D hD
  have hFc := jfree C.2.2.1 hDc hS
  refine va_callv (va_runS (As := As) (rest := st) C.1 (hM H.size) (cwS nA C.1.2.2.2.2 hG hw hrc hrs hd hR) ⟨jfb C.2.2.2.2.2.2.2, jpr C.2.2.2.2.2.2.2 (A' := A) (ws := wc) C.2.1 C.2.2.2.2.2.2.1 hPc hDc hS⟩ rfl hnA hl.1 hst (lv_room hcat) hdg hroom) hS (fun q _ h => hFc q h) hFc (fun u t H1 locs1 ht hvm hw2 hB hz1 hk1 hS1 => ?_)
  obtain ⟨hP1, hK1, hD1⟩ := hB
  rw [ht] at hP1
  obtain ⟨hP2, hD2⟩ := jframe hP hD hFc hk1 hP1 hD1
  exact kk u hw2 ls H1 locs1 hl hP2 hD2 hS1
theorem j_callS_q (C : jC Ef X l d A cc nL Ts own rm ret) (nA : Nat) {post : Option Nat → va_W → Prop} (hM : jMq Ef d l y wy rmc mc ms As ws post) (hG : GoodIn Ts (wsS own idx y wy)) (hw : wy = Cond.code y bytes maxL ret' :: w') (hrc : rmc.cells = mc) (hrs : rmc.slots = ms) (hd : y.cls = own ∧ y.cls ≠ "java/lang/invoke/MethodHandle" ∧ y.cls ≠ "java/lang/invoke/VarHandle" ∧ (parseMethodDescriptor y.desc).map (fun d => d.parameters.length) = some nA) (hR : rmc.frames + 1 ≤ rm.frames ∧ 8 + (maxL + 11) + rmc.locals ≤ rm.locals) (hroom : cells + mc ≤ rm.cells ∧ slots + ms ≤ rm.slots) (hnA : As.length = nA) (hst : st0 = As.reverse ++ st) (hcat : (st.map fun v => v.category).sum ≤ 8) (hdg : decode cc pc = .ok (.invokestatic idx, 3)) (kk : ∀ (r : Option Nat) (u : va_W), post r u → jJ X l d A nL (cells + mc) (slots + ms) u lv (pc + 3) (va_rf r :: st)) : jJ X l d A nL cells slots ws lv pc st0 := by
  obtain ⟨p, e, R, s, m, args, below, meth, c, Q⟩ := X
  intro ls H locs hl hP hD hS
  have hr : R = rm := C.2.2.2.1
  subst hr
  have hPc := hP
  have hDc := hD
  have hFc := jfree C.2.2.1 hDc hS
  refine va_callq (va_runS (As := As) (rest := st) C.1 (hM H.size) (cwS nA C.1.2.2.2.2 hG hw hrc hrs hd hR) ⟨jfb C.2.2.2.2.2.2.2, jpr C.2.2.2.2.2.2.2 (A' := A) (ws := ws) C.2.1 C.2.2.2.2.2.2.1 hPc hDc hS⟩ rfl hnA hl.1 hst (lv_room hcat) hdg hroom) hS (fun q _ h => hFc q h) hFc (fun r u t H1 locs1 ht hvm hw2 hB hz1 hk1 hS1 => ?_)
  obtain ⟨hP1, hK1, hD1⟩ := hB
  rw [ht] at hP1
  exact kk r u hw2 ls H1 locs1 hl hP1 (hD1.weaken (fun k q _ h => hFc q.1 h)) hS1
theorem j_callS_qF (C : jC Ef X l d A cc nL Ts own rm ret) (nA : Nat) {post : Option Nat → va_W → Prop} {wa wc wb : va_W} (hws : ws = wa ++ wc ++ wb) (hM : jMq Ef d l y wy rmc mc ms As wc post) (hG : GoodIn Ts (wsS own idx y wy)) (hw : wy = Cond.code y bytes maxL ret' :: w') (hrc : rmc.cells = mc) (hrs : rmc.slots = ms) (hd : y.cls = own ∧ y.cls ≠ "java/lang/invoke/MethodHandle" ∧ y.cls ≠ "java/lang/invoke/VarHandle" ∧ (parseMethodDescriptor y.desc).map (fun d => d.parameters.length) = some nA) (hR : rmc.frames + 1 ≤ rm.frames ∧ 8 + (maxL + 11) + rmc.locals ≤ rm.locals) (hroom : cells + mc ≤ rm.cells ∧ slots + ms ≤ rm.slots) (hnA : As.length = nA) (hst : st0 = As.reverse ++ st) (hcat : (st.map fun v => v.category).sum ≤ 8) (hdg : decode cc pc = .ok (.invokestatic idx, 3)) (kk : ∀ (r : Option Nat) (u : va_W), post r u → jJ X l d A nL (cells + mc) (slots + ms) (wa ++ u ++ wb) lv (pc + 3) (va_rf r :: st)) : jJ X l d A nL cells slots ws lv pc st0 := by
  obtain ⟨p, e, R, s, m, args, below, meth, c, Q⟩ := X
  intro ls H locs hl hP hD hS
  have hr : R = rm := C.2.2.2.1
  subst hr
  subst hws
  have hPc := (jap_P hP).2.1
  have hDc := jap_D hD
  have hFc := jfree C.2.2.1 hDc hS
  refine va_callq (va_runS (As := As) (rest := st) C.1 (hM H.size) (cwS nA C.1.2.2.2.2 hG hw hrc hrs hd hR) ⟨jfb C.2.2.2.2.2.2.2, jpr C.2.2.2.2.2.2.2 (A' := A) (ws := wc) C.2.1 C.2.2.2.2.2.2.1 hPc hDc hS⟩ rfl hnA hl.1 hst (lv_room hcat) hdg hroom) hS (fun q _ h => hFc q h) hFc (fun r u t H1 locs1 ht hvm hw2 hB hz1 hk1 hS1 => ?_)
  obtain ⟨hP1, hK1, hD1⟩ := hB
  rw [ht] at hP1
  obtain ⟨hP2, hD2⟩ := jframe hP hD hFc hk1 hP1 hD1
  exact kk r u hw2 ls H1 locs1 hl hP2 hD2 hS1
theorem j_callSN_i (C : jC Ef X l d A cc nL Ts own rm ret) (nA : Nat) {post : Int32 → va_W → Prop} (hM : jMi Ef d l y wy rmc mc ms As ws post) {host : String} (hG : GoodIn Ts wy) (hlk : Cond.methodLinkNest own idx y host ∈ Ts) (hini : Cond.initialized y.cls ∈ Ts) (hstat : Cond.static y ∈ Ts) (hw : wy = Cond.code y bytes maxL ret' :: w') (hrc : rmc.cells = mc) (hrs : rmc.slots = ms) (hd : y.cls ≠ "java/lang/invoke/MethodHandle" ∧ y.cls ≠ "java/lang/invoke/VarHandle" ∧ (parseMethodDescriptor y.desc).map (fun d => d.parameters.length) = some nA) (hR : rmc.frames + 1 ≤ rm.frames ∧ 8 + (maxL + 11) + rmc.locals ≤ rm.locals) (hroom : cells + mc ≤ rm.cells ∧ slots + ms ≤ rm.slots) (hnA : As.length = nA) (hst : st0 = As.reverse ++ st) (hcat : (st.map fun v => v.category).sum ≤ 8) (hdg : decode cc pc = .ok (.invokestatic idx, 3)) (kk : ∀ (r : Int32) (u : va_W), post r u → jJ X l d A nL (cells + mc) (slots + ms) u lv (pc + 3) (.int r :: st)) : jJ X l d A nL cells slots ws lv pc st0 := by
  obtain ⟨p, e, R, s, m, args, below, meth, c, Q⟩ := X
  intro ls H locs hl hP hD hS
  have hr : R = rm := C.2.2.2.1
  subst hr
  have hPc := hP
  have hDc := hD
  have hFc := jfree C.2.2.1 hDc hS
  refine va_calli (va_runSN (As := As) (rest := st) C.1 (hM H.size) ⟨va_cnB nA C.1.2.2.2.2 hG hw hrc hrs (va_tabs rfl rfl (C.1.2.2.2.2 _ hlk)) (C.1.2.2.2.2 _ hini) hd hR, C.1.2.2.2.2 _ hstat, trivial⟩ ⟨jfb C.2.2.2.2.2.2.2, jpr C.2.2.2.2.2.2.2 (A' := A) (ws := ws) C.2.1 C.2.2.2.2.2.2.1 hPc hDc hS⟩ rfl hnA hl.1 hst (lv_room hcat) hdg hroom) hS (fun q _ h => hFc q h) hFc (fun r u t H1 locs1 ht hvm hw2 hB hz1 hk1 hS1 => ?_)
  obtain ⟨hP1, hK1, hD1⟩ := hB
  rw [ht] at hP1
  exact kk r u hw2 ls H1 locs1 hl hP1 (hD1.weaken (fun k q _ h => hFc q.1 h)) hS1
theorem j_callSN_l (C : jC Ef X l d A cc nL Ts own rm ret) (nA : Nat) {post : Int64 → va_W → Prop} (hM : jMl Ef d l y wy rmc mc ms As ws post) {host : String} (hG : GoodIn Ts wy) (hlk : Cond.methodLinkNest own idx y host ∈ Ts) (hini : Cond.initialized y.cls ∈ Ts) (hstat : Cond.static y ∈ Ts) (hw : wy = Cond.code y bytes maxL ret' :: w') (hrc : rmc.cells = mc) (hrs : rmc.slots = ms) (hd : y.cls ≠ "java/lang/invoke/MethodHandle" ∧ y.cls ≠ "java/lang/invoke/VarHandle" ∧ (parseMethodDescriptor y.desc).map (fun d => d.parameters.length) = some nA) (hR : rmc.frames + 1 ≤ rm.frames ∧ 8 + (maxL + 11) + rmc.locals ≤ rm.locals) (hroom : cells + mc ≤ rm.cells ∧ slots + ms ≤ rm.slots) (hnA : As.length = nA) (hst : st0 = As.reverse ++ st) (hcat : (st.map fun v => v.category).sum ≤ 8) (hdg : decode cc pc = .ok (.invokestatic idx, 3)) (kk : ∀ (r : Int64) (u : va_W), post r u → jJ X l d A nL (cells + mc) (slots + ms) u lv (pc + 3) (.long r :: st)) : jJ X l d A nL cells slots ws lv pc st0 := by
  obtain ⟨p, e, R, s, m, args, below, meth, c, Q⟩ := X
  intro ls H locs hl hP hD hS
  have hr : R = rm := C.2.2.2.1
  subst hr
  have hPc := hP
  have hDc := hD
  have hFc := jfree C.2.2.1 hDc hS
  refine va_calll (va_runSN (As := As) (rest := st) C.1 (hM H.size) ⟨va_cnB nA C.1.2.2.2.2 hG hw hrc hrs (va_tabs rfl rfl (C.1.2.2.2.2 _ hlk)) (C.1.2.2.2.2 _ hini) hd hR, C.1.2.2.2.2 _ hstat, trivial⟩ ⟨jfb C.2.2.2.2.2.2.2, jpr C.2.2.2.2.2.2.2 (A' := A) (ws := ws) C.2.1 C.2.2.2.2.2.2.1 hPc hDc hS⟩ rfl hnA hl.1 hst (lv_room hcat) hdg hroom) hS (fun q _ h => hFc q h) hFc (fun r u t H1 locs1 ht hvm hw2 hB hz1 hk1 hS1 => ?_)
  obtain ⟨hP1, hK1, hD1⟩ := hB
  rw [ht] at hP1
  exact kk r u hw2 ls H1 locs1 hl hP1 (hD1.weaken (fun k q _ h => hFc q.1 h)) hS1
theorem j_callSN_v (C : jC Ef X l d A cc nL Ts own rm ret) (nA : Nat) {post : va_W → Prop} (hM : jMv Ef d l y wy rmc mc ms As ws post) {host : String} (hG : GoodIn Ts wy) (hlk : Cond.methodLinkNest own idx y host ∈ Ts) (hini : Cond.initialized y.cls ∈ Ts) (hstat : Cond.static y ∈ Ts) (hw : wy = Cond.code y bytes maxL ret' :: w') (hrc : rmc.cells = mc) (hrs : rmc.slots = ms) (hd : y.cls ≠ "java/lang/invoke/MethodHandle" ∧ y.cls ≠ "java/lang/invoke/VarHandle" ∧ (parseMethodDescriptor y.desc).map (fun d => d.parameters.length) = some nA) (hR : rmc.frames + 1 ≤ rm.frames ∧ 8 + (maxL + 11) + rmc.locals ≤ rm.locals) (hroom : cells + mc ≤ rm.cells ∧ slots + ms ≤ rm.slots) (hnA : As.length = nA) (hst : st0 = As.reverse ++ st) (hcat : (st.map fun v => v.category).sum ≤ 8) (hdg : decode cc pc = .ok (.invokestatic idx, 3)) (kk : ∀ (u : va_W), post u → jJ X l d A nL (cells + mc) (slots + ms) u lv (pc + 3) st) : jJ X l d A nL cells slots ws lv pc st0 := by
  obtain ⟨p, e, R, s, m, args, below, meth, c, Q⟩ := X
  intro ls H locs hl hP hD hS
  have hr : R = rm := C.2.2.2.1
  subst hr
  have hPc := hP
  have hDc := hD
  have hFc := jfree C.2.2.1 hDc hS
  refine va_callv (va_runSN (As := As) (rest := st) C.1 (hM H.size) ⟨va_cnB nA C.1.2.2.2.2 hG hw hrc hrs (va_tabs rfl rfl (C.1.2.2.2.2 _ hlk)) (C.1.2.2.2.2 _ hini) hd hR, C.1.2.2.2.2 _ hstat, trivial⟩ ⟨jfb C.2.2.2.2.2.2.2, jpr C.2.2.2.2.2.2.2 (A' := A) (ws := ws) C.2.1 C.2.2.2.2.2.2.1 hPc hDc hS⟩ rfl hnA hl.1 hst (lv_room hcat) hdg hroom) hS (fun q _ h => hFc q h) hFc (fun u t H1 locs1 ht hvm hw2 hB hz1 hk1 hS1 => ?_)
  obtain ⟨hP1, hK1, hD1⟩ := hB
  rw [ht] at hP1
  exact kk u hw2 ls H1 locs1 hl hP1 (hD1.weaken (fun k q _ h => hFc q.1 h)) hS1
theorem j_callSN_q (C : jC Ef X l d A cc nL Ts own rm ret) (nA : Nat) {post : Option Nat → va_W → Prop} (hM : jMq Ef d l y wy rmc mc ms As ws post) {host : String} (hG : GoodIn Ts wy) (hlk : Cond.methodLinkNest own idx y host ∈ Ts) (hini : Cond.initialized y.cls ∈ Ts) (hstat : Cond.static y ∈ Ts) (hw : wy = Cond.code y bytes maxL ret' :: w') (hrc : rmc.cells = mc) (hrs : rmc.slots = ms) (hd : y.cls ≠ "java/lang/invoke/MethodHandle" ∧ y.cls ≠ "java/lang/invoke/VarHandle" ∧ (parseMethodDescriptor y.desc).map (fun d => d.parameters.length) = some nA) (hR : rmc.frames + 1 ≤ rm.frames ∧ 8 + (maxL + 11) + rmc.locals ≤ rm.locals) (hroom : cells + mc ≤ rm.cells ∧ slots + ms ≤ rm.slots) (hnA : As.length = nA) (hst : st0 = As.reverse ++ st) (hcat : (st.map fun v => v.category).sum ≤ 8) (hdg : decode cc pc = .ok (.invokestatic idx, 3)) (kk : ∀ (r : Option Nat) (u : va_W), post r u → jJ X l d A nL (cells + mc) (slots + ms) u lv (pc + 3) (va_rf r :: st)) : jJ X l d A nL cells slots ws lv pc st0 := by
  obtain ⟨p, e, R, s, m, args, below, meth, c, Q⟩ := X
  intro ls H locs hl hP hD hS
  have hr : R = rm := C.2.2.2.1
  subst hr
  have hPc := hP
  have hDc := hD
  have hFc := jfree C.2.2.1 hDc hS
  refine va_callq (va_runSN (As := As) (rest := st) C.1 (hM H.size) ⟨va_cnB nA C.1.2.2.2.2 hG hw hrc hrs (va_tabs rfl rfl (C.1.2.2.2.2 _ hlk)) (C.1.2.2.2.2 _ hini) hd hR, C.1.2.2.2.2 _ hstat, trivial⟩ ⟨jfb C.2.2.2.2.2.2.2, jpr C.2.2.2.2.2.2.2 (A' := A) (ws := ws) C.2.1 C.2.2.2.2.2.2.1 hPc hDc hS⟩ rfl hnA hl.1 hst (lv_room hcat) hdg hroom) hS (fun q _ h => hFc q h) hFc (fun r u t H1 locs1 ht hvm hw2 hB hz1 hk1 hS1 => ?_)
  obtain ⟨hP1, hK1, hD1⟩ := hB
  rw [ht] at hP1
  exact kk r u hw2 ls H1 locs1 hl hP1 (hD1.weaken (fun k q _ h => hFc q.1 h)) hS1
end JCALL
end
section
set_option maxRecDepth 20000 in
theorem ggX10_feed_X10_come : GoodIn wsX10_feed wsX10_come := goodIn_r _ [7, 8, 2, 9, 10, 11, 12, 13, 14, 15, 16, 17, 18, 19, 20, 21, 22, 23, 24, 25, 26, 27, 28, 29, 30, 31, 32, 33, 34, 35, 36, 37, 38, 39, 40, 41, 42, 43, 44, 45] rfl (by decide +kernel)
set_option maxRecDepth 20000 in
theorem gX10_feed_X10_come : GoodIn wsX10_feed (wsV RX10 80 RX10 yX10_come wsX10_come) := goodIn_app (goodIn_of _ (by decide +kernel)) ggX10_feed_X10_come
set_option maxRecDepth 20000 in
theorem ggX10_go_X10_isLetter : GoodIn wsX10_go wsX10_isLetter := goodIn_r _ [14] rfl (by decide +kernel)
set_option maxRecDepth 20000 in
theorem gX10_go_X10_isLetter : GoodIn wsX10_go (va_wsS RX10 96 yX10_isLetter wsX10_isLetter) := goodIn_app (goodIn_of _ (by decide +kernel)) ggX10_go_X10_isLetter
set_option maxRecDepth 20000 in
theorem ggX10_go_X10_isDigit : GoodIn wsX10_go wsX10_isDigit := goodIn_r _ [17] rfl (by decide +kernel)
set_option maxRecDepth 20000 in
theorem gX10_go_X10_isDigit : GoodIn wsX10_go (va_wsS RX10 100 yX10_isDigit wsX10_isDigit) := goodIn_app (goodIn_of _ (by decide +kernel)) ggX10_go_X10_isDigit
set_option maxRecDepth 20000 in
theorem ggX10_go_X10_byteAt : GoodIn wsX10_go wsX10_byteAt := goodIn_r _ [21, 2, 3, 22, 23, 24, 25, 26, 27, 28, 29, 30, 31, 32, 33, 34, 35, 36, 37, 38, 39, 40, 41, 42, 43, 44, 45, 46, 47, 48, 49, 50, 51, 52, 53, 54, 55, 56, 57, 58] rfl (by decide +kernel)
set_option maxRecDepth 20000 in
theorem gX10_go_X10_byteAt : GoodIn wsX10_go (wsV RX10 110 RX10 yX10_byteAt wsX10_byteAt) := goodIn_app (goodIn_of _ (by decide +kernel)) ggX10_go_X10_byteAt
set_option maxRecDepth 20000 in
theorem ggX10_ruleAtHand_X10_spelt : GoodIn wsX10_ruleAtHand wsX10_spelt := goodIn_r _ [11, 1, 12] rfl (by decide +kernel)
set_option maxRecDepth 20000 in
theorem gX10_ruleAtHand_X10_spelt : GoodIn wsX10_ruleAtHand (va_wsS RX10 122 yX10_spelt wsX10_spelt) := goodIn_app (goodIn_of _ (by decide +kernel)) ggX10_ruleAtHand_X10_spelt
set_option maxRecDepth 20000 in
theorem ggX10_ruleAtHand_X10_isKey : GoodIn wsX10_ruleAtHand wsX10_isKey := goodIn_r _ [16, 17, 18, 19, 20, 21, 22, 23, 24, 25, 26, 27, 28, 29, 30, 31, 32, 33, 34, 35, 36, 37, 38, 39, 40, 41, 42, 43, 44, 45, 46, 47, 48, 49, 50, 51, 52, 53, 54, 55] rfl (by decide +kernel)
set_option maxRecDepth 20000 in
theorem gX10_ruleAtHand_X10_isKey : GoodIn wsX10_ruleAtHand (wsV RX10 128 RX10 yX10_isKey wsX10_isKey) := goodIn_app (goodIn_of _ (by decide +kernel)) ggX10_ruleAtHand_X10_isKey
set_option maxRecDepth 20000 in
theorem ggX10_readRule_X10_ruleAtHand : GoodIn wsX10_readRule wsX10_ruleAtHand := goodIn_r _ [11, 12, 13, 14, 15, 16, 17, 18, 19, 20, 10, 21, 22, 23, 24, 25, 26, 2, 27, 53, 54, 55, 56, 57, 58, 59, 60, 61, 62, 63, 64, 65, 66, 67, 68, 69, 70, 71, 72, 73, 74, 75, 76, 77, 78, 79, 80, 81, 82, 83, 84, 85, 86, 87, 88, 89] rfl (by decide +kernel)
set_option maxRecDepth 20000 in
theorem gX10_readRule_X10_ruleAtHand : GoodIn wsX10_readRule (wsV RX10 146 RX10 yX10_ruleAtHand wsX10_ruleAtHand) := goodIn_app (goodIn_of _ (by decide +kernel)) ggX10_readRule_X10_ruleAtHand
set_option maxRecDepth 20000 in
theorem ggX10_readRule_X10_bad : GoodIn wsX10_readRule wsX10_bad := goodIn_r _ [31, 2, 32, 33, 34, 53, 54, 55, 56, 57, 58, 59, 60, 61, 62, 63, 64, 65, 66, 67, 68, 69, 70, 71, 72, 73, 74, 75, 76, 77, 78, 79, 80, 81, 82, 83, 84, 85, 86, 87, 88, 89] rfl (by decide +kernel)
set_option maxRecDepth 20000 in
theorem gX10_readRule_X10_bad : GoodIn wsX10_readRule (wsV RX10 150 RX10 yX10_bad wsX10_bad) := goodIn_app (goodIn_of _ (by decide +kernel)) ggX10_readRule_X10_bad
set_option maxRecDepth 20000 in
theorem ggX10_readRule_X10_go : GoodIn wsX10_readRule wsX10_go := goodIn_r _ [38, 39, 40, 41, 33, 2, 27, 3, 12, 22, 42, 43, 44, 10, 45, 46, 47, 48, 49, 50, 51, 52, 53, 54, 55, 56, 57, 58, 59, 60, 61, 62, 63, 64, 65, 66, 67, 68, 69, 70, 71, 72, 73, 74, 75, 76, 77, 78, 79, 80, 81, 82, 83, 84, 85, 86, 87, 88, 89] rfl (by decide +kernel)
set_option maxRecDepth 20000 in
theorem gX10_readRule_X10_go : GoodIn wsX10_readRule (wsV RX10 156 RX10 yX10_go wsX10_go) := goodIn_app (goodIn_of _ (by decide +kernel)) ggX10_readRule_X10_go
set_option maxRecDepth 20000 in
theorem ggX10_rules_X10_go : GoodIn wsX10_rules wsX10_go := goodIn_r _ [16, 8, 3, 17, 18, 9, 19, 20, 21, 22, 23, 24, 25, 15, 26, 27, 28, 29, 30, 31, 32, 33, 61, 62, 63, 64, 65, 66, 67, 68, 69, 70, 71, 72, 73, 74, 75, 76, 77, 78, 79, 80, 81, 82, 83, 84, 85, 86, 87, 88, 89, 90, 91, 92, 93, 94, 95, 96, 97] rfl (by decide +kernel)
set_option maxRecDepth 20000 in
theorem gX10_rules_X10_go : GoodIn wsX10_rules (wsV RX10 156 RX10 yX10_go wsX10_go) := goodIn_app (goodIn_of _ (by decide +kernel)) ggX10_rules_X10_go
set_option maxRecDepth 20000 in
theorem ggX10_rules_X10_readRule : GoodIn wsX10_rules wsX10_readRule := goodIn_r _ [37, 5, 9, 20, 38, 39, 6, 40, 41, 42, 15, 43, 21, 44, 45, 46, 47, 48, 49, 50, 51, 52, 22, 53, 54, 55, 56, 19, 57, 58, 59, 60, 4, 18, 10, 12, 13, 14, 16, 8, 3, 17, 23, 24, 25, 26, 27, 28, 29, 30, 31, 32, 33, 61, 62, 63, 64, 65, 66, 67, 68, 69, 70, 71, 72, 73, 74, 75, 76, 77, 78, 79, 80, 81, 82, 83, 84, 85, 86, 87, 88, 89, 90, 91, 92, 93, 94, 95, 96, 97] rfl (by decide +kernel)
set_option maxRecDepth 20000 in
theorem gX10_rules_X10_readRule : GoodIn wsX10_rules (wsV RX10 159 RX10 yX10_readRule wsX10_readRule) := goodIn_app (goodIn_of _ (by decide +kernel)) ggX10_rules_X10_readRule
set_option maxRecDepth 20000 in
theorem ggX10_isBidder_X10_isPerson : GoodIn wsX10_isBidder wsX10_isPerson := goodIn_r _ [5, 6, 12, 13, 14, 15, 16, 17, 18, 19, 20, 21, 22, 23, 24, 25, 26, 27, 28, 29, 30, 31, 32, 33, 34, 35, 36, 37, 38, 39, 40, 41, 42, 43, 44, 45, 46, 47, 48] rfl (by decide +kernel)
set_option maxRecDepth 20000 in
theorem gX10_isBidder_X10_isPerson : GoodIn wsX10_isBidder (wsV RX10 172 RX10 yX10_isPerson wsX10_isPerson) := goodIn_app (goodIn_of _ (by decide +kernel)) ggX10_isBidder_X10_isPerson
set_option maxRecDepth 20000 in
theorem ggX10_isBidder_X10_isFund : GoodIn wsX10_isBidder wsX10_isFund := goodIn_r _ [10, 11, 12, 13, 14, 15, 16, 17, 18, 19, 20, 21, 22, 23, 24, 25, 26, 27, 28, 29, 30, 31, 32, 33, 34, 35, 36, 37, 38, 39, 40, 41, 42, 43, 44, 45, 46, 47, 48] rfl (by decide +kernel)
set_option maxRecDepth 20000 in
theorem gX10_isBidder_X10_isFund : GoodIn wsX10_isBidder (wsV RX10 175 RX10 yX10_isFund wsX10_isFund) := goodIn_app (goodIn_of _ (by decide +kernel)) ggX10_isBidder_X10_isFund
set_option maxRecDepth 20000 in
theorem ggX10_work_X10_isIn : GoodIn wsX10_work wsX10_isIn := goodIn_r _ [12] rfl (by decide +kernel)
set_option maxRecDepth 20000 in
theorem gX10_work_X10_isIn : GoodIn wsX10_work (va_wsS RX10 178 yX10_isIn wsX10_isIn) := goodIn_app (goodIn_of _ (by decide +kernel)) ggX10_work_X10_isIn
set_option maxRecDepth 20000 in
theorem ggX10_person_X10_isWork : GoodIn wsX10_person wsX10_isWork := goodIn_r _ [9, 10, 11, 12, 13, 14, 15, 16, 17, 18, 19, 20, 21, 22, 23, 24, 25, 26, 27, 28, 29, 30, 31, 32, 33, 34, 35, 36, 37, 38, 39, 40, 41, 42, 43, 44, 45, 46, 47] rfl (by decide +kernel)
set_option maxRecDepth 20000 in
theorem gX10_person_X10_isWork : GoodIn wsX10_person (wsV RX10 185 RX10 yX10_isWork wsX10_isWork) := goodIn_app (goodIn_of _ (by decide +kernel)) ggX10_person_X10_isWork
set_option maxRecDepth 20000 in
theorem ggX10_fund_X10_isIn : GoodIn wsX10_fund wsX10_isIn := goodIn_r _ [7] rfl (by decide +kernel)
set_option maxRecDepth 20000 in
theorem gX10_fund_X10_isIn : GoodIn wsX10_fund (va_wsS RX10 178 yX10_isIn wsX10_isIn) := goodIn_app (goodIn_of _ (by decide +kernel)) ggX10_fund_X10_isIn
set_option maxRecDepth 20000 in
theorem ggX10_give_X10_isPerson : GoodIn wsX10_give wsX10_isPerson := goodIn_r _ [10, 11, 24, 25, 26, 27, 28, 29, 30, 31, 32, 33, 34, 35, 36, 37, 38, 39, 40, 41, 42, 43, 44, 45, 46, 47, 48, 49, 50, 51, 52, 53, 54, 55, 56, 57, 58, 59, 60] rfl (by decide +kernel)
set_option maxRecDepth 20000 in
theorem gX10_give_X10_isPerson : GoodIn wsX10_give (wsV RX10 172 RX10 yX10_isPerson wsX10_isPerson) := goodIn_app (goodIn_of _ (by decide +kernel)) ggX10_give_X10_isPerson
set_option maxRecDepth 20000 in
theorem ggX10_give_X10_isFund : GoodIn wsX10_give wsX10_isFund := goodIn_r _ [15, 16, 24, 25, 26, 27, 28, 29, 30, 31, 32, 33, 34, 35, 36, 37, 38, 39, 40, 41, 42, 43, 44, 45, 46, 47, 48, 49, 50, 51, 52, 53, 54, 55, 56, 57, 58, 59, 60] rfl (by decide +kernel)
set_option maxRecDepth 20000 in
theorem gX10_give_X10_isFund : GoodIn wsX10_give (wsV RX10 175 RX10 yX10_isFund wsX10_isFund) := goodIn_app (goodIn_of _ (by decide +kernel)) ggX10_give_X10_isFund
set_option maxRecDepth 20000 in
theorem ggX10_give_X10_costs : GoodIn wsX10_give wsX10_costs := goodIn_r _ [20, 21, 22, 23, 24, 25, 26, 27, 28, 29, 30, 31, 32, 33, 34, 35, 36, 37, 38, 39, 40, 41, 42, 43, 44, 45, 46, 47, 48, 49, 50, 51, 52, 53, 54, 55, 56, 57, 58, 59, 60] rfl (by decide +kernel)
set_option maxRecDepth 20000 in
theorem gX10_give_X10_costs : GoodIn wsX10_give (wsV RX10 188 RX10 yX10_costs wsX10_costs) := goodIn_app (goodIn_of _ (by decide +kernel)) ggX10_give_X10_costs
set_option maxRecDepth 20000 in
theorem ggX10_bid_X10_isBidder : GoodIn wsX10_bid wsX10_isBidder := goodIn_r _ [9, 10, 11, 12, 8, 13, 14, 15, 16, 17, 18, 19, 32, 33, 34, 35, 36, 37, 38, 39, 40, 41, 42, 43, 44, 45, 46, 47, 48, 49, 50, 51, 52, 53, 54, 55, 56, 57, 58, 59, 60, 61, 62, 63, 64, 65, 66, 67, 68] rfl (by decide +kernel)
set_option maxRecDepth 20000 in
theorem gX10_bid_X10_isBidder : GoodIn wsX10_bid (wsV RX10 191 RX10 yX10_isBidder wsX10_isBidder) := goodIn_app (goodIn_of _ (by decide +kernel)) ggX10_bid_X10_isBidder
set_option maxRecDepth 20000 in
theorem ggX10_bid_X10_isWork : GoodIn wsX10_bid wsX10_isWork := goodIn_r _ [23, 24, 32, 33, 34, 35, 36, 37, 38, 39, 40, 41, 42, 43, 44, 45, 46, 47, 48, 49, 50, 51, 52, 53, 54, 55, 56, 57, 58, 59, 60, 61, 62, 63, 64, 65, 66, 67, 68] rfl (by decide +kernel)
set_option maxRecDepth 20000 in
theorem gX10_bid_X10_isWork : GoodIn wsX10_bid (wsV RX10 185 RX10 yX10_isWork wsX10_isWork) := goodIn_app (goodIn_of _ (by decide +kernel)) ggX10_bid_X10_isWork
set_option maxRecDepth 20000 in
theorem ggX10_bid_X10_isIn : GoodIn wsX10_bid wsX10_isIn := goodIn_r _ [27] rfl (by decide +kernel)
set_option maxRecDepth 20000 in
theorem gX10_bid_X10_isIn : GoodIn wsX10_bid (va_wsS RX10 178 yX10_isIn wsX10_isIn) := goodIn_app (goodIn_of _ (by decide +kernel)) ggX10_bid_X10_isIn
set_option maxRecDepth 20000 in
theorem ggX10_bid_X10_costs : GoodIn wsX10_bid wsX10_costs := goodIn_r _ [31, 24, 2, 3, 32, 33, 34, 35, 36, 37, 38, 39, 40, 41, 42, 43, 44, 45, 46, 47, 48, 49, 50, 51, 52, 53, 54, 55, 56, 57, 58, 59, 60, 61, 62, 63, 64, 65, 66, 67, 68] rfl (by decide +kernel)
set_option maxRecDepth 20000 in
theorem gX10_bid_X10_costs : GoodIn wsX10_bid (wsV RX10 188 RX10 yX10_costs wsX10_costs) := goodIn_app (goodIn_of _ (by decide +kernel)) ggX10_bid_X10_costs
set_option maxRecDepth 20000 in
theorem ggX10_sellsWork_X10_part : GoodIn wsX10_sellsWork wsX10_part := goodIn_r _ [14, 2, 15, 22, 23, 24, 25, 26, 27, 28, 29, 30, 31, 32, 33, 34, 35, 36, 37, 38, 39, 40, 41, 42, 43, 44, 45, 46, 47, 48, 49, 50, 51, 52, 53, 54, 55, 56, 57, 58] rfl (by decide +kernel)
set_option maxRecDepth 20000 in
theorem gX10_sellsWork_X10_part : GoodIn wsX10_sellsWork (wsV RX10 194 RX10 yX10_part wsX10_part) := goodIn_app (goodIn_of _ (by decide +kernel)) ggX10_sellsWork_X10_part
set_option maxRecDepth 20000 in
theorem ggX10_sellsWork_X10_sells : GoodIn wsX10_sellsWork wsX10_sells := goodIn_r _ [19, 20, 15, 5, 21, 9, 22, 23, 24, 25, 26, 27, 28, 29, 30, 31, 32, 33, 34, 35, 36, 37, 38, 39, 40, 41, 42, 43, 44, 45, 46, 47, 48, 49, 50, 51, 52, 53, 54, 55, 56, 57, 58] rfl (by decide +kernel)
set_option maxRecDepth 20000 in
theorem gX10_sellsWork_X10_sells : GoodIn wsX10_sellsWork (wsV RX10 197 RX10 yX10_sells wsX10_sells) := goodIn_app (goodIn_of _ (by decide +kernel)) ggX10_sellsWork_X10_sells
set_option maxRecDepth 20000 in
theorem ggX10_close_X10_sellsWork : GoodIn wsX10_close wsX10_sellsWork := goodIn_r _ [15, 2, 16, 17, 18, 7, 19, 20, 9, 6, 21, 22, 23, 14, 24, 25, 26, 27, 28, 29, 4, 30, 31, 32, 33, 34, 35, 36, 37, 38, 39, 40, 41, 42, 43, 44, 45, 46, 47, 48, 49, 50, 51, 52, 53, 54, 55, 56, 57, 58, 59, 60, 61, 62, 63, 64, 65, 66, 67] rfl (by decide +kernel)
set_option maxRecDepth 20000 in
theorem gX10_close_X10_sellsWork : GoodIn wsX10_close (wsV RX10 201 RX10 yX10_sellsWork wsX10_sellsWork) := goodIn_app (goodIn_of _ (by decide +kernel)) ggX10_close_X10_sellsWork
set_option maxRecDepth 20000 in
theorem ggX10_about_X10_isWork : GoodIn wsX10_about wsX10_isWork := goodIn_r _ [10, 11, 12, 13, 14, 15, 16, 17, 18, 19, 20, 21, 22, 23, 24, 25, 26, 27, 28, 29, 30, 31, 32, 33, 34, 35, 36, 37, 38, 39, 40, 41, 42, 43, 44, 45, 46, 47, 48] rfl (by decide +kernel)
set_option maxRecDepth 20000 in
theorem gX10_about_X10_isWork : GoodIn wsX10_about (wsV RX10 185 RX10 yX10_isWork wsX10_isWork) := goodIn_app (goodIn_of _ (by decide +kernel)) ggX10_about_X10_isWork
set_option maxRecDepth 20000 in
theorem ggX10_price_X10_isWork : GoodIn wsX10_price wsX10_isWork := goodIn_r _ [9, 10, 11, 12, 13, 14, 15, 16, 17, 18, 19, 20, 21, 22, 23, 24, 25, 26, 27, 28, 29, 30, 31, 32, 33, 34, 35, 36, 37, 38, 39, 40, 41, 42, 43, 44, 45, 46, 47] rfl (by decide +kernel)
set_option maxRecDepth 20000 in
theorem gX10_price_X10_isWork : GoodIn wsX10_price (wsV RX10 185 RX10 yX10_isWork wsX10_isWork) := goodIn_app (goodIn_of _ (by decide +kernel)) ggX10_price_X10_isWork
set_option maxRecDepth 20000 in
theorem ggX10_purse_X10_isBidder : GoodIn wsX10_purse wsX10_isBidder := goodIn_r _ [10, 11, 12, 13, 9, 14, 15, 16, 17, 18, 19, 20, 37, 38, 39, 40, 41, 42, 43, 44, 45, 46, 47, 48, 49, 50, 51, 52, 53, 54, 55, 56, 57, 58, 59, 60, 61, 62, 63, 64, 65, 66, 67, 68, 69, 70, 71, 72, 73] rfl (by decide +kernel)
set_option maxRecDepth 20000 in
theorem gX10_purse_X10_isBidder : GoodIn wsX10_purse (wsV RX10 191 RX10 yX10_isBidder wsX10_isBidder) := goodIn_app (goodIn_of _ (by decide +kernel)) ggX10_purse_X10_isBidder
set_option maxRecDepth 20000 in
theorem ggX10_purse_X10_refuse : GoodIn wsX10_purse wsX10_refuse := goodIn_r _ [24, 1, 37, 38, 39, 40, 41, 42, 43, 44, 45, 46, 47, 48, 49, 50, 51, 52, 53, 54, 55, 56, 57, 58, 59, 60, 61, 62, 63, 64, 65, 66, 67, 68, 69, 70, 71, 72, 73] rfl (by decide +kernel)
set_option maxRecDepth 20000 in
theorem gX10_purse_X10_refuse : GoodIn wsX10_purse (wsV RX10 209 RX10 yX10_refuse wsX10_refuse) := goodIn_app (goodIn_of _ (by decide +kernel)) ggX10_purse_X10_refuse
set_option maxRecDepth 20000 in
theorem ggX10_purse_X10_costs : GoodIn wsX10_purse wsX10_costs := goodIn_r _ [28, 2, 29, 30, 37, 38, 39, 40, 41, 42, 43, 44, 45, 46, 47, 48, 49, 50, 51, 52, 53, 54, 55, 56, 57, 58, 59, 60, 61, 62, 63, 64, 65, 66, 67, 68, 69, 70, 71, 72, 73] rfl (by decide +kernel)
set_option maxRecDepth 20000 in
theorem gX10_purse_X10_costs : GoodIn wsX10_purse (wsV RX10 188 RX10 yX10_costs wsX10_costs) := goodIn_app (goodIn_of _ (by decide +kernel)) ggX10_purse_X10_costs
set_option maxRecDepth 20000 in
theorem ggX10_purse_X10_isFund : GoodIn wsX10_purse wsX10_isFund := goodIn_r _ [19, 20, 37, 38, 39, 40, 41, 42, 43, 44, 45, 46, 47, 48, 49, 50, 51, 52, 53, 54, 55, 56, 57, 58, 59, 60, 61, 62, 63, 64, 65, 66, 67, 68, 69, 70, 71, 72, 73] rfl (by decide +kernel)
set_option maxRecDepth 20000 in
theorem gX10_purse_X10_isFund : GoodIn wsX10_purse (wsV RX10 175 RX10 yX10_isFund wsX10_isFund) := goodIn_app (goodIn_of _ (by decide +kernel)) ggX10_purse_X10_isFund
set_option maxRecDepth 20000 in
theorem ggX10_purse_X10_isKept : GoodIn wsX10_purse wsX10_isKept := goodIn_r _ [34, 4, 2, 3, 30, 35, 36, 5, 37, 38, 39, 40, 41, 42, 43, 44, 45, 46, 47, 48, 49, 50, 51, 52, 53, 54, 55, 56, 57, 58, 59, 60, 61, 62, 63, 64, 65, 66, 67, 68, 69, 70, 71, 72, 73] rfl (by decide +kernel)
set_option maxRecDepth 20000 in
theorem gX10_purse_X10_isKept : GoodIn wsX10_purse (wsV RX10 212 RX10 yX10_isKept wsX10_isKept) := goodIn_app (goodIn_of _ (by decide +kernel)) ggX10_purse_X10_isKept
set_option maxRecDepth 20000 in
theorem ggX10_holds_X10_isBidder : GoodIn wsX10_holds wsX10_isBidder := goodIn_r _ [6, 7, 8, 9, 5, 10, 11, 12, 13, 14, 15, 16, 33, 34, 35, 36, 37, 38, 39, 40, 41, 42, 43, 44, 45, 46, 47, 48, 49, 50, 51, 52, 53, 54, 55, 56, 57, 58, 59, 60, 61, 62, 63, 64, 65, 66, 67, 68, 69] rfl (by decide +kernel)
set_option maxRecDepth 20000 in
theorem gX10_holds_X10_isBidder : GoodIn wsX10_holds (wsV RX10 191 RX10 yX10_isBidder wsX10_isBidder) := goodIn_app (goodIn_of _ (by decide +kernel)) ggX10_holds_X10_isBidder
set_option maxRecDepth 20000 in
theorem ggX10_holds_X10_isWork : GoodIn wsX10_holds wsX10_isWork := goodIn_r _ [20, 21, 33, 34, 35, 36, 37, 38, 39, 40, 41, 42, 43, 44, 45, 46, 47, 48, 49, 50, 51, 52, 53, 54, 55, 56, 57, 58, 59, 60, 61, 62, 63, 64, 65, 66, 67, 68, 69] rfl (by decide +kernel)
set_option maxRecDepth 20000 in
theorem gX10_holds_X10_isWork : GoodIn wsX10_holds (wsV RX10 185 RX10 yX10_isWork wsX10_isWork) := goodIn_app (goodIn_of _ (by decide +kernel)) ggX10_holds_X10_isWork
set_option maxRecDepth 20000 in
theorem ggX10_holds_X10_isRound : GoodIn wsX10_holds wsX10_isRound := goodIn_r _ [25, 26, 33, 34, 35, 36, 37, 38, 39, 40, 41, 42, 43, 44, 45, 46, 47, 48, 49, 50, 51, 52, 53, 54, 55, 56, 57, 58, 59, 60, 61, 62, 63, 64, 65, 66, 67, 68, 69] rfl (by decide +kernel)
set_option maxRecDepth 20000 in
theorem gX10_holds_X10_isRound : GoodIn wsX10_holds (wsV RX10 215 RX10 yX10_isRound wsX10_isRound) := goodIn_app (goodIn_of _ (by decide +kernel)) ggX10_holds_X10_isRound
set_option maxRecDepth 20000 in
theorem ggX10_holds_X10_heldAsOf : GoodIn wsX10_holds wsX10_heldAsOf := goodIn_r _ [30, 26, 31, 32, 33, 34, 35, 36, 37, 38, 39, 40, 41, 42, 43, 44, 45, 46, 47, 48, 49, 50, 51, 52, 53, 54, 55, 56, 57, 58, 59, 60, 61, 62, 63, 64, 65, 66, 67, 68, 69] rfl (by decide +kernel)
set_option maxRecDepth 20000 in
theorem gX10_holds_X10_heldAsOf : GoodIn wsX10_holds (wsV RX10 218 RX10 yX10_heldAsOf wsX10_heldAsOf) := goodIn_app (goodIn_of _ (by decide +kernel)) ggX10_holds_X10_heldAsOf
set_option maxRecDepth 20000 in
theorem ggX10_asks_X10_isBidder : GoodIn wsX10_asks wsX10_isBidder := goodIn_r _ [7, 8, 9, 10, 6, 11, 12, 13, 14, 15, 16, 17, 23, 24, 25, 26, 27, 28, 29, 30, 31, 32, 33, 34, 35, 36, 37, 38, 39, 40, 41, 42, 43, 44, 45, 46, 47, 48, 49, 50, 51, 52, 53, 54, 55, 56, 57, 58, 59] rfl (by decide +kernel)
set_option maxRecDepth 20000 in
theorem gX10_asks_X10_isBidder : GoodIn wsX10_asks (wsV RX10 191 RX10 yX10_isBidder wsX10_isBidder) := goodIn_app (goodIn_of _ (by decide +kernel)) ggX10_asks_X10_isBidder
set_option maxRecDepth 20000 in
theorem ggX10_asks_X10_isWork : GoodIn wsX10_asks wsX10_isWork := goodIn_r _ [21, 22, 23, 24, 25, 26, 27, 28, 29, 30, 31, 32, 33, 34, 35, 36, 37, 38, 39, 40, 41, 42, 43, 44, 45, 46, 47, 48, 49, 50, 51, 52, 53, 54, 55, 56, 57, 58, 59] rfl (by decide +kernel)
set_option maxRecDepth 20000 in
theorem gX10_asks_X10_isWork : GoodIn wsX10_asks (wsV RX10 185 RX10 yX10_isWork wsX10_isWork) := goodIn_app (goodIn_of _ (by decide +kernel)) ggX10_asks_X10_isWork
set_option maxRecDepth 20000 in
theorem ggX10_owned_X10_isPerson : GoodIn wsX10_owned wsX10_isPerson := goodIn_r _ [10, 11, 35, 36, 37, 38, 39, 40, 41, 42, 43, 44, 45, 46, 47, 48, 49, 50, 51, 52, 53, 54, 55, 56, 57, 58, 59, 60, 61, 62, 63, 64, 65, 66, 67, 68, 69, 70, 71] rfl (by decide +kernel)
set_option maxRecDepth 20000 in
theorem gX10_owned_X10_isPerson : GoodIn wsX10_owned (wsV RX10 172 RX10 yX10_isPerson wsX10_isPerson) := goodIn_app (goodIn_of _ (by decide +kernel)) ggX10_owned_X10_isPerson
set_option maxRecDepth 20000 in
theorem ggX10_owned_X10_isWork : GoodIn wsX10_owned wsX10_isWork := goodIn_r _ [15, 16, 35, 36, 37, 38, 39, 40, 41, 42, 43, 44, 45, 46, 47, 48, 49, 50, 51, 52, 53, 54, 55, 56, 57, 58, 59, 60, 61, 62, 63, 64, 65, 66, 67, 68, 69, 70, 71] rfl (by decide +kernel)
set_option maxRecDepth 20000 in
theorem gX10_owned_X10_isWork : GoodIn wsX10_owned (wsV RX10 185 RX10 yX10_isWork wsX10_isWork) := goodIn_app (goodIn_of _ (by decide +kernel)) ggX10_owned_X10_isWork
set_option maxRecDepth 20000 in
theorem ggX10_owned_X10_isRound : GoodIn wsX10_owned wsX10_isRound := goodIn_r _ [20, 21, 35, 36, 37, 38, 39, 40, 41, 42, 43, 44, 45, 46, 47, 48, 49, 50, 51, 52, 53, 54, 55, 56, 57, 58, 59, 60, 61, 62, 63, 64, 65, 66, 67, 68, 69, 70, 71] rfl (by decide +kernel)
set_option maxRecDepth 20000 in
theorem gX10_owned_X10_isRound : GoodIn wsX10_owned (wsV RX10 215 RX10 yX10_isRound wsX10_isRound) := goodIn_app (goodIn_of _ (by decide +kernel)) ggX10_owned_X10_isRound
set_option maxRecDepth 20000 in
theorem ggX10_owned_X10_refuse : GoodIn wsX10_owned wsX10_refuse := goodIn_r _ [25, 1, 35, 36, 37, 38, 39, 40, 41, 42, 43, 44, 45, 46, 47, 48, 49, 50, 51, 52, 53, 54, 55, 56, 57, 58, 59, 60, 61, 62, 63, 64, 65, 66, 67, 68, 69, 70, 71] rfl (by decide +kernel)
set_option maxRecDepth 20000 in
theorem gX10_owned_X10_refuse : GoodIn wsX10_owned (wsV RX10 209 RX10 yX10_refuse wsX10_refuse) := goodIn_app (goodIn_of _ (by decide +kernel)) ggX10_owned_X10_refuse
set_option maxRecDepth 20000 in
theorem ggX10_owned_X10_heldAsOf : GoodIn wsX10_owned wsX10_heldAsOf := goodIn_r _ [29, 21, 30, 31, 35, 36, 37, 38, 39, 40, 41, 42, 43, 44, 45, 46, 47, 48, 49, 50, 51, 52, 53, 54, 55, 56, 57, 58, 59, 60, 61, 62, 63, 64, 65, 66, 67, 68, 69, 70, 71] rfl (by decide +kernel)
set_option maxRecDepth 20000 in
theorem gX10_owned_X10_heldAsOf : GoodIn wsX10_owned (wsV RX10 218 RX10 yX10_heldAsOf wsX10_heldAsOf) := goodIn_app (goodIn_of _ (by decide +kernel)) ggX10_owned_X10_heldAsOf
set_option maxRecDepth 20000 in
theorem ggX10_owned_X10_common : GoodIn wsX10_owned wsX10_common := goodIn_r _ [34] rfl (by decide +kernel)
set_option maxRecDepth 20000 in
theorem gX10_owned_X10_common : GoodIn wsX10_owned (va_wsS RX10 222 yX10_common wsX10_common) := goodIn_app (goodIn_of _ (by decide +kernel)) ggX10_owned_X10_common
end
section
/-! THE REFERENCE'S WORLD: m k j is field k's number (j = 0), or place j of the row that field k holds; w the long field; o the object's address, q k the row's -/
def noE : jE := fun _ _ _ => True
theorem noE_k : jKp noE := fun _ _ _ _ _ _ _ _ _ _ _ => trivial
def mu (m : Nat → Nat → Int32) (k j : Nat) (v : Int32) : Nat → Nat → Int32 := fun a => if a = k then upd (m k) j v else m a
theorem mu_s (m : Nat → Nat → Int32) (k j : Nat) (v : Int32) : mu m k j v k j = v := by simp [mu, upd]
theorem mu_r (m : Nat → Nat → Int32) {k j a : Nat} (v : Int32) (h : a ≠ k) : mu m k j v a = m a := by simp [mu, h]
theorem mu_n (m : Nat → Nat → Int32) {k j a b : Nat} (v : Int32) (h : a ≠ k ∨ b ≠ j) : mu m k j v a b = m a b := by
  by_cases hk : a = k
  · subst hk
    rcases h with h | h
    · exact absurd rfl h
    · simp [mu, upd, h]
  · simp [mu, hk]
theorem mu_at (m : Nat → Nat → Int32) (k j : Nat) (v : Int32) (a b : Nat) : mu m k j v a b = if a = k ∧ b = j then v else m a b := by
  by_cases hk : a = k
  · subst hk
    by_cases hj : b = j <;> simp [mu, upd, hj]
  · simp [mu, hk]
def mF (q : Nat → Nat) (m : Nat → Nat → Int32) (w : Int64) : List Value := [.int (m 0 0), .ref (q 1), .int (m 2 0), .ref (q 3), .ref (q 4), .ref (q 5), .ref (q 6), .ref (q 7), .int (m 8 0), .int (m 9 0), .int (m 10 0), .int (m 11 0), .int (m 12 0), .int (m 13 0), .int (m 14 0), .int (m 15 0), .long w, .ref (q 17), .ref (q 18), .ref (q 19), .ref (q 20), .ref (q 21), .ref (q 22), .ref (q 23), .ref (q 24), .ref (q 25), .ref (q 26), .ref (q 27), .ref (q 28), .ref (q 29), .int (m 30 0), .int (m 31 0), .int (m 32 0), .int (m 33 0), .int (m 34 0), .ref (q 35), .ref (q 36)]
def mW (o : Nat) (q : Nat → Nat) (d : jD) (m : Nat → Nat → Int32) (w : Int64) : va_W := (o, .inr (8, mF q m w)) :: [(q 1, .inl (d.2 1, 140, .inl (m 1))), (q 3, .inl (d.2 1, 6, .inl (m 3))), (q 4, .inl (d.2 1, 6, .inl (m 4))), (q 5, .inl (d.2 1, 6, .inl (m 5))), (q 6, .inl (d.2 1, 6, .inl (m 6))), (q 7, .inl (d.2 1, 6, .inl (m 7))), (q 17, .inl (d.2 1, 10, .inl (m 17))), (q 18, .inl (d.2 1, 10, .inl (m 18))), (q 19, .inl (d.2 1, 10, .inl (m 19))), (q 20, .inl (d.2 1, 500, .inl (m 20))), (q 21, .inl (d.2 1, 10, .inl (m 21))), (q 22, .inl (d.2 1, 28, .inl (m 22))), (q 23, .inl (d.2 1, 24, .inl (m 23))), (q 24, .inl (d.2 1, 4, .inl (m 24))), (q 25, .inl (d.2 1, 4, .inl (m 25))), (q 26, .inl (d.2 1, 96, .inl (m 26))), (q 27, .inl (d.2 1, 280, .inl (m 27))), (q 28, .inl (d.2 1, 280, .inl (m 28))), (q 29, .inl (d.2 1, 14000, .inl (m 29))), (q 35, .inl (d.2 1, 28, .inl (m 35))), (q 36, .inl (d.2 1, 28, .inl (m 36)))]
section MROWS
variable {Ef : jE} {X : jX} {l : Launch} {d : jD} {A : Nat → Prop} {cc : ByteArray} {nL cells slots : Nat} {Ts : List Cond} {rm : Room} {ret : Option FieldType} {lv : List (Nat × Value)} {pc : Nat} {st : List Value} {o : Nat} {q : Nat → Nat} {m : Nat → Nat → Int32} {w : Int64}
theorem mg_thrown (C : jC Ef X l d A cc nL Ts RX10 rm ret) (hin : ∀ w ∈ u_ws RX10 TX10 37, w ∈ Ts) (hlink : Cond.fieldLink RX10 73 RX10 "thrown" "I" ∈ Ts) (hdg : decode cc pc = .ok (.getfield 73, 3)) (kk : jJ X l d A nL cells slots (mW o q d m w) lv (pc + 3) (.int (m 0 0) :: st)) : jJ X l d A nL cells slots (mW o q d m w) lv pc (.ref o :: st) := j_get C hin 0 0 rfl rfl (by decide) hlink rfl hdg kk
theorem mp_thrown (C : jC Ef X l d A cc nL Ts RX10 rm ret) (hin : ∀ w ∈ u_ws RX10 TX10 37, w ∈ Ts) (hlink : Cond.fieldLink RX10 73 RX10 "thrown" "I" ∈ Ts) {v : Int32} (hdg : decode cc pc = .ok (.putfield 73, 3)) (kk : jJ X l d A nL cells slots (mW o q d (mu m 0 0 v) w) lv (pc + 3) st) : jJ X l d A nL cells slots (mW o q d m w) lv pc (.int v :: .ref o :: st) := j_put C hin tyX10_ok nmX10 0 0 rfl rfl (by decide) hlink rfl (ty := .int) rfl rfl rfl (by decide : 0 < 37) (ws2 := mW o q d (mu m 0 0 v) w) rfl hdg kk
theorem mg_tape (C : jC Ef X l d A cc nL Ts RX10 rm ret) (hin : ∀ w ∈ u_ws RX10 TX10 37, w ∈ Ts) (hlink : Cond.fieldLink RX10 7 RX10 "tape" "[I" ∈ Ts) (hdg : decode cc pc = .ok (.getfield 7, 3)) (kk : jJ X l d A nL cells slots (mW o q d m w) lv (pc + 3) (.ref (q 1) :: st)) : jJ X l d A nL cells slots (mW o q d m w) lv pc (.ref o :: st) := j_get C hin 0 1 rfl rfl (by decide) hlink rfl hdg kk
theorem ml_tape (C : jC Ef X l d A cc nL Ts RX10 rm ret) {i : Int32} (j : Nat) (hi : i = nI j) (hj : j < 140) (hdg : decode cc pc = .ok (.iaload, 1)) (kk : jJ X l d A nL cells slots (mW o q d m w) lv (pc + 1) (.int (m 1 j) :: st)) : jJ X l d A nL cells slots (mW o q d m w) lv pc (.int i :: .ref (q 1) :: st) := j_iald C 1 j rfl hi hj (by decide) hdg kk
theorem ms_tape (C : jC Ef X l d A cc nL Ts RX10 rm ret) {i x : Int32} (j : Nat) (hi : i = nI j) (hj : j < 140) (hdg : decode cc pc = .ok (.iastore, 1)) (kk : jJ X l d A nL cells slots (mW o q d (mu m 1 j x) w) lv (pc + 1) st) : jJ X l d A nL cells slots (mW o q d m w) lv pc (.int x :: .int i :: .ref (q 1) :: st) := j_iast C 1 j rfl hi hj (by decide) (ws2 := mW o q d (mu m 1 j x) w) rfl hdg kk
theorem mg_taped (C : jC Ef X l d A cc nL Ts RX10 rm ret) (hin : ∀ w ∈ u_ws RX10 TX10 37, w ∈ Ts) (hlink : Cond.fieldLink RX10 77 RX10 "taped" "I" ∈ Ts) (hdg : decode cc pc = .ok (.getfield 77, 3)) (kk : jJ X l d A nL cells slots (mW o q d m w) lv (pc + 3) (.int (m 2 0) :: st)) : jJ X l d A nL cells slots (mW o q d m w) lv pc (.ref o :: st) := j_get C hin 0 2 rfl rfl (by decide) hlink rfl hdg kk
theorem mp_taped (C : jC Ef X l d A cc nL Ts RX10 rm ret) (hin : ∀ w ∈ u_ws RX10 TX10 37, w ∈ Ts) (hlink : Cond.fieldLink RX10 77 RX10 "taped" "I" ∈ Ts) {v : Int32} (hdg : decode cc pc = .ok (.putfield 77, 3)) (kk : jJ X l d A nL cells slots (mW o q d (mu m 2 0 v) w) lv (pc + 3) st) : jJ X l d A nL cells slots (mW o q d m w) lv pc (.int v :: .ref o :: st) := j_put C hin tyX10_ok nmX10 0 2 rfl rfl (by decide) hlink rfl (ty := .int) rfl rfl rfl (by decide : 2 < 37) (ws2 := mW o q d (mu m 2 0 v) w) rfl hdg kk
theorem mg_rule (C : jC Ef X l d A cc nL Ts RX10 rm ret) (hin : ∀ w ∈ u_ws RX10 TX10 37, w ∈ Ts) (hlink : Cond.fieldLink RX10 13 RX10 "rule" "[I" ∈ Ts) (hdg : decode cc pc = .ok (.getfield 13, 3)) (kk : jJ X l d A nL cells slots (mW o q d m w) lv (pc + 3) (.ref (q 3) :: st)) : jJ X l d A nL cells slots (mW o q d m w) lv pc (.ref o :: st) := j_get C hin 0 3 rfl rfl (by decide) hlink rfl hdg kk
theorem ml_rule (C : jC Ef X l d A cc nL Ts RX10 rm ret) {i : Int32} (j : Nat) (hi : i = nI j) (hj : j < 6) (hdg : decode cc pc = .ok (.iaload, 1)) (kk : jJ X l d A nL cells slots (mW o q d m w) lv (pc + 1) (.int (m 3 j) :: st)) : jJ X l d A nL cells slots (mW o q d m w) lv pc (.int i :: .ref (q 3) :: st) := j_iald C 2 j rfl hi hj (by decide) hdg kk
theorem ms_rule (C : jC Ef X l d A cc nL Ts RX10 rm ret) {i x : Int32} (j : Nat) (hi : i = nI j) (hj : j < 6) (hdg : decode cc pc = .ok (.iastore, 1)) (kk : jJ X l d A nL cells slots (mW o q d (mu m 3 j x) w) lv (pc + 1) st) : jJ X l d A nL cells slots (mW o q d m w) lv pc (.int x :: .int i :: .ref (q 3) :: st) := j_iast C 2 j rfl hi hj (by decide) (ws2 := mW o q d (mu m 3 j x) w) rfl hdg kk
theorem mg_usual (C : jC Ef X l d A cc nL Ts RX10 rm ret) (hin : ∀ w ∈ u_ws RX10 TX10 37, w ∈ Ts) (hlink : Cond.fieldLink RX10 16 RX10 "usual" "[I" ∈ Ts) (hdg : decode cc pc = .ok (.getfield 16, 3)) (kk : jJ X l d A nL cells slots (mW o q d m w) lv (pc + 3) (.ref (q 4) :: st)) : jJ X l d A nL cells slots (mW o q d m w) lv pc (.ref o :: st) := j_get C hin 0 4 rfl rfl (by decide) hlink rfl hdg kk
theorem ml_usual (C : jC Ef X l d A cc nL Ts RX10 rm ret) {i : Int32} (j : Nat) (hi : i = nI j) (hj : j < 6) (hdg : decode cc pc = .ok (.iaload, 1)) (kk : jJ X l d A nL cells slots (mW o q d m w) lv (pc + 1) (.int (m 4 j) :: st)) : jJ X l d A nL cells slots (mW o q d m w) lv pc (.int i :: .ref (q 4) :: st) := j_iald C 3 j rfl hi hj (by decide) hdg kk
theorem ms_usual (C : jC Ef X l d A cc nL Ts RX10 rm ret) {i x : Int32} (j : Nat) (hi : i = nI j) (hj : j < 6) (hdg : decode cc pc = .ok (.iastore, 1)) (kk : jJ X l d A nL cells slots (mW o q d (mu m 4 j x) w) lv (pc + 1) st) : jJ X l d A nL cells slots (mW o q d m w) lv pc (.int x :: .int i :: .ref (q 4) :: st) := j_iast C 3 j rfl hi hj (by decide) (ws2 := mW o q d (mu m 4 j x) w) rfl hdg kk
theorem mg_low (C : jC Ef X l d A cc nL Ts RX10 rm ret) (hin : ∀ w ∈ u_ws RX10 TX10 37, w ∈ Ts) (hlink : Cond.fieldLink RX10 19 RX10 "low" "[I" ∈ Ts) (hdg : decode cc pc = .ok (.getfield 19, 3)) (kk : jJ X l d A nL cells slots (mW o q d m w) lv (pc + 3) (.ref (q 5) :: st)) : jJ X l d A nL cells slots (mW o q d m w) lv pc (.ref o :: st) := j_get C hin 0 5 rfl rfl (by decide) hlink rfl hdg kk
theorem ml_low (C : jC Ef X l d A cc nL Ts RX10 rm ret) {i : Int32} (j : Nat) (hi : i = nI j) (hj : j < 6) (hdg : decode cc pc = .ok (.iaload, 1)) (kk : jJ X l d A nL cells slots (mW o q d m w) lv (pc + 1) (.int (m 5 j) :: st)) : jJ X l d A nL cells slots (mW o q d m w) lv pc (.int i :: .ref (q 5) :: st) := j_iald C 4 j rfl hi hj (by decide) hdg kk
theorem ms_low (C : jC Ef X l d A cc nL Ts RX10 rm ret) {i x : Int32} (j : Nat) (hi : i = nI j) (hj : j < 6) (hdg : decode cc pc = .ok (.iastore, 1)) (kk : jJ X l d A nL cells slots (mW o q d (mu m 5 j x) w) lv (pc + 1) st) : jJ X l d A nL cells slots (mW o q d m w) lv pc (.int x :: .int i :: .ref (q 5) :: st) := j_iast C 4 j rfl hi hj (by decide) (ws2 := mW o q d (mu m 5 j x) w) rfl hdg kk
theorem mg_high (C : jC Ef X l d A cc nL Ts RX10 rm ret) (hin : ∀ w ∈ u_ws RX10 TX10 37, w ∈ Ts) (hlink : Cond.fieldLink RX10 22 RX10 "high" "[I" ∈ Ts) (hdg : decode cc pc = .ok (.getfield 22, 3)) (kk : jJ X l d A nL cells slots (mW o q d m w) lv (pc + 3) (.ref (q 6) :: st)) : jJ X l d A nL cells slots (mW o q d m w) lv pc (.ref o :: st) := j_get C hin 0 6 rfl rfl (by decide) hlink rfl hdg kk
theorem ml_high (C : jC Ef X l d A cc nL Ts RX10 rm ret) {i : Int32} (j : Nat) (hi : i = nI j) (hj : j < 6) (hdg : decode cc pc = .ok (.iaload, 1)) (kk : jJ X l d A nL cells slots (mW o q d m w) lv (pc + 1) (.int (m 6 j) :: st)) : jJ X l d A nL cells slots (mW o q d m w) lv pc (.int i :: .ref (q 6) :: st) := j_iald C 5 j rfl hi hj (by decide) hdg kk
theorem ms_high (C : jC Ef X l d A cc nL Ts RX10 rm ret) {i x : Int32} (j : Nat) (hi : i = nI j) (hj : j < 6) (hdg : decode cc pc = .ok (.iastore, 1)) (kk : jJ X l d A nL cells slots (mW o q d (mu m 6 j x) w) lv (pc + 1) st) : jJ X l d A nL cells slots (mW o q d m w) lv pc (.int x :: .int i :: .ref (q 6) :: st) := j_iast C 5 j rfl hi hj (by decide) (ws2 := mW o q d (mu m 6 j x) w) rfl hdg kk
theorem mg_fresh (C : jC Ef X l d A cc nL Ts RX10 rm ret) (hin : ∀ w ∈ u_ws RX10 TX10 37, w ∈ Ts) (hlink : Cond.fieldLink RX10 25 RX10 "fresh" "[I" ∈ Ts) (hdg : decode cc pc = .ok (.getfield 25, 3)) (kk : jJ X l d A nL cells slots (mW o q d m w) lv (pc + 3) (.ref (q 7) :: st)) : jJ X l d A nL cells slots (mW o q d m w) lv pc (.ref o :: st) := j_get C hin 0 7 rfl rfl (by decide) hlink rfl hdg kk
theorem ml_fresh (C : jC Ef X l d A cc nL Ts RX10 rm ret) {i : Int32} (j : Nat) (hi : i = nI j) (hj : j < 6) (hdg : decode cc pc = .ok (.iaload, 1)) (kk : jJ X l d A nL cells slots (mW o q d m w) lv (pc + 1) (.int (m 7 j) :: st)) : jJ X l d A nL cells slots (mW o q d m w) lv pc (.int i :: .ref (q 7) :: st) := j_iald C 6 j rfl hi hj (by decide) hdg kk
theorem ms_fresh (C : jC Ef X l d A cc nL Ts RX10 rm ret) {i x : Int32} (j : Nat) (hi : i = nI j) (hj : j < 6) (hdg : decode cc pc = .ok (.iastore, 1)) (kk : jJ X l d A nL cells slots (mW o q d (mu m 7 j x) w) lv (pc + 1) st) : jJ X l d A nL cells slots (mW o q d m w) lv pc (.int x :: .int i :: .ref (q 7) :: st) := j_iast C 6 j rfl hi hj (by decide) (ws2 := mW o q d (mu m 7 j x) w) rfl hdg kk
theorem mg_size (C : jC Ef X l d A cc nL Ts RX10 rm ret) (hin : ∀ w ∈ u_ws RX10 TX10 37, w ∈ Ts) (hlink : Cond.fieldLink RX10 84 RX10 "size" "I" ∈ Ts) (hdg : decode cc pc = .ok (.getfield 84, 3)) (kk : jJ X l d A nL cells slots (mW o q d m w) lv (pc + 3) (.int (m 8 0) :: st)) : jJ X l d A nL cells slots (mW o q d m w) lv pc (.ref o :: st) := j_get C hin 0 8 rfl rfl (by decide) hlink rfl hdg kk
theorem mp_size (C : jC Ef X l d A cc nL Ts RX10 rm ret) (hin : ∀ w ∈ u_ws RX10 TX10 37, w ∈ Ts) (hlink : Cond.fieldLink RX10 84 RX10 "size" "I" ∈ Ts) {v : Int32} (hdg : decode cc pc = .ok (.putfield 84, 3)) (kk : jJ X l d A nL cells slots (mW o q d (mu m 8 0 v) w) lv (pc + 3) st) : jJ X l d A nL cells slots (mW o q d m w) lv pc (.int v :: .ref o :: st) := j_put C hin tyX10_ok nmX10 0 8 rfl rfl (by decide) hlink rfl (ty := .int) rfl rfl rfl (by decide : 8 < 37) (ws2 := mW o q d (mu m 8 0 v) w) rfl hdg kk
theorem mg_to (C : jC Ef X l d A cc nL Ts RX10 rm ret) (hin : ∀ w ∈ u_ws RX10 TX10 37, w ∈ Ts) (hlink : Cond.fieldLink RX10 87 RX10 "to" "I" ∈ Ts) (hdg : decode cc pc = .ok (.getfield 87, 3)) (kk : jJ X l d A nL cells slots (mW o q d m w) lv (pc + 3) (.int (m 9 0) :: st)) : jJ X l d A nL cells slots (mW o q d m w) lv pc (.ref o :: st) := j_get C hin 0 9 rfl rfl (by decide) hlink rfl hdg kk
theorem mp_to (C : jC Ef X l d A cc nL Ts RX10 rm ret) (hin : ∀ w ∈ u_ws RX10 TX10 37, w ∈ Ts) (hlink : Cond.fieldLink RX10 87 RX10 "to" "I" ∈ Ts) {v : Int32} (hdg : decode cc pc = .ok (.putfield 87, 3)) (kk : jJ X l d A nL cells slots (mW o q d (mu m 9 0 v) w) lv (pc + 3) st) : jJ X l d A nL cells slots (mW o q d m w) lv pc (.int v :: .ref o :: st) := j_put C hin tyX10_ok nmX10 0 9 rfl rfl (by decide) hlink rfl (ty := .int) rfl rfl rfl (by decide : 9 < 37) (ws2 := mW o q d (mu m 9 0 v) w) rfl hdg kk
theorem mg_from (C : jC Ef X l d A cc nL Ts RX10 rm ret) (hin : ∀ w ∈ u_ws RX10 TX10 37, w ∈ Ts) (hlink : Cond.fieldLink RX10 90 RX10 "from" "I" ∈ Ts) (hdg : decode cc pc = .ok (.getfield 90, 3)) (kk : jJ X l d A nL cells slots (mW o q d m w) lv (pc + 3) (.int (m 10 0) :: st)) : jJ X l d A nL cells slots (mW o q d m w) lv pc (.ref o :: st) := j_get C hin 0 10 rfl rfl (by decide) hlink rfl hdg kk
theorem mp_from (C : jC Ef X l d A cc nL Ts RX10 rm ret) (hin : ∀ w ∈ u_ws RX10 TX10 37, w ∈ Ts) (hlink : Cond.fieldLink RX10 90 RX10 "from" "I" ∈ Ts) {v : Int32} (hdg : decode cc pc = .ok (.putfield 90, 3)) (kk : jJ X l d A nL cells slots (mW o q d (mu m 10 0 v) w) lv (pc + 3) st) : jJ X l d A nL cells slots (mW o q d m w) lv pc (.int v :: .ref o :: st) := j_put C hin tyX10_ok nmX10 0 10 rfl rfl (by decide) hlink rfl (ty := .int) rfl rfl rfl (by decide : 10 < 37) (ws2 := mW o q d (mu m 10 0 v) w) rfl hdg kk
theorem mg_kind (C : jC Ef X l d A cc nL Ts RX10 rm ret) (hin : ∀ w ∈ u_ws RX10 TX10 37, w ∈ Ts) (hlink : Cond.fieldLink RX10 93 RX10 "kind" "I" ∈ Ts) (hdg : decode cc pc = .ok (.getfield 93, 3)) (kk : jJ X l d A nL cells slots (mW o q d m w) lv (pc + 3) (.int (m 11 0) :: st)) : jJ X l d A nL cells slots (mW o q d m w) lv pc (.ref o :: st) := j_get C hin 0 11 rfl rfl (by decide) hlink rfl hdg kk
theorem mp_kind (C : jC Ef X l d A cc nL Ts RX10 rm ret) (hin : ∀ w ∈ u_ws RX10 TX10 37, w ∈ Ts) (hlink : Cond.fieldLink RX10 93 RX10 "kind" "I" ∈ Ts) {v : Int32} (hdg : decode cc pc = .ok (.putfield 93, 3)) (kk : jJ X l d A nL cells slots (mW o q d (mu m 11 0 v) w) lv (pc + 3) st) : jJ X l d A nL cells slots (mW o q d m w) lv pc (.int v :: .ref o :: st) := j_put C hin tyX10_ok nmX10 0 11 rfl rfl (by decide) hlink rfl (ty := .int) rfl rfl rfl (by decide : 11 < 37) (ws2 := mW o q d (mu m 11 0 v) w) rfl hdg kk
theorem mg_number (C : jC Ef X l d A cc nL Ts RX10 rm ret) (hin : ∀ w ∈ u_ws RX10 TX10 37, w ∈ Ts) (hlink : Cond.fieldLink RX10 107 RX10 "number" "I" ∈ Ts) (hdg : decode cc pc = .ok (.getfield 107, 3)) (kk : jJ X l d A nL cells slots (mW o q d m w) lv (pc + 3) (.int (m 12 0) :: st)) : jJ X l d A nL cells slots (mW o q d m w) lv pc (.ref o :: st) := j_get C hin 0 12 rfl rfl (by decide) hlink rfl hdg kk
theorem mp_number (C : jC Ef X l d A cc nL Ts RX10 rm ret) (hin : ∀ w ∈ u_ws RX10 TX10 37, w ∈ Ts) (hlink : Cond.fieldLink RX10 107 RX10 "number" "I" ∈ Ts) {v : Int32} (hdg : decode cc pc = .ok (.putfield 107, 3)) (kk : jJ X l d A nL cells slots (mW o q d (mu m 12 0 v) w) lv (pc + 3) st) : jJ X l d A nL cells slots (mW o q d m w) lv pc (.int v :: .ref o :: st) := j_put C hin tyX10_ok nmX10 0 12 rfl rfl (by decide) hlink rfl (ty := .int) rfl rfl rfl (by decide : 12 < 37) (ws2 := mW o q d (mu m 12 0 v) w) rfl hdg kk
theorem mg_fault (C : jC Ef X l d A cc nL Ts RX10 rm ret) (hin : ∀ w ∈ u_ws RX10 TX10 37, w ∈ Ts) (hlink : Cond.fieldLink RX10 140 RX10 "fault" "I" ∈ Ts) (hdg : decode cc pc = .ok (.getfield 140, 3)) (kk : jJ X l d A nL cells slots (mW o q d m w) lv (pc + 3) (.int (m 13 0) :: st)) : jJ X l d A nL cells slots (mW o q d m w) lv pc (.ref o :: st) := j_get C hin 0 13 rfl rfl (by decide) hlink rfl hdg kk
theorem mp_fault (C : jC Ef X l d A cc nL Ts RX10 rm ret) (hin : ∀ w ∈ u_ws RX10 TX10 37, w ∈ Ts) (hlink : Cond.fieldLink RX10 140 RX10 "fault" "I" ∈ Ts) {v : Int32} (hdg : decode cc pc = .ok (.putfield 140, 3)) (kk : jJ X l d A nL cells slots (mW o q d (mu m 13 0 v) w) lv (pc + 3) st) : jJ X l d A nL cells slots (mW o q d m w) lv pc (.int v :: .ref o :: st) := j_put C hin tyX10_ok nmX10 0 13 rfl rfl (by decide) hlink rfl (ty := .int) rfl rfl rfl (by decide : 13 < 37) (ws2 := mW o q d (mu m 13 0 v) w) rfl hdg kk
theorem mg_place (C : jC Ef X l d A cc nL Ts RX10 rm ret) (hin : ∀ w ∈ u_ws RX10 TX10 37, w ∈ Ts) (hlink : Cond.fieldLink RX10 143 RX10 "place" "I" ∈ Ts) (hdg : decode cc pc = .ok (.getfield 143, 3)) (kk : jJ X l d A nL cells slots (mW o q d m w) lv (pc + 3) (.int (m 14 0) :: st)) : jJ X l d A nL cells slots (mW o q d m w) lv pc (.ref o :: st) := j_get C hin 0 14 rfl rfl (by decide) hlink rfl hdg kk
theorem mp_place (C : jC Ef X l d A cc nL Ts RX10 rm ret) (hin : ∀ w ∈ u_ws RX10 TX10 37, w ∈ Ts) (hlink : Cond.fieldLink RX10 143 RX10 "place" "I" ∈ Ts) {v : Int32} (hdg : decode cc pc = .ok (.putfield 143, 3)) (kk : jJ X l d A nL cells slots (mW o q d (mu m 14 0 v) w) lv (pc + 3) st) : jJ X l d A nL cells slots (mW o q d m w) lv pc (.int v :: .ref o :: st) := j_put C hin tyX10_ok nmX10 0 14 rfl rfl (by decide) hlink rfl (ty := .int) rfl rfl rfl (by decide : 14 < 37) (ws2 := mW o q d (mu m 14 0 v) w) rfl hdg kk
theorem mg_told (C : jC Ef X l d A cc nL Ts RX10 rm ret) (hin : ∀ w ∈ u_ws RX10 TX10 37, w ∈ Ts) (hlink : Cond.fieldLink RX10 153 RX10 "told" "I" ∈ Ts) (hdg : decode cc pc = .ok (.getfield 153, 3)) (kk : jJ X l d A nL cells slots (mW o q d m w) lv (pc + 3) (.int (m 15 0) :: st)) : jJ X l d A nL cells slots (mW o q d m w) lv pc (.ref o :: st) := j_get C hin 0 15 rfl rfl (by decide) hlink rfl hdg kk
theorem mp_told (C : jC Ef X l d A cc nL Ts RX10 rm ret) (hin : ∀ w ∈ u_ws RX10 TX10 37, w ∈ Ts) (hlink : Cond.fieldLink RX10 153 RX10 "told" "I" ∈ Ts) {v : Int32} (hdg : decode cc pc = .ok (.putfield 153, 3)) (kk : jJ X l d A nL cells slots (mW o q d (mu m 15 0 v) w) lv (pc + 3) st) : jJ X l d A nL cells slots (mW o q d m w) lv pc (.int v :: .ref o :: st) := j_put C hin tyX10_ok nmX10 0 15 rfl rfl (by decide) hlink rfl (ty := .int) rfl rfl rfl (by decide : 15 < 37) (ws2 := mW o q d (mu m 15 0 v) w) rfl hdg kk
theorem mg_word (C : jC Ef X l d A cc nL Ts RX10 rm ret) (hin : ∀ w ∈ u_ws RX10 TX10 37, w ∈ Ts) (hlink : Cond.fieldLink RX10 103 RX10 "word" "J" ∈ Ts) (hdg : decode cc pc = .ok (.getfield 103, 3)) (kk : jJ X l d A nL cells slots (mW o q d m w) lv (pc + 3) (.long w :: st)) : jJ X l d A nL cells slots (mW o q d m w) lv pc (.ref o :: st) := j_get C hin 0 16 rfl rfl (by decide) hlink rfl hdg kk
theorem mp_word (C : jC Ef X l d A cc nL Ts RX10 rm ret) (hin : ∀ w ∈ u_ws RX10 TX10 37, w ∈ Ts) (hlink : Cond.fieldLink RX10 103 RX10 "word" "J" ∈ Ts) {v : Int64} (hdg : decode cc pc = .ok (.putfield 103, 3)) (kk : jJ X l d A nL cells slots (mW o q d m v) lv (pc + 3) st) : jJ X l d A nL cells slots (mW o q d m w) lv pc (.long v :: .ref o :: st) := j_put C hin tyX10_ok nmX10 0 16 rfl rfl (by decide) hlink rfl (ty := .long) rfl rfl rfl (by decide : 16 < 37) (ws2 := mW o q d m v) rfl hdg kk
theorem mg_shares (C : jC Ef X l d A cc nL Ts RX10 rm ret) (hin : ∀ w ∈ u_ws RX10 TX10 37, w ∈ Ts) (hlink : Cond.fieldLink RX10 28 RX10 "shares" "[I" ∈ Ts) (hdg : decode cc pc = .ok (.getfield 28, 3)) (kk : jJ X l d A nL cells slots (mW o q d m w) lv (pc + 3) (.ref (q 17) :: st)) : jJ X l d A nL cells slots (mW o q d m w) lv pc (.ref o :: st) := j_get C hin 0 17 rfl rfl (by decide) hlink rfl hdg kk
theorem ml_shares (C : jC Ef X l d A cc nL Ts RX10 rm ret) {i : Int32} (j : Nat) (hi : i = nI j) (hj : j < 10) (hdg : decode cc pc = .ok (.iaload, 1)) (kk : jJ X l d A nL cells slots (mW o q d m w) lv (pc + 1) (.int (m 17 j) :: st)) : jJ X l d A nL cells slots (mW o q d m w) lv pc (.int i :: .ref (q 17) :: st) := j_iald C 7 j rfl hi hj (by decide) hdg kk
theorem ms_shares (C : jC Ef X l d A cc nL Ts RX10 rm ret) {i x : Int32} (j : Nat) (hi : i = nI j) (hj : j < 10) (hdg : decode cc pc = .ok (.iastore, 1)) (kk : jJ X l d A nL cells slots (mW o q d (mu m 17 j x) w) lv (pc + 1) st) : jJ X l d A nL cells slots (mW o q d m w) lv pc (.int x :: .int i :: .ref (q 17) :: st) := j_iast C 7 j rfl hi hj (by decide) (ws2 := mW o q d (mu m 17 j x) w) rfl hdg kk
theorem mg_left (C : jC Ef X l d A cc nL Ts RX10 rm ret) (hin : ∀ w ∈ u_ws RX10 TX10 37, w ∈ Ts) (hlink : Cond.fieldLink RX10 31 RX10 "left" "[I" ∈ Ts) (hdg : decode cc pc = .ok (.getfield 31, 3)) (kk : jJ X l d A nL cells slots (mW o q d m w) lv (pc + 3) (.ref (q 18) :: st)) : jJ X l d A nL cells slots (mW o q d m w) lv pc (.ref o :: st) := j_get C hin 0 18 rfl rfl (by decide) hlink rfl hdg kk
theorem ml_left (C : jC Ef X l d A cc nL Ts RX10 rm ret) {i : Int32} (j : Nat) (hi : i = nI j) (hj : j < 10) (hdg : decode cc pc = .ok (.iaload, 1)) (kk : jJ X l d A nL cells slots (mW o q d m w) lv (pc + 1) (.int (m 18 j) :: st)) : jJ X l d A nL cells slots (mW o q d m w) lv pc (.int i :: .ref (q 18) :: st) := j_iald C 8 j rfl hi hj (by decide) hdg kk
theorem ms_left (C : jC Ef X l d A cc nL Ts RX10 rm ret) {i x : Int32} (j : Nat) (hi : i = nI j) (hj : j < 10) (hdg : decode cc pc = .ok (.iastore, 1)) (kk : jJ X l d A nL cells slots (mW o q d (mu m 18 j x) w) lv (pc + 1) st) : jJ X l d A nL cells slots (mW o q d m w) lv pc (.int x :: .int i :: .ref (q 18) :: st) := j_iast C 8 j rfl hi hj (by decide) (ws2 := mW o q d (mu m 18 j x) w) rfl hdg kk
theorem mg_price (C : jC Ef X l d A cc nL Ts RX10 rm ret) (hin : ∀ w ∈ u_ws RX10 TX10 37, w ∈ Ts) (hlink : Cond.fieldLink RX10 34 RX10 "price" "[I" ∈ Ts) (hdg : decode cc pc = .ok (.getfield 34, 3)) (kk : jJ X l d A nL cells slots (mW o q d m w) lv (pc + 3) (.ref (q 19) :: st)) : jJ X l d A nL cells slots (mW o q d m w) lv pc (.ref o :: st) := j_get C hin 0 19 rfl rfl (by decide) hlink rfl hdg kk
theorem ml_price (C : jC Ef X l d A cc nL Ts RX10 rm ret) {i : Int32} (j : Nat) (hi : i = nI j) (hj : j < 10) (hdg : decode cc pc = .ok (.iaload, 1)) (kk : jJ X l d A nL cells slots (mW o q d m w) lv (pc + 1) (.int (m 19 j) :: st)) : jJ X l d A nL cells slots (mW o q d m w) lv pc (.int i :: .ref (q 19) :: st) := j_iald C 9 j rfl hi hj (by decide) hdg kk
theorem ms_price (C : jC Ef X l d A cc nL Ts RX10 rm ret) {i x : Int32} (j : Nat) (hi : i = nI j) (hj : j < 10) (hdg : decode cc pc = .ok (.iastore, 1)) (kk : jJ X l d A nL cells slots (mW o q d (mu m 19 j x) w) lv (pc + 1) st) : jJ X l d A nL cells slots (mW o q d m w) lv pc (.int x :: .int i :: .ref (q 19) :: st) := j_iast C 9 j rfl hi hj (by decide) (ws2 := mW o q d (mu m 19 j x) w) rfl hdg kk
theorem mg_prices (C : jC Ef X l d A cc nL Ts RX10 rm ret) (hin : ∀ w ∈ u_ws RX10 TX10 37, w ∈ Ts) (hlink : Cond.fieldLink RX10 37 RX10 "prices" "[I" ∈ Ts) (hdg : decode cc pc = .ok (.getfield 37, 3)) (kk : jJ X l d A nL cells slots (mW o q d m w) lv (pc + 3) (.ref (q 20) :: st)) : jJ X l d A nL cells slots (mW o q d m w) lv pc (.ref o :: st) := j_get C hin 0 20 rfl rfl (by decide) hlink rfl hdg kk
theorem ml_prices (C : jC Ef X l d A cc nL Ts RX10 rm ret) {i : Int32} (j : Nat) (hi : i = nI j) (hj : j < 500) (hdg : decode cc pc = .ok (.iaload, 1)) (kk : jJ X l d A nL cells slots (mW o q d m w) lv (pc + 1) (.int (m 20 j) :: st)) : jJ X l d A nL cells slots (mW o q d m w) lv pc (.int i :: .ref (q 20) :: st) := j_iald C 10 j rfl hi hj (by decide) hdg kk
theorem ms_prices (C : jC Ef X l d A cc nL Ts RX10 rm ret) {i x : Int32} (j : Nat) (hi : i = nI j) (hj : j < 500) (hdg : decode cc pc = .ok (.iastore, 1)) (kk : jJ X l d A nL cells slots (mW o q d (mu m 20 j x) w) lv (pc + 1) st) : jJ X l d A nL cells slots (mW o q d m w) lv pc (.int x :: .int i :: .ref (q 20) :: st) := j_iast C 10 j rfl hi hj (by decide) (ws2 := mW o q d (mu m 20 j x) w) rfl hdg kk
theorem mg_since (C : jC Ef X l d A cc nL Ts RX10 rm ret) (hin : ∀ w ∈ u_ws RX10 TX10 37, w ∈ Ts) (hlink : Cond.fieldLink RX10 40 RX10 "since" "[I" ∈ Ts) (hdg : decode cc pc = .ok (.getfield 40, 3)) (kk : jJ X l d A nL cells slots (mW o q d m w) lv (pc + 3) (.ref (q 21) :: st)) : jJ X l d A nL cells slots (mW o q d m w) lv pc (.ref o :: st) := j_get C hin 0 21 rfl rfl (by decide) hlink rfl hdg kk
theorem ml_since (C : jC Ef X l d A cc nL Ts RX10 rm ret) {i : Int32} (j : Nat) (hi : i = nI j) (hj : j < 10) (hdg : decode cc pc = .ok (.iaload, 1)) (kk : jJ X l d A nL cells slots (mW o q d m w) lv (pc + 1) (.int (m 21 j) :: st)) : jJ X l d A nL cells slots (mW o q d m w) lv pc (.int i :: .ref (q 21) :: st) := j_iald C 11 j rfl hi hj (by decide) hdg kk
theorem ms_since (C : jC Ef X l d A cc nL Ts RX10 rm ret) {i x : Int32} (j : Nat) (hi : i = nI j) (hj : j < 10) (hdg : decode cc pc = .ok (.iastore, 1)) (kk : jJ X l d A nL cells slots (mW o q d (mu m 21 j x) w) lv (pc + 1) st) : jJ X l d A nL cells slots (mW o q d m w) lv pc (.int x :: .int i :: .ref (q 21) :: st) := j_iast C 11 j rfl hi hj (by decide) (ws2 := mW o q d (mu m 21 j x) w) rfl hdg kk
theorem mg_points (C : jC Ef X l d A cc nL Ts RX10 rm ret) (hin : ∀ w ∈ u_ws RX10 TX10 37, w ∈ Ts) (hlink : Cond.fieldLink RX10 43 RX10 "points" "[I" ∈ Ts) (hdg : decode cc pc = .ok (.getfield 43, 3)) (kk : jJ X l d A nL cells slots (mW o q d m w) lv (pc + 3) (.ref (q 22) :: st)) : jJ X l d A nL cells slots (mW o q d m w) lv pc (.ref o :: st) := j_get C hin 0 22 rfl rfl (by decide) hlink rfl hdg kk
theorem ml_points (C : jC Ef X l d A cc nL Ts RX10 rm ret) {i : Int32} (j : Nat) (hi : i = nI j) (hj : j < 28) (hdg : decode cc pc = .ok (.iaload, 1)) (kk : jJ X l d A nL cells slots (mW o q d m w) lv (pc + 1) (.int (m 22 j) :: st)) : jJ X l d A nL cells slots (mW o q d m w) lv pc (.int i :: .ref (q 22) :: st) := j_iald C 12 j rfl hi hj (by decide) hdg kk
theorem ms_points (C : jC Ef X l d A cc nL Ts RX10 rm ret) {i x : Int32} (j : Nat) (hi : i = nI j) (hj : j < 28) (hdg : decode cc pc = .ok (.iastore, 1)) (kk : jJ X l d A nL cells slots (mW o q d (mu m 22 j x) w) lv (pc + 1) st) : jJ X l d A nL cells slots (mW o q d m w) lv pc (.int x :: .int i :: .ref (q 22) :: st) := j_iast C 12 j rfl hi hj (by decide) (ws2 := mW o q d (mu m 22 j x) w) rfl hdg kk
theorem mg_worker (C : jC Ef X l d A cc nL Ts RX10 rm ret) (hin : ∀ w ∈ u_ws RX10 TX10 37, w ∈ Ts) (hlink : Cond.fieldLink RX10 46 RX10 "worker" "[I" ∈ Ts) (hdg : decode cc pc = .ok (.getfield 46, 3)) (kk : jJ X l d A nL cells slots (mW o q d m w) lv (pc + 3) (.ref (q 23) :: st)) : jJ X l d A nL cells slots (mW o q d m w) lv pc (.ref o :: st) := j_get C hin 0 23 rfl rfl (by decide) hlink rfl hdg kk
theorem ml_worker (C : jC Ef X l d A cc nL Ts RX10 rm ret) {i : Int32} (j : Nat) (hi : i = nI j) (hj : j < 24) (hdg : decode cc pc = .ok (.iaload, 1)) (kk : jJ X l d A nL cells slots (mW o q d m w) lv (pc + 1) (.int (m 23 j) :: st)) : jJ X l d A nL cells slots (mW o q d m w) lv pc (.int i :: .ref (q 23) :: st) := j_iald C 13 j rfl hi hj (by decide) hdg kk
theorem ms_worker (C : jC Ef X l d A cc nL Ts RX10 rm ret) {i x : Int32} (j : Nat) (hi : i = nI j) (hj : j < 24) (hdg : decode cc pc = .ok (.iastore, 1)) (kk : jJ X l d A nL cells slots (mW o q d (mu m 23 j x) w) lv (pc + 1) st) : jJ X l d A nL cells slots (mW o q d m w) lv pc (.int x :: .int i :: .ref (q 23) :: st) := j_iast C 13 j rfl hi hj (by decide) (ws2 := mW o q d (mu m 23 j x) w) rfl hdg kk
theorem mg_promise (C : jC Ef X l d A cc nL Ts RX10 rm ret) (hin : ∀ w ∈ u_ws RX10 TX10 37, w ∈ Ts) (hlink : Cond.fieldLink RX10 49 RX10 "promise" "[I" ∈ Ts) (hdg : decode cc pc = .ok (.getfield 49, 3)) (kk : jJ X l d A nL cells slots (mW o q d m w) lv (pc + 3) (.ref (q 24) :: st)) : jJ X l d A nL cells slots (mW o q d m w) lv pc (.ref o :: st) := j_get C hin 0 24 rfl rfl (by decide) hlink rfl hdg kk
theorem ml_promise (C : jC Ef X l d A cc nL Ts RX10 rm ret) {i : Int32} (j : Nat) (hi : i = nI j) (hj : j < 4) (hdg : decode cc pc = .ok (.iaload, 1)) (kk : jJ X l d A nL cells slots (mW o q d m w) lv (pc + 1) (.int (m 24 j) :: st)) : jJ X l d A nL cells slots (mW o q d m w) lv pc (.int i :: .ref (q 24) :: st) := j_iald C 14 j rfl hi hj (by decide) hdg kk
theorem ms_promise (C : jC Ef X l d A cc nL Ts RX10 rm ret) {i x : Int32} (j : Nat) (hi : i = nI j) (hj : j < 4) (hdg : decode cc pc = .ok (.iastore, 1)) (kk : jJ X l d A nL cells slots (mW o q d (mu m 24 j x) w) lv (pc + 1) st) : jJ X l d A nL cells slots (mW o q d m w) lv pc (.int x :: .int i :: .ref (q 24) :: st) := j_iast C 14 j rfl hi hj (by decide) (ws2 := mW o q d (mu m 24 j x) w) rfl hdg kk
theorem mg_given (C : jC Ef X l d A cc nL Ts RX10 rm ret) (hin : ∀ w ∈ u_ws RX10 TX10 37, w ∈ Ts) (hlink : Cond.fieldLink RX10 52 RX10 "given" "[I" ∈ Ts) (hdg : decode cc pc = .ok (.getfield 52, 3)) (kk : jJ X l d A nL cells slots (mW o q d m w) lv (pc + 3) (.ref (q 25) :: st)) : jJ X l d A nL cells slots (mW o q d m w) lv pc (.ref o :: st) := j_get C hin 0 25 rfl rfl (by decide) hlink rfl hdg kk
theorem ml_given (C : jC Ef X l d A cc nL Ts RX10 rm ret) {i : Int32} (j : Nat) (hi : i = nI j) (hj : j < 4) (hdg : decode cc pc = .ok (.iaload, 1)) (kk : jJ X l d A nL cells slots (mW o q d m w) lv (pc + 1) (.int (m 25 j) :: st)) : jJ X l d A nL cells slots (mW o q d m w) lv pc (.int i :: .ref (q 25) :: st) := j_iald C 15 j rfl hi hj (by decide) hdg kk
theorem ms_given (C : jC Ef X l d A cc nL Ts RX10 rm ret) {i x : Int32} (j : Nat) (hi : i = nI j) (hj : j < 4) (hdg : decode cc pc = .ok (.iastore, 1)) (kk : jJ X l d A nL cells slots (mW o q d (mu m 25 j x) w) lv (pc + 1) st) : jJ X l d A nL cells slots (mW o q d m w) lv pc (.int x :: .int i :: .ref (q 25) :: st) := j_iast C 15 j rfl hi hj (by decide) (ws2 := mW o q d (mu m 25 j x) w) rfl hdg kk
theorem mg_gift (C : jC Ef X l d A cc nL Ts RX10 rm ret) (hin : ∀ w ∈ u_ws RX10 TX10 37, w ∈ Ts) (hlink : Cond.fieldLink RX10 55 RX10 "gift" "[I" ∈ Ts) (hdg : decode cc pc = .ok (.getfield 55, 3)) (kk : jJ X l d A nL cells slots (mW o q d m w) lv (pc + 3) (.ref (q 26) :: st)) : jJ X l d A nL cells slots (mW o q d m w) lv pc (.ref o :: st) := j_get C hin 0 26 rfl rfl (by decide) hlink rfl hdg kk
theorem ml_gift (C : jC Ef X l d A cc nL Ts RX10 rm ret) {i : Int32} (j : Nat) (hi : i = nI j) (hj : j < 96) (hdg : decode cc pc = .ok (.iaload, 1)) (kk : jJ X l d A nL cells slots (mW o q d m w) lv (pc + 1) (.int (m 26 j) :: st)) : jJ X l d A nL cells slots (mW o q d m w) lv pc (.int i :: .ref (q 26) :: st) := j_iald C 16 j rfl hi hj (by decide) hdg kk
theorem ms_gift (C : jC Ef X l d A cc nL Ts RX10 rm ret) {i x : Int32} (j : Nat) (hi : i = nI j) (hj : j < 96) (hdg : decode cc pc = .ok (.iastore, 1)) (kk : jJ X l d A nL cells slots (mW o q d (mu m 26 j x) w) lv (pc + 1) st) : jJ X l d A nL cells slots (mW o q d m w) lv pc (.int x :: .int i :: .ref (q 26) :: st) := j_iast C 16 j rfl hi hj (by decide) (ws2 := mW o q d (mu m 26 j x) w) rfl hdg kk
theorem mg_asked (C : jC Ef X l d A cc nL Ts RX10 rm ret) (hin : ∀ w ∈ u_ws RX10 TX10 37, w ∈ Ts) (hlink : Cond.fieldLink RX10 58 RX10 "asked" "[I" ∈ Ts) (hdg : decode cc pc = .ok (.getfield 58, 3)) (kk : jJ X l d A nL cells slots (mW o q d m w) lv (pc + 3) (.ref (q 27) :: st)) : jJ X l d A nL cells slots (mW o q d m w) lv pc (.ref o :: st) := j_get C hin 0 27 rfl rfl (by decide) hlink rfl hdg kk
theorem ml_asked (C : jC Ef X l d A cc nL Ts RX10 rm ret) {i : Int32} (j : Nat) (hi : i = nI j) (hj : j < 280) (hdg : decode cc pc = .ok (.iaload, 1)) (kk : jJ X l d A nL cells slots (mW o q d m w) lv (pc + 1) (.int (m 27 j) :: st)) : jJ X l d A nL cells slots (mW o q d m w) lv pc (.int i :: .ref (q 27) :: st) := j_iald C 17 j rfl hi hj (by decide) hdg kk
theorem ms_asked (C : jC Ef X l d A cc nL Ts RX10 rm ret) {i x : Int32} (j : Nat) (hi : i = nI j) (hj : j < 280) (hdg : decode cc pc = .ok (.iastore, 1)) (kk : jJ X l d A nL cells slots (mW o q d (mu m 27 j x) w) lv (pc + 1) st) : jJ X l d A nL cells slots (mW o q d m w) lv pc (.int x :: .int i :: .ref (q 27) :: st) := j_iast C 17 j rfl hi hj (by decide) (ws2 := mW o q d (mu m 27 j x) w) rfl hdg kk
theorem mg_held (C : jC Ef X l d A cc nL Ts RX10 rm ret) (hin : ∀ w ∈ u_ws RX10 TX10 37, w ∈ Ts) (hlink : Cond.fieldLink RX10 61 RX10 "held" "[I" ∈ Ts) (hdg : decode cc pc = .ok (.getfield 61, 3)) (kk : jJ X l d A nL cells slots (mW o q d m w) lv (pc + 3) (.ref (q 28) :: st)) : jJ X l d A nL cells slots (mW o q d m w) lv pc (.ref o :: st) := j_get C hin 0 28 rfl rfl (by decide) hlink rfl hdg kk
theorem ml_held (C : jC Ef X l d A cc nL Ts RX10 rm ret) {i : Int32} (j : Nat) (hi : i = nI j) (hj : j < 280) (hdg : decode cc pc = .ok (.iaload, 1)) (kk : jJ X l d A nL cells slots (mW o q d m w) lv (pc + 1) (.int (m 28 j) :: st)) : jJ X l d A nL cells slots (mW o q d m w) lv pc (.int i :: .ref (q 28) :: st) := j_iald C 18 j rfl hi hj (by decide) hdg kk
theorem ms_held (C : jC Ef X l d A cc nL Ts RX10 rm ret) {i x : Int32} (j : Nat) (hi : i = nI j) (hj : j < 280) (hdg : decode cc pc = .ok (.iastore, 1)) (kk : jJ X l d A nL cells slots (mW o q d (mu m 28 j x) w) lv (pc + 1) st) : jJ X l d A nL cells slots (mW o q d m w) lv pc (.int x :: .int i :: .ref (q 28) :: st) := j_iast C 18 j rfl hi hj (by decide) (ws2 := mW o q d (mu m 28 j x) w) rfl hdg kk
theorem mg_was (C : jC Ef X l d A cc nL Ts RX10 rm ret) (hin : ∀ w ∈ u_ws RX10 TX10 37, w ∈ Ts) (hlink : Cond.fieldLink RX10 64 RX10 "was" "[I" ∈ Ts) (hdg : decode cc pc = .ok (.getfield 64, 3)) (kk : jJ X l d A nL cells slots (mW o q d m w) lv (pc + 3) (.ref (q 29) :: st)) : jJ X l d A nL cells slots (mW o q d m w) lv pc (.ref o :: st) := j_get C hin 0 29 rfl rfl (by decide) hlink rfl hdg kk
theorem ml_was (C : jC Ef X l d A cc nL Ts RX10 rm ret) {i : Int32} (j : Nat) (hi : i = nI j) (hj : j < 14000) (hdg : decode cc pc = .ok (.iaload, 1)) (kk : jJ X l d A nL cells slots (mW o q d m w) lv (pc + 1) (.int (m 29 j) :: st)) : jJ X l d A nL cells slots (mW o q d m w) lv pc (.int i :: .ref (q 29) :: st) := j_iald C 19 j rfl hi hj (by decide) hdg kk
theorem ms_was (C : jC Ef X l d A cc nL Ts RX10 rm ret) {i x : Int32} (j : Nat) (hi : i = nI j) (hj : j < 14000) (hdg : decode cc pc = .ok (.iastore, 1)) (kk : jJ X l d A nL cells slots (mW o q d (mu m 29 j x) w) lv (pc + 1) st) : jJ X l d A nL cells slots (mW o q d m w) lv pc (.int x :: .int i :: .ref (q 29) :: st) := j_iast C 19 j rfl hi hj (by decide) (ws2 := mW o q d (mu m 29 j x) w) rfl hdg kk
theorem mg_works (C : jC Ef X l d A cc nL Ts RX10 rm ret) (hin : ∀ w ∈ u_ws RX10 TX10 37, w ∈ Ts) (hlink : Cond.fieldLink RX10 163 RX10 "works" "I" ∈ Ts) (hdg : decode cc pc = .ok (.getfield 163, 3)) (kk : jJ X l d A nL cells slots (mW o q d m w) lv (pc + 3) (.int (m 30 0) :: st)) : jJ X l d A nL cells slots (mW o q d m w) lv pc (.ref o :: st) := j_get C hin 0 30 rfl rfl (by decide) hlink rfl hdg kk
theorem mp_works (C : jC Ef X l d A cc nL Ts RX10 rm ret) (hin : ∀ w ∈ u_ws RX10 TX10 37, w ∈ Ts) (hlink : Cond.fieldLink RX10 163 RX10 "works" "I" ∈ Ts) {v : Int32} (hdg : decode cc pc = .ok (.putfield 163, 3)) (kk : jJ X l d A nL cells slots (mW o q d (mu m 30 0 v) w) lv (pc + 3) st) : jJ X l d A nL cells slots (mW o q d m w) lv pc (.int v :: .ref o :: st) := j_put C hin tyX10_ok nmX10 0 30 rfl rfl (by decide) hlink rfl (ty := .int) rfl rfl rfl (by decide : 30 < 37) (ws2 := mW o q d (mu m 30 0 v) w) rfl hdg kk
theorem mg_people (C : jC Ef X l d A cc nL Ts RX10 rm ret) (hin : ∀ w ∈ u_ws RX10 TX10 37, w ∈ Ts) (hlink : Cond.fieldLink RX10 166 RX10 "people" "I" ∈ Ts) (hdg : decode cc pc = .ok (.getfield 166, 3)) (kk : jJ X l d A nL cells slots (mW o q d m w) lv (pc + 3) (.int (m 31 0) :: st)) : jJ X l d A nL cells slots (mW o q d m w) lv pc (.ref o :: st) := j_get C hin 0 31 rfl rfl (by decide) hlink rfl hdg kk
theorem mp_people (C : jC Ef X l d A cc nL Ts RX10 rm ret) (hin : ∀ w ∈ u_ws RX10 TX10 37, w ∈ Ts) (hlink : Cond.fieldLink RX10 166 RX10 "people" "I" ∈ Ts) {v : Int32} (hdg : decode cc pc = .ok (.putfield 166, 3)) (kk : jJ X l d A nL cells slots (mW o q d (mu m 31 0 v) w) lv (pc + 3) st) : jJ X l d A nL cells slots (mW o q d m w) lv pc (.int v :: .ref o :: st) := j_put C hin tyX10_ok nmX10 0 31 rfl rfl (by decide) hlink rfl (ty := .int) rfl rfl rfl (by decide : 31 < 37) (ws2 := mW o q d (mu m 31 0 v) w) rfl hdg kk
theorem mg_funds (C : jC Ef X l d A cc nL Ts RX10 rm ret) (hin : ∀ w ∈ u_ws RX10 TX10 37, w ∈ Ts) (hlink : Cond.fieldLink RX10 169 RX10 "funds" "I" ∈ Ts) (hdg : decode cc pc = .ok (.getfield 169, 3)) (kk : jJ X l d A nL cells slots (mW o q d m w) lv (pc + 3) (.int (m 32 0) :: st)) : jJ X l d A nL cells slots (mW o q d m w) lv pc (.ref o :: st) := j_get C hin 0 32 rfl rfl (by decide) hlink rfl hdg kk
theorem mp_funds (C : jC Ef X l d A cc nL Ts RX10 rm ret) (hin : ∀ w ∈ u_ws RX10 TX10 37, w ∈ Ts) (hlink : Cond.fieldLink RX10 169 RX10 "funds" "I" ∈ Ts) {v : Int32} (hdg : decode cc pc = .ok (.putfield 169, 3)) (kk : jJ X l d A nL cells slots (mW o q d (mu m 32 0 v) w) lv (pc + 3) st) : jJ X l d A nL cells slots (mW o q d m w) lv pc (.int v :: .ref o :: st) := j_put C hin tyX10_ok nmX10 0 32 rfl rfl (by decide) hlink rfl (ty := .int) rfl rfl rfl (by decide : 32 < 37) (ws2 := mW o q d (mu m 32 0 v) w) rfl hdg kk
theorem mg_round (C : jC Ef X l d A cc nL Ts RX10 rm ret) (hin : ∀ w ∈ u_ws RX10 TX10 37, w ∈ Ts) (hlink : Cond.fieldLink RX10 182 RX10 "round" "I" ∈ Ts) (hdg : decode cc pc = .ok (.getfield 182, 3)) (kk : jJ X l d A nL cells slots (mW o q d m w) lv (pc + 3) (.int (m 33 0) :: st)) : jJ X l d A nL cells slots (mW o q d m w) lv pc (.ref o :: st) := j_get C hin 0 33 rfl rfl (by decide) hlink rfl hdg kk
theorem mp_round (C : jC Ef X l d A cc nL Ts RX10 rm ret) (hin : ∀ w ∈ u_ws RX10 TX10 37, w ∈ Ts) (hlink : Cond.fieldLink RX10 182 RX10 "round" "I" ∈ Ts) {v : Int32} (hdg : decode cc pc = .ok (.putfield 182, 3)) (kk : jJ X l d A nL cells slots (mW o q d (mu m 33 0 v) w) lv (pc + 3) st) : jJ X l d A nL cells slots (mW o q d m w) lv pc (.int v :: .ref o :: st) := j_put C hin tyX10_ok nmX10 0 33 rfl rfl (by decide) hlink rfl (ty := .int) rfl rfl rfl (by decide : 33 < 37) (ws2 := mW o q d (mu m 33 0 v) w) rfl hdg kk
theorem mg_soldAll (C : jC Ef X l d A cc nL Ts RX10 rm ret) (hin : ∀ w ∈ u_ws RX10 TX10 37, w ∈ Ts) (hlink : Cond.fieldLink RX10 204 RX10 "soldAll" "I" ∈ Ts) (hdg : decode cc pc = .ok (.getfield 204, 3)) (kk : jJ X l d A nL cells slots (mW o q d m w) lv (pc + 3) (.int (m 34 0) :: st)) : jJ X l d A nL cells slots (mW o q d m w) lv pc (.ref o :: st) := j_get C hin 0 34 rfl rfl (by decide) hlink rfl hdg kk
theorem mp_soldAll (C : jC Ef X l d A cc nL Ts RX10 rm ret) (hin : ∀ w ∈ u_ws RX10 TX10 37, w ∈ Ts) (hlink : Cond.fieldLink RX10 204 RX10 "soldAll" "I" ∈ Ts) {v : Int32} (hdg : decode cc pc = .ok (.putfield 204, 3)) (kk : jJ X l d A nL cells slots (mW o q d (mu m 34 0 v) w) lv (pc + 3) st) : jJ X l d A nL cells slots (mW o q d m w) lv pc (.int v :: .ref o :: st) := j_put C hin tyX10_ok nmX10 0 34 rfl rfl (by decide) hlink rfl (ty := .int) rfl rfl rfl (by decide : 34 < 37) (ws2 := mW o q d (mu m 34 0 v) w) rfl hdg kk
theorem mg_wants (C : jC Ef X l d A cc nL Ts RX10 rm ret) (hin : ∀ w ∈ u_ws RX10 TX10 37, w ∈ Ts) (hlink : Cond.fieldLink RX10 67 RX10 "wants" "[I" ∈ Ts) (hdg : decode cc pc = .ok (.getfield 67, 3)) (kk : jJ X l d A nL cells slots (mW o q d m w) lv (pc + 3) (.ref (q 35) :: st)) : jJ X l d A nL cells slots (mW o q d m w) lv pc (.ref o :: st) := j_get C hin 0 35 rfl rfl (by decide) hlink rfl hdg kk
theorem ml_wants (C : jC Ef X l d A cc nL Ts RX10 rm ret) {i : Int32} (j : Nat) (hi : i = nI j) (hj : j < 28) (hdg : decode cc pc = .ok (.iaload, 1)) (kk : jJ X l d A nL cells slots (mW o q d m w) lv (pc + 1) (.int (m 35 j) :: st)) : jJ X l d A nL cells slots (mW o q d m w) lv pc (.int i :: .ref (q 35) :: st) := j_iald C 20 j rfl hi hj (by decide) hdg kk
theorem ms_wants (C : jC Ef X l d A cc nL Ts RX10 rm ret) {i x : Int32} (j : Nat) (hi : i = nI j) (hj : j < 28) (hdg : decode cc pc = .ok (.iastore, 1)) (kk : jJ X l d A nL cells slots (mW o q d (mu m 35 j x) w) lv (pc + 1) st) : jJ X l d A nL cells slots (mW o q d m w) lv pc (.int x :: .int i :: .ref (q 35) :: st) := j_iast C 20 j rfl hi hj (by decide) (ws2 := mW o q d (mu m 35 j x) w) rfl hdg kk
theorem mg_gets (C : jC Ef X l d A cc nL Ts RX10 rm ret) (hin : ∀ w ∈ u_ws RX10 TX10 37, w ∈ Ts) (hlink : Cond.fieldLink RX10 70 RX10 "gets" "[I" ∈ Ts) (hdg : decode cc pc = .ok (.getfield 70, 3)) (kk : jJ X l d A nL cells slots (mW o q d m w) lv (pc + 3) (.ref (q 36) :: st)) : jJ X l d A nL cells slots (mW o q d m w) lv pc (.ref o :: st) := j_get C hin 0 36 rfl rfl (by decide) hlink rfl hdg kk
theorem ml_gets (C : jC Ef X l d A cc nL Ts RX10 rm ret) {i : Int32} (j : Nat) (hi : i = nI j) (hj : j < 28) (hdg : decode cc pc = .ok (.iaload, 1)) (kk : jJ X l d A nL cells slots (mW o q d m w) lv (pc + 1) (.int (m 36 j) :: st)) : jJ X l d A nL cells slots (mW o q d m w) lv pc (.int i :: .ref (q 36) :: st) := j_iald C 21 j rfl hi hj (by decide) hdg kk
theorem ms_gets (C : jC Ef X l d A cc nL Ts RX10 rm ret) {i x : Int32} (j : Nat) (hi : i = nI j) (hj : j < 28) (hdg : decode cc pc = .ok (.iastore, 1)) (kk : jJ X l d A nL cells slots (mW o q d (mu m 36 j x) w) lv (pc + 1) st) : jJ X l d A nL cells slots (mW o q d m w) lv pc (.int x :: .int i :: .ref (q 36) :: st) := j_iast C 21 j rfl hi hj (by decide) (ws2 := mW o q d (mu m 36 j x) w) rfl hdg kk
end MROWS
end
section
/-! small things of the reference: answers of its tests and reads -/
def bI (p : Prop) [Decidable p] : Int32 := if p then 1 else 0
theorem bI_0 {p : Prop} [Decidable p] : bI p = 0 ↔ ¬ p := by unfold bI; by_cases h : p <;> simp [h]
theorem bI_n0 {p : Prop} [Decidable p] : ¬ bI p = 0 ↔ p := by unfold bI; by_cases h : p <;> simp [h]
theorem bI_t {p : Prop} [Decidable p] (h : p) : 1 = bI p := by simp [bI, h]
theorem bI_f {p : Prop} [Decidable p] (h : ¬ p) : 0 = bI p := by simp [bI, h]
theorem i_nlt {a b : Int32} : ¬ a < b ↔ b ≤ a := Int32.not_lt
theorem i_nle {a b : Int32} : ¬ a ≤ b ↔ b < a := Int32.not_le
theorem nI_in2 {x : Int32} {n : Nat} (h0 : 0 ≤ x) (h1 : x < nI n) (hn : n < 2 ^ 31) : ∃ j : Nat, j < n ∧ x = nI j := by
  obtain ⟨j, hj, rfl⟩ := nI_of (Int32.not_lt.mpr h0)
  exact ⟨j, (nI_ltI hj hn).mp h1, rfl⟩
theorem ix10 (b w : Nat) : (10 : Int32) * nI b + nI w = nI (10 * b + w) := by rw [show (10 : Int32) = nI 10 from rfl, pk_mul, nI_add]
theorem ix50 (b w : Nat) : (50 : Int32) * nI b + nI w = nI (50 * b + w) := by rw [show (50 : Int32) = nI 50 from rfl, pk_mul, nI_add]
theorem ix4 (b w : Nat) : (4 : Int32) * nI b + nI w = nI (4 * b + w) := by rw [show (4 : Int32) = nI 4 from rfl, pk_mul, nI_add]
theorem ix280 (b w : Nat) : (280 : Int32) * nI b + nI w = nI (280 * b + w) := by rw [show (280 : Int32) = nI 280 from rfl, pk_mul, nI_add]
theorem ix280b (r b w : Nat) : (280 : Int32) * nI r + (10 : Int32) * nI b + nI w = nI (280 * r + 10 * b + w) := by rw [show (280 : Int32) = nI 280 from rfl, show (10 : Int32) = nI 10 from rfl, pk_mul, pk_mul, nI_add, nI_add]
theorem ixm24 (b : Nat) (h : 24 ≤ b) : nI b - (24 : Int32) = nI (b - 24) := pk_sub (a := b) (b := 24) h
abbrev isW (m : Nat → Nat → Int32) (w : Int32) : Prop := 0 ≤ w ∧ w < m 30 0
abbrev isP (m : Nat → Nat → Int32) (b : Int32) : Prop := 0 ≤ b ∧ b < m 31 0
abbrev isF (m : Nat → Nat → Int32) (b : Int32) : Prop := 24 ≤ b ∧ b < 24 + m 32 0
abbrev isB (m : Nat → Nat → Int32) (b : Int32) : Prop := isP m b ∨ isF m b
abbrev isR (m : Nat → Nat → Int32) (r : Int32) : Prop := 0 ≤ r ∧ r ≤ m 33 0
theorem isW_nI {m : Nat → Nat → Int32} {w : Int32} {n : Nat} (hn : m 30 0 = nI n) (h10 : n ≤ 10) (h : isW m w) : ∃ j : Nat, j < n ∧ w = nI j := nI_in2 h.1 (by rw [← hn]; exact h.2) (by omega)
theorem isP_nI {m : Nat → Nat → Int32} {w : Int32} {n : Nat} (hn : m 31 0 = nI n) (h10 : n ≤ 24) (h : isP m w) : ∃ j : Nat, j < n ∧ w = nI j := nI_in2 h.1 (by rw [← hn]; exact h.2) (by omega)
theorem isF_nI {m : Nat → Nat → Int32} {w : Int32} {n : Nat} (hn : m 32 0 = nI n) (h4 : n ≤ 4) (h : isF m w) : ∃ j : Nat, 24 ≤ j ∧ j < 24 + n ∧ w = nI j := by
  obtain ⟨h1, h2⟩ := h
  rw [hn, show (24 : Int32) = nI 24 from rfl, nI_add] at h2
  obtain ⟨j, hj, rfl⟩ := nI_in2 (Int32.le_trans (by decide) h1) h2 (by omega)
  exact ⟨j, (nI_leI (by omega) (by omega)).mp (show nI 24 ≤ nI j from h1), hj, rfl⟩
theorem isB_nI {m : Nat → Nat → Int32} {b : Int32} {nP nF : Nat} (hP : m 31 0 = nI nP) (hp : nP ≤ 24) (hF : m 32 0 = nI nF) (hf : nF ≤ 4) (h : isB m b) : ∃ j : Nat, j < 28 ∧ (j < nP ∨ 24 ≤ j ∧ j < 24 + nF) ∧ b = nI j := by
  rcases h with h | h
  · obtain ⟨j, h1, rfl⟩ := isP_nI hP hp h
    exact ⟨j, by omega, Or.inl h1, rfl⟩
  · obtain ⟨j, h1, h2, rfl⟩ := isF_nI hF hf h
    exact ⟨j, by omega, Or.inr ⟨h1, h2⟩, rfl⟩
theorem isR_nI {m : Nat → Nat → Int32} {r : Int32} {n : Nat} (hn : m 33 0 = nI n) (h10 : n ≤ 49) (h : isR m r) : ∃ j : Nat, j ≤ n ∧ r = nI j := by
  obtain ⟨j, hj, rfl⟩ := nI_of (Int32.not_lt.mpr h.1)
  exact ⟨j, by have := h.2; rw [hn] at this; exact (nI_leI hj (by omega)).mp this, rfl⟩

set_option maxHeartbeats 4000000 in
set_option maxRecDepth 100000 in
theorem cm_isIn (l : Launch) (d : jD) (ws : va_W) (v a b : Int32) : jMi noE d l yX10_isIn wsX10_isIn ({ frames := 0, cells := 0, slots := 0, locals := 0 } : Room) 0 0 [.int v, .int a, .int b] ws (fun r u => r = bI (a ≤ v ∧ v ≤ b) ∧ u = ws) := by
  refine jMi.mk noE_k (by decide) rfl (Nat.le_of_ble_eq_true rfl) (fun X A C hQ => ?_)
  refine j_lvq (lv2 := [(0, .int v), (1, .int a), (2, .int b)]) rfl ?_
  refine j_iload_n C 0 dX10_isIn_0 rfl rfl ?_
  refine j_iload_n C 1 dX10_isIn_1 rfl rfl ?_
  refine j_icmp_lt C 14 dX10_isIn_2 (by decide) (fun c2 => ?_) (fun c2 => ?_)
  · refine j_iconst C 0 dX10_isIn_14 (by decide) ?_
    exact j_zret C hQ rfl dX10_isIn_15 (⟨bI_f (fun h => absurd h.1 (i_nle.mpr c2)), rfl⟩)
  · refine j_iload_n C 0 dX10_isIn_5 rfl rfl ?_
    refine j_iload_n C 2 dX10_isIn_6 rfl rfl ?_
    refine j_icmp_gt C 14 dX10_isIn_7 (by decide) (fun c7 => ?_) (fun c7 => ?_)
    · refine j_iconst C 0 dX10_isIn_14 (by decide) ?_
      exact j_zret C hQ rfl dX10_isIn_15 (⟨bI_f (fun h => absurd h.2 (i_nle.mpr c7)), rfl⟩)
    · refine j_iconst C 1 dX10_isIn_10 (by decide) ?_
      refine j_goto C 15 dX10_isIn_11 (by decide) ?_
      exact j_zret C hQ rfl dX10_isIn_15 (⟨bI_t ⟨i_nlt.mp c2, i_nlt.mp c7⟩, rfl⟩)

set_option maxHeartbeats 4000000 in
set_option maxRecDepth 100000 in
theorem cm_isWork (l : Launch) (d : jD) (o : Nat) (q : Nat → Nat) (m : Nat → Nat → Int32) (w : Int64) (x : Int32) : jMi noE d l yX10_isWork wsX10_isWork ({ frames := 0, cells := 0, slots := 0, locals := 0 } : Room) 0 0 [.ref o, .int x] (mW o q d m w) (fun r u => r = bI (isW m x) ∧ u = mW o q d m w) := by
  refine jMi.mk noE_k (by decide) rfl (Nat.le_of_ble_eq_true rfl) (fun X A C hQ => ?_)
  have hin : ∀ w ∈ u_ws RX10 TX10 37, w ∈ wsX10_isWork := fun w h => List.mem_cons_of_mem _ (List.mem_append_right _ h)
  refine j_lvq (lv2 := [(0, .ref o), (1, .int x)]) rfl ?_
  refine j_iload_n C 1 dX10_isWork_0 rfl rfl ?_
  refine j_if_lt C 16 dX10_isWork_1 (by decide) (fun c1 => ?_) (fun c1 => ?_)
  · refine j_iconst C 0 dX10_isWork_16 (by decide) ?_
    exact j_zret C hQ rfl dX10_isWork_17 (⟨bI_f (fun h => absurd h.1 (i_nle.mpr c1)), rfl⟩)
  · refine j_iload_n C 1 dX10_isWork_4 rfl rfl ?_
    refine j_aload_n C 0 dX10_isWork_5 rfl rfl ?_
    refine mg_works C hin (by decide +kernel) dX10_isWork_6 ?_
    refine j_icmp_ge C 16 dX10_isWork_9 (by decide) (fun c9 => ?_) (fun c9 => ?_)
    · refine j_iconst C 0 dX10_isWork_16 (by decide) ?_
      exact j_zret C hQ rfl dX10_isWork_17 (⟨bI_f (fun h => absurd h.2 (i_nlt.mpr c9)), rfl⟩)
    · refine j_iconst C 1 dX10_isWork_12 (by decide) ?_
      refine j_goto C 17 dX10_isWork_13 (by decide) ?_
      exact j_zret C hQ rfl dX10_isWork_17 (⟨bI_t ⟨i_nlt.mp c1, i_nle.mp c9⟩, rfl⟩)

set_option maxHeartbeats 4000000 in
set_option maxRecDepth 100000 in
theorem cm_isPerson (l : Launch) (d : jD) (o : Nat) (q : Nat → Nat) (m : Nat → Nat → Int32) (w : Int64) (x : Int32) : jMi noE d l yX10_isPerson wsX10_isPerson ({ frames := 0, cells := 0, slots := 0, locals := 0 } : Room) 0 0 [.ref o, .int x] (mW o q d m w) (fun r u => r = bI (isP m x) ∧ u = mW o q d m w) := by
  refine jMi.mk noE_k (by decide) rfl (Nat.le_of_ble_eq_true rfl) (fun X A C hQ => ?_)
  have hin : ∀ w ∈ u_ws RX10 TX10 37, w ∈ wsX10_isPerson := fun w h => List.mem_cons_of_mem _ (List.mem_append_right _ h)
  refine j_lvq (lv2 := [(0, .ref o), (1, .int x)]) rfl ?_
  refine j_iload_n C 1 dX10_isPerson_0 rfl rfl ?_
  refine j_if_lt C 16 dX10_isPerson_1 (by decide) (fun c1 => ?_) (fun c1 => ?_)
  · refine j_iconst C 0 dX10_isPerson_16 (by decide) ?_
    exact j_zret C hQ rfl dX10_isPerson_17 (⟨bI_f (fun h => absurd h.1 (i_nle.mpr c1)), rfl⟩)
  · refine j_iload_n C 1 dX10_isPerson_4 rfl rfl ?_
    refine j_aload_n C 0 dX10_isPerson_5 rfl rfl ?_
    refine mg_people C hin (by decide +kernel) dX10_isPerson_6 ?_
    refine j_icmp_ge C 16 dX10_isPerson_9 (by decide) (fun c9 => ?_) (fun c9 => ?_)
    · refine j_iconst C 0 dX10_isPerson_16 (by decide) ?_
      exact j_zret C hQ rfl dX10_isPerson_17 (⟨bI_f (fun h => absurd h.2 (i_nlt.mpr c9)), rfl⟩)
    · refine j_iconst C 1 dX10_isPerson_12 (by decide) ?_
      refine j_goto C 17 dX10_isPerson_13 (by decide) ?_
      exact j_zret C hQ rfl dX10_isPerson_17 (⟨bI_t ⟨i_nlt.mp c1, i_nle.mp c9⟩, rfl⟩)

set_option maxHeartbeats 4000000 in
set_option maxRecDepth 100000 in
theorem cm_isFund (l : Launch) (d : jD) (o : Nat) (q : Nat → Nat) (m : Nat → Nat → Int32) (w : Int64) (x : Int32) : jMi noE d l yX10_isFund wsX10_isFund ({ frames := 0, cells := 0, slots := 0, locals := 0 } : Room) 0 0 [.ref o, .int x] (mW o q d m w) (fun r u => r = bI (isF m x) ∧ u = mW o q d m w) := by
  refine jMi.mk noE_k (by decide) rfl (Nat.le_of_ble_eq_true rfl) (fun X A C hQ => ?_)
  have hin : ∀ w ∈ u_ws RX10 TX10 37, w ∈ wsX10_isFund := fun w h => List.mem_cons_of_mem _ (List.mem_append_right _ h)
  refine j_lvq (lv2 := [(0, .ref o), (1, .int x)]) rfl ?_
  refine j_iload_n C 1 dX10_isFund_0 rfl rfl ?_
  refine j_bipush C 24 dX10_isFund_1 (by decide) ?_
  refine j_icmp_lt C 21 dX10_isFund_3 (by decide) (fun c3 => ?_) (fun c3 => ?_)
  · refine j_iconst C 0 dX10_isFund_21 (by decide) ?_
    exact j_zret C hQ rfl dX10_isFund_22 (⟨bI_f (fun h => absurd h.1 (i_nle.mpr c3)), rfl⟩)
  · refine j_iload_n C 1 dX10_isFund_6 rfl rfl ?_
    refine j_bipush C 24 dX10_isFund_7 (by decide) ?_
    refine j_aload_n C 0 dX10_isFund_9 rfl rfl ?_
    refine mg_funds C hin (by decide +kernel) dX10_isFund_10 ?_
    refine j_iadd C dX10_isFund_13 ?_
    refine j_icmp_ge C 21 dX10_isFund_14 (by decide) (fun c14 => ?_) (fun c14 => ?_)
    · refine j_iconst C 0 dX10_isFund_21 (by decide) ?_
      exact j_zret C hQ rfl dX10_isFund_22 (⟨bI_f (fun h => absurd h.2 (i_nlt.mpr c14)), rfl⟩)
    · refine j_iconst C 1 dX10_isFund_17 (by decide) ?_
      refine j_goto C 22 dX10_isFund_18 (by decide) ?_
      exact j_zret C hQ rfl dX10_isFund_22 (⟨bI_t ⟨i_nlt.mp c3, i_nle.mp c14⟩, rfl⟩)

set_option maxHeartbeats 4000000 in
set_option maxRecDepth 100000 in
theorem cm_isRound (l : Launch) (d : jD) (o : Nat) (q : Nat → Nat) (m : Nat → Nat → Int32) (w : Int64) (x : Int32) : jMi noE d l yX10_isRound wsX10_isRound ({ frames := 0, cells := 0, slots := 0, locals := 0 } : Room) 0 0 [.ref o, .int x] (mW o q d m w) (fun r u => r = bI (isR m x) ∧ u = mW o q d m w) := by
  refine jMi.mk noE_k (by decide) rfl (Nat.le_of_ble_eq_true rfl) (fun X A C hQ => ?_)
  have hin : ∀ w ∈ u_ws RX10 TX10 37, w ∈ wsX10_isRound := fun w h => List.mem_cons_of_mem _ (List.mem_append_right _ h)
  refine j_lvq (lv2 := [(0, .ref o), (1, .int x)]) rfl ?_
  refine j_iload_n C 1 dX10_isRound_0 rfl rfl ?_
  refine j_if_lt C 16 dX10_isRound_1 (by decide) (fun c1 => ?_) (fun c1 => ?_)
  · refine j_iconst C 0 dX10_isRound_16 (by decide) ?_
    exact j_zret C hQ rfl dX10_isRound_17 (⟨bI_f (fun h => absurd h.1 (i_nle.mpr c1)), rfl⟩)
  · refine j_iload_n C 1 dX10_isRound_4 rfl rfl ?_
    refine j_aload_n C 0 dX10_isRound_5 rfl rfl ?_
    refine mg_round C hin (by decide +kernel) dX10_isRound_6 ?_
    refine j_icmp_gt C 16 dX10_isRound_9 (by decide) (fun c9 => ?_) (fun c9 => ?_)
    · refine j_iconst C 0 dX10_isRound_16 (by decide) ?_
      exact j_zret C hQ rfl dX10_isRound_17 (⟨bI_f (fun h => absurd h.2 (i_nle.mpr c9)), rfl⟩)
    · refine j_iconst C 1 dX10_isRound_12 (by decide) ?_
      refine j_goto C 17 dX10_isRound_13 (by decide) ?_
      exact j_zret C hQ rfl dX10_isRound_17 (⟨bI_t ⟨i_nlt.mp c1, i_nlt.mp c9⟩, rfl⟩)

set_option maxHeartbeats 4000000 in
set_option maxRecDepth 100000 in
theorem cm_isBidder (l : Launch) (d : jD) (o : Nat) (q : Nat → Nat) (m : Nat → Nat → Int32) (w : Int64) (x : Int32) : jMi noE d l yX10_isBidder wsX10_isBidder ({ frames := 1, cells := 0, slots := 0, locals := 21 } : Room) 0 0 [.ref o, .int x] (mW o q d m w) (fun r u => r = bI (isB m x) ∧ u = mW o q d m w) := by
  refine jMi.mk noE_k (by decide) rfl (Nat.le_of_ble_eq_true rfl) (fun X A C hQ => ?_)
  have hin : ∀ w ∈ u_ws RX10 TX10 37, w ∈ wsX10_isBidder := fun w h => List.mem_cons_of_mem _ (List.mem_append_right _ h)
  refine j_lvq (lv2 := [(0, .ref o), (1, .int x)]) rfl ?_
  refine j_aload_n C 0 dX10_isBidder_0 rfl rfl ?_
  refine j_iload_n C 1 dX10_isBidder_1 rfl rfl ?_
  refine j_callV_i C 1 0 (cm_isPerson l d o q m w x) rfl rfl gX10_isBidder_X10_isPerson rfl rfl rfl (by decide +kernel) ⟨(Nat.le_of_ble_eq_true rfl), (Nat.le_of_ble_eq_true rfl)⟩ ⟨(Nat.le_of_ble_eq_true rfl), (Nat.le_of_ble_eq_true rfl)⟩ rfl rfl (Nat.le_of_ble_eq_true rfl) dX10_isBidder_2 (fun r2 u2 h2 => ?_)
  obtain ⟨rfl, rfl⟩ := h2
  refine j_if_ne C 16 dX10_isBidder_5 (by decide) (fun c5 => ?_) (fun c5 => ?_)
  · refine j_iconst C 1 dX10_isBidder_16 (by decide) ?_
    refine j_goto C 21 dX10_isBidder_17 (by decide) ?_
    exact j_zret C hQ rfl dX10_isBidder_21 (⟨bI_t (Or.inl (bI_n0.mp c5)), rfl⟩)
  · refine j_aload_n C 0 dX10_isBidder_8 rfl rfl ?_
    refine j_iload_n C 1 dX10_isBidder_9 rfl rfl ?_
    refine j_callV_i C 1 0 (cm_isFund l d o q m w x) rfl rfl gX10_isBidder_X10_isFund rfl rfl rfl (by decide +kernel) ⟨(Nat.le_of_ble_eq_true rfl), (Nat.le_of_ble_eq_true rfl)⟩ ⟨(Nat.le_of_ble_eq_true rfl), (Nat.le_of_ble_eq_true rfl)⟩ rfl rfl (Nat.le_of_ble_eq_true rfl) dX10_isBidder_10 (fun r10 u10 h10 => ?_)
    obtain ⟨rfl, rfl⟩ := h10
    refine j_if_eq C 20 dX10_isBidder_13 (by decide) (fun c13 => ?_) (fun c13 => ?_)
    · refine j_iconst C 0 dX10_isBidder_20 (by decide) ?_
      exact j_zret C hQ rfl dX10_isBidder_21 (⟨bI_f (fun h => h.elim (bI_0.mp c5) (bI_0.mp c13)), rfl⟩)
    · refine j_iconst C 1 dX10_isBidder_16 (by decide) ?_
      refine j_goto C 21 dX10_isBidder_17 (by decide) ?_
      exact j_zret C hQ rfl dX10_isBidder_21 (⟨bI_t (Or.inr (bI_n0.mp c13)), rfl⟩)

set_option maxHeartbeats 4000000 in
set_option maxRecDepth 100000 in
theorem cm_thrown (l : Launch) (d : jD) (o : Nat) (q : Nat → Nat) (m : Nat → Nat → Int32) (w : Int64) : jMi noE d l yX10_thrown wsX10_thrown ({ frames := 0, cells := 0, slots := 0, locals := 0 } : Room) 0 0 [.ref o] (mW o q d m w) (fun r u => r = m 0 0 ∧ u = mW o q d m w) := by
  refine jMi.mk noE_k (by decide) rfl (Nat.le_of_ble_eq_true rfl) (fun X A C hQ => ?_)
  have hin : ∀ w ∈ u_ws RX10 TX10 37, w ∈ wsX10_thrown := fun w h => List.mem_cons_of_mem _ (List.mem_append_right _ h)
  refine j_lvq (lv2 := [(0, .ref o)]) rfl ?_
  refine j_aload_n C 0 dX10_thrown_0 rfl rfl ?_
  refine mg_thrown C hin (by decide +kernel) dX10_thrown_1 ?_
  exact j_iret C hQ dX10_thrown_4 (⟨rfl, rfl⟩)

set_option maxHeartbeats 4000000 in
set_option maxRecDepth 100000 in
theorem cm_refuse (l : Launch) (d : jD) (o : Nat) (q : Nat → Nat) (m : Nat → Nat → Int32) (w : Int64) : jMi noE d l yX10_refuse wsX10_refuse ({ frames := 0, cells := 0, slots := 0, locals := 0 } : Room) 0 0 [.ref o] (mW o q d m w) (fun r u => r = 0 ∧ u = mW o q d (mu m 0 0 1) w) := by
  refine jMi.mk noE_k (by decide) rfl (Nat.le_of_ble_eq_true rfl) (fun X A C hQ => ?_)
  have hin : ∀ w ∈ u_ws RX10 TX10 37, w ∈ wsX10_refuse := fun w h => List.mem_cons_of_mem _ (List.mem_append_right _ h)
  refine j_lvq (lv2 := [(0, .ref o)]) rfl ?_
  refine j_aload_n C 0 dX10_refuse_0 rfl rfl ?_
  refine j_iconst C 1 dX10_refuse_1 (by decide) ?_
  refine mp_thrown C hin (by decide +kernel) dX10_refuse_2 ?_
  refine j_iconst C 0 dX10_refuse_5 (by decide) ?_
  exact j_iret C hQ dX10_refuse_6 (⟨rfl, rfl⟩)

set_option maxHeartbeats 4000000 in
set_option maxRecDepth 100000 in
theorem cm_fault (l : Launch) (d : jD) (o : Nat) (q : Nat → Nat) (m : Nat → Nat → Int32) (w : Int64) : jMi noE d l yX10_fault wsX10_fault ({ frames := 0, cells := 0, slots := 0, locals := 0 } : Room) 0 0 [.ref o] (mW o q d m w) (fun r u => r = m 13 0 ∧ u = mW o q d (mu m 0 0 0) w) := by
  refine jMi.mk noE_k (by decide) rfl (Nat.le_of_ble_eq_true rfl) (fun X A C hQ => ?_)
  have hin : ∀ w ∈ u_ws RX10 TX10 37, w ∈ wsX10_fault := fun w h => List.mem_cons_of_mem _ (List.mem_append_right _ h)
  refine j_lvq (lv2 := [(0, .ref o)]) rfl ?_
  refine j_aload_n C 0 dX10_fault_0 rfl rfl ?_
  refine j_iconst C 0 dX10_fault_1 (by decide) ?_
  refine mp_thrown C hin (by decide +kernel) dX10_fault_2 ?_
  refine j_aload_n C 0 dX10_fault_5 rfl rfl ?_
  refine mg_fault C hin (by decide +kernel) dX10_fault_6 ?_
  refine j_st (st2 := [.int (m 13 0)]) rfl ?_
  exact j_iret C hQ dX10_fault_9 (⟨rfl, rfl⟩)

/-- what the first n WORKS' BIDS of b cost -/
def mCost (m : Nat → Nat → Int32) (b : Nat) : Nat → Int32
  | 0 => 0
  | n + 1 => mCost m b n + m 27 (10 * b + n) * m 19 n

set_option maxHeartbeats 4000000 in
set_option maxRecDepth 100000 in
theorem cm_costs (l : Launch) (d : jD) (o : Nat) (q : Nat → Nat) (m : Nat → Nat → Int32) (w : Int64) (b nW : Nat) (hb : b < 28) (hW : m 30 0 = nI nW) (hn : nW ≤ 10) : jMi noE d l yX10_costs wsX10_costs ({ frames := 0, cells := 0, slots := 0, locals := 0 } : Room) 0 0 [.ref o, .int (nI b)] (mW o q d m w) (fun r u => r = mCost m b nW ∧ u = mW o q d m w) := by
  refine jMi.mk noE_k (by decide) rfl (Nat.le_of_ble_eq_true rfl) (fun X A C hQ => ?_)
  have hin : ∀ w ∈ u_ws RX10 TX10 37, w ∈ wsX10_costs := fun w h => List.mem_cons_of_mem _ (List.mem_append_right _ h)
  refine j_lvq (lv2 := [(0, .ref o), (1, .int (nI b))]) rfl ?_
  have loop : ∀ n i : Nat, i ≤ nW → nW - i < n → jJ X l d A 4 0 0 (mW o q d m w) [(0, .ref o), (1, .int (nI b)), (2, .int (mCost m b i)), (3, .int (nI i))] 4 [] := by
    intro n
    induction n with
    | zero => intro i _ h; exact absurd h (Nat.not_lt_zero _)
    | succ n ih =>
      intro i hi hn
      refine j_iload_n C 3 dX10_costs_4 rfl rfl ?_
      refine j_aload_n C 0 dX10_costs_5 rfl rfl ?_
      refine mg_works C hin (by decide +kernel) dX10_costs_6 ?_
      refine j_icmp_ge C 39 dX10_costs_9 (by decide) (fun c9 => ?_) (fun c9 => ?_)
      · have c9 : nW ≤ i := (nI_leI (by omega) (by omega)).mp (by rw [← hW]; exact c9)
        refine j_iload_n C 2 dX10_costs_39 rfl rfl ?_
        exact j_iret C hQ dX10_costs_40 (⟨by rw [show i = nW by omega], rfl⟩)
      · have c9 : i < nW := Nat.not_le.mp (fun h => c9 (by rw [hW]; exact (nI_leI (by omega) (by omega)).mpr h))
        refine j_iload_n C 2 dX10_costs_12 rfl rfl ?_
        refine j_aload_n C 0 dX10_costs_13 rfl rfl ?_
        refine mg_asked C hin (by decide +kernel) dX10_costs_14 ?_
        refine j_bipush C 10 dX10_costs_17 (by decide) ?_
        refine j_iload_n C 1 dX10_costs_19 rfl rfl ?_
        refine j_imul C dX10_costs_20 ?_
        refine j_iload_n C 3 dX10_costs_21 rfl rfl ?_
        refine j_iadd C dX10_costs_22 ?_
        refine ml_asked C (10 * b + i) (ix10 b i) (by omega) dX10_costs_23 ?_
        refine j_aload_n C 0 dX10_costs_24 rfl rfl ?_
        refine mg_price C hin (by decide +kernel) dX10_costs_25 ?_
        refine j_iload_n C 3 dX10_costs_28 rfl rfl ?_
        refine ml_price C i rfl (by omega) dX10_costs_29 ?_
        refine j_imul C dX10_costs_30 ?_
        refine j_iadd C dX10_costs_31 ?_
        refine j_istore_n C [(0, .ref o), (1, .int (nI b)), (2, .int ((mCost m b i) + ((m 27 (10 * b + i)) * (m 19 i)))), (3, .int (nI i))] [1, 2, 0, 3] dX10_costs_32 rfl (by decide) rfl ?_
        refine j_iinc C (nI (i + 1)) [(0, .ref o), (1, .int (nI b)), (2, .int ((mCost m b i) + ((m 27 (10 * b + i)) * (m 19 i)))), (3, .int (nI (i + 1)))] 3 [1, 2, 3, 0] dX10_costs_33 rfl (nI_1 i) (by decide) rfl ?_
        refine j_goto C 4 dX10_costs_36 (by decide) ?_
        exact ih (i + 1) (by omega) (by omega)
  refine j_iconst C 0 dX10_costs_0 (by decide) ?_
  refine j_istore_n C [(0, .ref o), (1, .int (nI b)), (2, .int 0)] [1, 2, 0] dX10_costs_1 rfl (by decide) rfl ?_
  refine j_iconst C 0 dX10_costs_2 (by decide) ?_
  refine j_istore_n C [(0, .ref o), (1, .int (nI b)), (2, .int 0), (3, .int 0)] [1, 2, 3, 0] dX10_costs_3 rfl (by decide) rfl ?_
  exact loop _ 0 (Nat.zero_le _) (Nat.lt_succ_self _)
end

/-! the facts that stay, at the law's entry -/
def tmK (i : Nat) : Term := .string "CouponSale$Rule" (([59, 65, 68, 71, 74, 77] : List Nat).getD i 0)
theorem six {P : Nat → Prop} (h0 : P 0) (h1 : P 1) (h2 : P 2) (h3 : P 3) (h4 : P 4) (h5 : P 5) : ∀ i, i < 6 → P i := fun i hi => by
  match i, hi with
  | 0, _ => exact h0
  | 1, _ => exact h1
  | 2, _ => exact h2
  | 3, _ => exact h3
  | 4, _ => exact h4
  | 5, _ => exact h5
abbrev rST (i : Nat) : Term := .static RX5 (ruleNm.getD i "") "LCouponSale$Rule;"
section START
variable {args : Array Value} {s : State}
theorem st_nest (hts : ∀ w ∈ lw_tbl, w.before args s = true) : ∀ w ∈ nestW, va_Nw w s := by
  intro w hw
  have h1 : ∀ w ∈ nestW, w ∈ lw_tbl := by decide +kernel
  have h2 : nestW.all (fun w => w.onTables) = true := by decide +kernel
  exact va_Nw.of (List.all_eq_true.mp h2 w hw) (hts w (h1 w hw))
theorem st_nse (hts : ∀ w ∈ lw_tbl, w.before args s = true) : ∀ w ∈ nseB, va_Nw w s := by
  intro w hw
  have h1 : ∀ w ∈ nseB, w ∈ lw_tbl := by decide +kernel
  exact va_Nw.of (nse_ob w hw) (hts w (h1 w hw))
set_option maxRecDepth 100000 in
set_option maxHeartbeats 4000000 in
theorem st_En {A : Nat → Prop} (hts : ∀ w ∈ lw_tbl, w.before args s = true) (hg : (Jvm.Cond.and given_1 narrow_1).before args s = true) (hA : ∀ a : Nat, a < s.heap.size → ¬ A a) : ∃ ad : Nat → Nat, va_En RX5 "LCouponSale$Rule;" ruleNm ruleF ad A s s.heap ∧ ∀ i, i < ruleNm.length → (rST i).eval args s none [] s = some (.ref (ad i)) := by
  have fl := flat_of_before _ hg
  refine va_Enof2 ?_ (hts _ (by decide +kernel)) ?_ ?_ ?_ hA
  · exact six (hts _ (by decide +kernel)) (hts _ (by decide +kernel)) (hts _ (by decide +kernel)) (hts _ (by decide +kernel)) (hts _ (by decide +kernel)) (hts _ (by decide +kernel))
  · exact six (fl _ (by decide +kernel)) (fl _ (by decide +kernel)) (fl _ (by decide +kernel)) (fl _ (by decide +kernel)) (fl _ (by decide +kernel)) (fl _ (by decide +kernel))
  · intro q hq
    simp only [ruleF, List.mem_cons, List.not_mem_nil, or_false] at hq
    rcases hq with rfl | rfl | rfl | rfl
    · exact six (fl _ (by decide +kernel)) (fl _ (by decide +kernel)) (fl _ (by decide +kernel)) (fl _ (by decide +kernel)) (fl _ (by decide +kernel)) (fl _ (by decide +kernel))
    · exact six (fl _ (by decide +kernel)) (fl _ (by decide +kernel)) (fl _ (by decide +kernel)) (fl _ (by decide +kernel)) (fl _ (by decide +kernel)) (fl _ (by decide +kernel))
    · exact six (fl _ (by decide +kernel)) (fl _ (by decide +kernel)) (fl _ (by decide +kernel)) (fl _ (by decide +kernel)) (fl _ (by decide +kernel)) (fl _ (by decide +kernel))
    · exact six (fl _ (by decide +kernel)) (fl _ (by decide +kernel)) (fl _ (by decide +kernel)) (fl _ (by decide +kernel)) (fl _ (by decide +kernel)) (fl _ (by decide +kernel))
  · intro i j hi hj hij
    have h : ∀ i, i < 6 → ∀ j, j < 6 → i ≠ j → (Cond.not (.eq (rST i) (rST j)) ∈ flatC (Jvm.Cond.and given_1 narrow_1) ∨ Cond.not (.eq (rST j) (rST i)) ∈ flatC (Jvm.Cond.and given_1 narrow_1)) := by decide +kernel
    exact (h i hi j hj hij).imp (fl _) (fl _)
set_option maxRecDepth 100000 in
set_option maxHeartbeats 4000000 in
theorem st_K {A : Nat → Prop} (hg : (Jvm.Cond.and given_1 narrow_1).before args s = true) (hA : ∀ a : Nat, a < s.heap.size → ¬ A a) : ∃ adK adV : Nat → Nat, vk_S 6 lenR bytR adK adV A s s.heap ∧ ∀ i : Nat, i < 6 → (tmK i).eval args s none [] s = some (.ref (adK i)) := by
  have fl := flat_of_before _ hg
  have hel : ∀ i, i < 6 → ∀ j, j < lenR.getD i 0 → (Cond.eq (.elem (.field (tmK i) "java/lang/String" "value" "[B") (.int (Int32.ofNat j))) (.int ((bytR.getD i []).getD j 0))) ∈ flatC (Jvm.Cond.and given_1 narrow_1) := by decide +kernel
  have hne : ∀ i, i < 6 → ∀ j, j < 6 → i ≠ j → (Cond.not (.eq (tmK i) (tmK j)) ∈ flatC (Jvm.Cond.and given_1 narrow_1) ∨ Cond.not (.eq (tmK j) (tmK i)) ∈ flatC (Jvm.Cond.and given_1 narrow_1)) := by decide +kernel
  refine vk_Sof (by decide) ?_ ?_ ?_ ?_ (fun i hi j hj => fl _ (hel i hi j hj)) (fun i j hi hj hij => (hne i hi j hj hij).imp (fl _) (fl _)) hA
  · exact six (fl _ (by decide +kernel)) (fl _ (by decide +kernel)) (fl _ (by decide +kernel)) (fl _ (by decide +kernel)) (fl _ (by decide +kernel)) (fl _ (by decide +kernel))
  · exact six (fl _ (by decide +kernel)) (fl _ (by decide +kernel)) (fl _ (by decide +kernel)) (fl _ (by decide +kernel)) (fl _ (by decide +kernel)) (fl _ (by decide +kernel))
  · exact six (fl _ (by decide +kernel)) (fl _ (by decide +kernel)) (fl _ (by decide +kernel)) (fl _ (by decide +kernel)) (fl _ (by decide +kernel)) (fl _ (by decide +kernel))
  · exact six (fl _ (by decide +kernel)) (fl _ (by decide +kernel)) (fl _ (by decide +kernel)) (fl _ (by decide +kernel)) (fl _ (by decide +kernel)) (fl _ (by decide +kernel))
end START
